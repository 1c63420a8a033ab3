/-- a log on the bank is marked as afloat: ready to be laid -/
theorem il_bank {σ : sz_T × Int32} {g : Int32} {μ : km_S} (H : ih_ σ μ) (h0 : 0 ≤ g.toInt) (h1 : g.toInt < (km_i μ 4).toInt) (hp : km_a μ 38 g.toNatClampNeg = 0) : il_ σ g.toNatClampNeg (km_sa μ 38 g.toNatClampNeg 1) ∧ im_free g (km_sa μ 38 g.toNatClampNeg 1) := by
  obtain ⟨⟨n1, n2, n3, n4, n5, n6, n7, n8⟩, hs⟩ := H
  obtain ⟨gn, egn⟩ : ∃ gn, gn = g.toNatClampNeg := ⟨_, rfl⟩
  have hgn : (gn : Int) = g.toInt := by rw [egn, ki_nat]; omega
  rw [← egn] at hp
  rw [← egn]
  refine ⟨⟨⟨n1, n2, ?_, ?_, ?_, ?_, n7, n8⟩, hs⟩, ?_⟩
  · intro q hq
    refine ⟨(n3 q hq).1, fun x hx => ?_⟩
    have o := (n3 q hq).2 x hx
    refine ⟨o.1, ?_, o.2.2.1, o.2.2.2⟩
    exact ku_r (P := fun y => y = 1) rfl o.2.1
  · intro q hq
    refine ⟨(n4 q hq).1, fun x hx => ?_⟩
    have o := (n4 q hq).2 x hx
    refine ⟨o.1, ?_, o.2.2.1, o.2.2.2⟩
    show upd (km_a μ 38) gn 1 (km_a μ 30 (100 * q + x)).toNatClampNeg = 2
    rw [ku_ne (fun e => ?_)]
    · exact o.2.1
    · have := o.2.1
      rw [e, hp] at this
      exact absurd this (by decide)
  · intro q hq
    have o := n5 q hq
    refine ⟨o.1, o.2.1, ?_, ?_⟩
    · show q ≠ gn → upd (km_a μ 38) gn 1 q = 1 → (0 ≤ (km_a μ 39 q).toInt ∧ (km_a μ 39 q).toInt < 10) ∧ (0 ≤ (km_a μ 40 q).toInt ∧ (km_a μ 40 q).toInt < 12)
      intro ne
      rw [ku_ne ne]
      exact o.2.2.1
    · show (km_i μ 4).toInt ≤ (q : Int) → upd (km_a μ 38) gn 1 q = 0
      intro hq2
      rw [ku_ne (by omega)]
      exact o.2.2.2 hq2
  · refine ⟨n6.1, ?_⟩
    show (km_i μ 6).toInt + 9 * (im_un (upd (km_a μ 38) gn 1) 400 : Int) ≤ 3600
    rw [im_un_eq (f := km_a μ 38) 400]
    · exact n6.2
    · intro x _
      by_cases e : x = gn
      · rw [e, ku_self, hp]
        exact ⟨fun h => absurd h (by decide), fun h => absurd h (by decide)⟩
      · rw [ku_ne e]
  · intro q hq x hx eg
    have o := ((n3 q hq).2 x hx).2.1
    have eg' : km_a μ 32 (20 * q + x) = g := eg
    rw [eg', ← egn, hp] at o
    exact absurd o (by decide)
theorem rz_let {g r c : Int32} {μ : km_S} (I : im_ μ) : wX12_let g r c μ (pu_ (sm_ μ)) := by
  intro μ1 e1
  have H : ih_ (sm_ μ, 0) μ1 := by rw [e1]; exact ⟨im_code 0 I, rfl⟩
  refine rz_isLog (fun _ => ⟨fun _ => rz_fail (ih_u H), fun n => absurd rfl n⟩) (fun a b => ⟨fun n => absurd n (by decide), fun _ => ?_⟩)
  have hg : vp_in g 400 := by have := H.1.1.2.1; rw [ki_in]; omega
  refine rz_isCell H.1 ⟨fun n => absurd rfl n, fun _ => rz_fail (ih_u H)⟩ (fun a2 b2 a3 b3 => ⟨fun _ => ⟨hg, fun hp => ?_, fun _ => ih_u H⟩, fun n => absurd n (by decide)⟩)
  have b10 := H.1.1.1
  refine rz_ruled H.1 hg (fun v S u => ⟨fun _ => ?_, fun _ => ih_u (ih_kv H)⟩)
  have H2 : ih_ (sm_ μ, 0) (kv_ μ1 S u) := ih_kv H
  have hp2 : km_a (kv_ μ1 S u) 38 g.toNatClampNeg = 0 := hp
  have b2' : g.toInt < (km_i (kv_ μ1 S u) 4).toInt := b
  generalize kv_ μ1 S u = μ2 at H2 hp2 b2'
  refine rz_isOpen H2.1.2.1 ⟨a2, by omega⟩ ⟨a3, b3⟩ ⟨fun n => absurd rfl n, fun _ => ih_u H2⟩ (fun hh => ⟨fun _ => ⟨hg, fun μ19 e19 => ?_⟩, fun n => absurd n (by decide)⟩)
  subst e19
  have B := il_bank H2 a b2' hp2
  exact rz_lay hg B.1 ku_self B.2 ⟨a2, by omega⟩ ⟨a3, b3⟩ hh (fun F A h => ih_u h)
