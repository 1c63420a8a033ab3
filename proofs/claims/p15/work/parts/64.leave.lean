/-- three arrays of the logs in others' place -/
def kd_ (μ : km_S) (P X Y : Nat → Int32) : km_S := (μ.1, fun j => if j = 38 then P else if j = 39 then X else if j = 40 then Y else μ.2.1 j, μ.2.2)
/-- a log that lies in no cell and no heap goes elsewhere -/
theorem ih_drop {σ : sz_T × Int32} {g : Int32} {μ : km_S} {P X Y : Nat → Int32} (hg : vp_in g 400) (H : ih_ σ μ) (hf : im_free g μ) (hp : km_a μ 38 g.toNatClampNeg = 1) (h1 : P g.toNatClampNeg ≠ 1) (h3 : P g.toNatClampNeg ≠ 3)
    (eP : ∀ q : Nat, q ≠ g.toNatClampNeg → P q = km_a μ 38 q) (eX : ∀ q : Nat, q ≠ g.toNatClampNeg → X q = km_a μ 39 q) (eY : ∀ q : Nat, q ≠ g.toNatClampNeg → Y q = km_a μ 40 q) : ih_ σ (kd_ μ P X Y) := by
  obtain ⟨⟨n1, n2, n3, n4, n5, n6, n7, n8⟩, hs⟩ := H
  have hg4 := ki_in.1 hg
  obtain ⟨gn, egn⟩ : ∃ gn, gn = g.toNatClampNeg := ⟨_, rfl⟩
  have hgn : (gn : Int) = g.toInt := by rw [egn, ki_nat]; omega
  rw [← egn] at hp h1 h3 eP eX eY
  have nn : ∀ v : Int32, v ≠ g → 0 ≤ v.toInt → v.toNatClampNeg ≠ gn := by
    intro v hv h1 h2
    rw [ki_nat] at h2
    exact hv (ki_eq.2 (by omega))
  refine ⟨⟨n1, n2, ?_, ?_, ?_, ?_, n7, n8⟩, hs⟩
  · intro q hq
    refine ⟨(n3 q hq).1, fun x hx => ?_⟩
    have o := (n3 q hq).2 x hx
    have ne := nn _ (hf q hq x hx) o.1.1
    refine ⟨o.1, (eP _ ne).trans o.2.1, ?_, o.2.2.2⟩
    show 12 * (X (km_a μ 32 (20 * q + x)).toNatClampNeg).toInt + (Y (km_a μ 32 (20 * q + x)).toNatClampNeg).toInt = (q : Int)
    rw [eX _ ne, eY _ ne]; exact o.2.2.1
  · intro q hq
    refine ⟨(n4 q hq).1, fun x hx => ?_⟩
    have o := (n4 q hq).2 x hx
    have ne : (km_a μ 30 (100 * q + x)).toNatClampNeg ≠ gn := by
      intro e
      have := o.2.1
      rw [e, hp] at this
      exact absurd this (by decide)
    refine ⟨o.1, (eP _ ne).trans o.2.1, ?_, o.2.2.2⟩
    show (X (km_a μ 30 (100 * q + x)).toNatClampNeg).toInt = (q : Int)
    rw [eX _ ne]; exact o.2.2.1
  · intro q hq
    have o := n5 q hq
    refine ⟨o.1, o.2.1, ?_, ?_⟩
    · show P q = 1 → (0 ≤ (X q).toInt ∧ (X q).toInt < 10) ∧ (0 ≤ (Y q).toInt ∧ (Y q).toInt < 12)
      by_cases e : q = gn
      · rw [e]; exact fun h => absurd h h1
      · rw [eP q e, eX q e, eY q e]; exact o.2.2.1
    · show (km_i μ 4).toInt ≤ (q : Int) → P q = 0
      intro hq2
      have z := o.2.2.2 hq2
      rw [eP q (fun e => ?_)]
      · exact z
      · rw [e, hp] at z
        exact absurd z (by decide)
  · refine ⟨n6.1, ?_⟩
    show (km_i μ 6).toInt + 9 * (im_un P 400 : Int) ≤ 3600
    rw [im_un_eq (f := km_a μ 38) 400]
    · exact n6.2
    · intro x _
      by_cases e : x = gn
      · rw [e, hp]
        exact ⟨fun h => absurd h h3, fun h => absurd h (by decide)⟩
      · rw [eP x e]
/-- what a log's going leaves of the others: their places, and the row at hand -/
def gf_ (σ : sz_T × Int32) (g : Nat) (μ μ' : km_S) : Prop := ih_ σ μ' ∧ (∀ q : Nat, q ≠ g → km_a μ' 38 q = km_a μ 38 q) ∧ km_a μ' 69 = km_a μ 69
theorem rz_leave134 {σ : sz_T × Int32} {g r : Int32} {μ : km_S} {Q : km_S → Prop} (H : ih_ σ μ) (hg : vp_in g 400) (hp : km_a μ 38 g.toNatClampNeg = 1) (hr : vp_in r 10) (kk : ∀ μ', gf_ σ g.toNatClampNeg μ μ' → Q μ') : wX12_leave_134 Q g r μ := by
  have hr4 := ki_in.1 hr
  have nx := (H.1.2.1 r.toNatClampNeg (by rw [ki_nat]; omega)).1
  refine ⟨hr, fun c => ⟨hr, ?_⟩, fun c => ?_⟩
  · have c' : (km_a μ 13 r.toNatClampNeg).toInt ≠ -1 := fun x => c (ki_eq.2 (x.trans ki_zm.symm))
    refine rz_isOpen H.1.2.1 ⟨by omega, by omega⟩ (by decide) ⟨fun _ => kk _ ⟨H, fun _ _ => rfl, rfl⟩, fun n => absurd rfl n⟩ (fun hh => ⟨fun n => absurd n (by decide), fun _ => ?_⟩)
    refine rz_lift H hg hp (fun F A H2 hf hA => ⟨hr, ?_⟩)
    have hat := im_at (r := km_a μ 13 r.toNatClampNeg) (c := 0) (by omega) (by omega) (by decide) (by decide)
    rw [ki_z0] at hat
    refine rz_lay hg (il_of H2) hp hf ⟨(by show 0 ≤ (km_a μ 13 r.toNatClampNeg).toInt; omega), (by show (km_a μ 13 r.toNatClampNeg).toInt < 10; omega)⟩ (by decide) ?_ (fun F' A' H3 => kk _ ⟨H3, fun _ _ => rfl, rfl⟩)
    show (A (12 * km_a μ 13 r.toNatClampNeg + 0).toNatClampNeg).toInt < 20
    have := hA (12 * km_a μ 13 r.toNatClampNeg + 0).toNatClampNeg (by rw [ki_nat]; omega)
    omega
  · refine rz_lift H hg hp (fun F A H2 hf hA => ⟨hg, fun μ12 e12 => ⟨hg, fun μ14 e14 => ⟨hg, fun μ16 e16 => ?_⟩⟩⟩)
    subst e16; subst e14; subst e12
    have D := ih_drop (P := upd (km_a μ 38) g.toNatClampNeg 4) (X := upd (km_a μ 39) g.toNatClampNeg (-1)) (Y := upd (km_a μ 40) g.toNatClampNeg (-1)) hg H2 hf hp (by rw [ku_self]; decide) (by rw [ku_self]; decide) (fun q hq => ku_ne hq) (fun q hq => ku_ne hq) (fun q hq => ku_ne hq)
    exact kk _ ⟨D, fun q hq => ku_ne hq, rfl⟩
