/-- what a state asks for before a log is laid: all but the log's own reach and cell -/
def il_ (σ : sz_T × Int32) (gn : Nat) (μ : km_S) : Prop := (im_n μ ∧ im_r μ ∧ im_c μ ∧ im_h μ ∧ (∀ g : Nat, g < 400 → (0 ≤ (km_a μ 35 g).toInt ∧ (km_a μ 35 g).toInt ≤ 15) ∧ (0 ≤ (km_a μ 36 g).toInt ∧ (km_a μ 36 g).toInt ≤ 9) ∧ (g ≠ gn → km_a μ 38 g = 1 → (0 ≤ (km_a μ 39 g).toInt ∧ (km_a μ 39 g).toInt < 10) ∧ (0 ≤ (km_a μ 40 g).toInt ∧ (km_a μ 40 g).toInt < 12)) ∧ ((km_i μ 4).toInt ≤ (g : Int) → km_a μ 38 g = 0)) ∧ im_s μ ∧ im_w μ ∧ im_l μ) ∧ (sm_ μ, km_i μ 1) = σ
theorem il_of {σ : sz_T × Int32} {gn : Nat} {μ : km_S} (h : ih_ σ μ) : il_ σ gn μ := ⟨⟨h.1.1, h.1.2.1, h.1.2.2.1, h.1.2.2.2.1, fun g hg => ⟨(h.1.2.2.2.2.1 g hg).1, (h.1.2.2.2.2.1 g hg).2.1, fun _ => (h.1.2.2.2.2.1 g hg).2.2.1, (h.1.2.2.2.2.1 g hg).2.2.2⟩, h.1.2.2.2.2.2⟩, h.2⟩
theorem rz_lay {σ : sz_T × Int32} {g r c : Int32} {μ : km_S} {Q : km_S → Prop} (hg : vp_in g 400) (H : il_ σ g.toNatClampNeg μ) (hp : km_a μ 38 g.toNatClampNeg = 1) (hf : im_free g μ) (hr : 0 ≤ r.toInt ∧ r.toInt < 10) (hc : 0 ≤ c.toInt ∧ c.toInt < 12) (hh : (km_a μ 31 (12 * r + c).toNatClampNeg).toInt < 20)
    (kk : ∀ F A : Nat → Int32, ih_ σ (km_sa (km_sa (kk_ μ F A) 39 g.toNatClampNeg r) 40 g.toNatClampNeg c) → Q (km_sa (km_sa (kk_ μ F A) 39 g.toNatClampNeg r) 40 g.toNatClampNeg c)) : wX12_lay g r c μ Q := by
  obtain ⟨⟨n1, n2, n3, n4, n5, n6, n7, n8⟩, hs⟩ := H
  have hg4 := ki_in.1 hg
  obtain ⟨gn, egn⟩ : ∃ gn, gn = g.toNatClampNeg := ⟨_, rfl⟩
  have hgn : (gn : Int) = g.toInt := by rw [egn, ki_nat]; omega
  rw [← egn] at hp n5 kk
  have hat := im_at hr.1 hr.2 hc.1 hc.2
  unfold wX12_lay wX12_at0
  obtain ⟨K, eK⟩ : ∃ K, K = 12 * r + c := ⟨_, rfl⟩
  rw [← eK] at hat hh
  rw [← eK, ← egn]
  have hK : vp_in K 120 := by rw [ki_in]; omega
  obtain ⟨k, ek⟩ : ∃ k, k = K.toNatClampNeg := ⟨_, rfl⟩
  have hk : (k : Int) = K.toInt := by rw [ek, ki_nat]; omega
  have hk120 : k < 120 := by omega
  rw [← ek] at hh
  dsimp only
  rw [← ek]
  have h0 := (n3 k hk120).1
  have h20 := ki_20 (k := K) (i := km_a μ 31 k) (by omega) (by omega) (by omega) (by omega)
  obtain ⟨y, ey⟩ : ∃ y, y = (km_a μ 31 k).toNatClampNeg := ⟨_, rfl⟩
  have hy : (y : Int) = (km_a μ 31 k).toInt := by rw [ey, ki_nat]; omega
  have pt : (20 * K + km_a μ 31 k).toNatClampNeg = 20 * k + y := by rw [ki_nat, h20]; omega
  have ih1 := ki_inc (a := km_a μ 31 k) (by omega) (by omega)
  refine ⟨hK, by rw [ki_in]; omega, fun μ5 e5 => ⟨hK, hK, fun μ8 e8 => ⟨hg, fun μ10 e10 => ⟨hg, fun μ12 e12 => ?_⟩⟩⟩⟩
  have e8' : μ8 = kk_ μ (upd (km_a μ 32) (20 * k + y) g) (upd (km_a μ 31) k (km_a μ 31 k + 1)) := by
    rw [e8, e5, pt]
    show km_sa (km_sa μ 32 (20 * k + y) g) 31 k (km_a μ 31 k + 1) = _
    rw [← kk_31, ← kk_32, kk_id]
  rw [e12, e10, e8']
  obtain ⟨F, eF⟩ : ∃ F, F = upd (km_a μ 32) (20 * k + y) g := ⟨_, rfl⟩
  obtain ⟨A, eA⟩ : ∃ A, A = upd (km_a μ 31) k (km_a μ 31 k + 1) := ⟨_, rfl⟩
  rw [← eF, ← eA]
  have A0 : ∀ q : Nat, q ≠ k → A q = km_a μ 31 q := fun q hq => by rw [eA, ku_ne hq]
  have A1 : (A k).toInt = (km_a μ 31 k).toInt + 1 := by rw [eA, ku_self, ih1]
  have F1 : F (20 * k + y) = g := by rw [eF, ku_self]
  have F0 : ∀ p : Nat, p ≠ 20 * k + y → F p = km_a μ 32 p := fun p hq => by rw [eF, ku_ne hq]
  have nn : ∀ v : Int32, v ≠ g → 0 ≤ v.toInt → v.toNatClampNeg ≠ gn := by
    intro v hv h1 h2
    rw [ki_nat] at h2
    exact hv (ki_eq.2 (by omega))
  refine kk F A ⟨⟨n1, n2, ?_, ?_, ?_, n6, n7, n8⟩, hs⟩
  · intro q hq
    show (0 ≤ (A q).toInt ∧ (A q).toInt ≤ 20) ∧ ∀ i : Nat, (i : Int) < (A q).toInt → (0 ≤ (F (20 * q + i)).toInt ∧ (F (20 * q + i)).toInt < 400) ∧ km_a μ 38 (F (20 * q + i)).toNatClampNeg = 1 ∧ 12 * (upd (km_a μ 39) gn r (F (20 * q + i)).toNatClampNeg).toInt + (upd (km_a μ 40) gn c (F (20 * q + i)).toNatClampNeg).toInt = (q : Int) ∧ ∀ j : Nat, (j : Int) < (A q).toInt → F (20 * q + j) = F (20 * q + i) → j = i
    have o := n3 q hq
    by_cases e : q = k
    · subst e
      rw [A1]
      refine ⟨by omega, fun x hx => ?_⟩
      by_cases ex : x = y
      · rw [ex, F1, ← egn, ku_self, ku_self]
        refine ⟨by omega, hp, by omega, fun j hj ej => ?_⟩
        by_cases ejy : j = y
        · exact ejy
        · rw [F0 _ (by omega)] at ej
          exact absurd ej (hf q hq j (by omega))
      · have o2 := o.2 x (by omega)
        have ne := nn _ (hf q hq x (by omega)) o2.1.1
        rw [F0 _ (by omega), ku_ne ne, ku_ne ne]
        refine ⟨o2.1, o2.2.1, o2.2.2.1, fun j hj ej => ?_⟩
        by_cases ejy : j = y
        · rw [ejy, F1] at ej
          exact absurd ej.symm (hf q hq x (by omega))
        · rw [F0 _ (by omega)] at ej
          exact o2.2.2.2 j (by omega) ej
    · rw [A0 q e]
      refine ⟨o.1, fun x hx => ?_⟩
      have o2 := o.2 x hx
      have same : ∀ z : Nat, (z : Int) < (km_a μ 31 q).toInt → F (20 * q + z) = km_a μ 32 (20 * q + z) := fun z hz => F0 _ (by omega)
      have ne := nn _ (hf q hq x hx) o2.1.1
      rw [same x hx, ku_ne ne, ku_ne ne]
      refine ⟨o2.1, o2.2.1, o2.2.2.1, fun j hj ej => ?_⟩
      rw [same j hj] at ej
      exact o2.2.2.2 j hj ej
  · intro q hq
    refine ⟨(n4 q hq).1, fun x hx => ?_⟩
    have o := (n4 q hq).2 x hx
    have ne : (km_a μ 30 (100 * q + x)).toNatClampNeg ≠ gn := by
      intro e
      have := o.2.1
      rw [e, hp] at this
      exact absurd this (by decide)
    refine ⟨o.1, o.2.1, ?_, o.2.2.2⟩
    show (upd (km_a μ 39) gn r (km_a μ 30 (100 * q + x)).toNatClampNeg).toInt = (q : Int)
    rw [ku_ne ne]; exact o.2.2.1
  · intro q hq
    have o := n5 q hq
    refine ⟨o.1, o.2.1, ?_, o.2.2.2⟩
    show km_a μ 38 q = 1 → (0 ≤ (upd (km_a μ 39) gn r q).toInt ∧ (upd (km_a μ 39) gn r q).toInt < 10) ∧ (0 ≤ (upd (km_a μ 40) gn c q).toInt ∧ (upd (km_a μ 40) gn c q).toInt < 12)
    intro h
    by_cases e : q = gn
    · rw [e, ku_self, ku_self]; exact ⟨hr, hc⟩
    · rw [ku_ne e, ku_ne e]; exact o.2.2.1 e h
theorem rz_isOpen {r c : Int32} {μ : km_S} {Q : Int32 → km_S → Prop} (I : im_r μ) (hr : 0 ≤ r.toInt ∧ r.toInt < 10) (hc : 0 ≤ c.toInt ∧ c.toInt < 12) (h0 : Q 0 μ) (h1 : (km_a μ 31 (12 * r + c).toNatClampNeg).toInt < 20 → Q 1 μ) : wX12_isOpen r c μ Q := by
  have hat := im_at hr.1 hr.2 hc.1 hc.2
  have hK : vp_in (12 * r + c) 120 := by rw [ki_in]; omega
  have hr10 : vp_in r 10 := by rw [ki_in]; omega
  have := (I r.toNatClampNeg (by rw [ki_nat]; omega)).2.2.1
  refine ⟨hK, hr10, fun _ => h0, fun d => ⟨hK, fun _ => h0, fun _ => h1 ?_⟩⟩
  rw [ki_le] at d
  omega
