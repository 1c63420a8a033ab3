/-! two states alike but for some fields -/
def ke_ (I A : List Nat) (μ μ' : km_S) : Prop := (∀ j, j ∉ I → km_i μ' j = km_i μ j) ∧ (∀ j, j ∉ A → km_a μ' j = km_a μ j)
theorem ke_refl {I A : List Nat} {μ : km_S} : ke_ I A μ μ := ⟨fun _ _ => rfl, fun _ _ => rfl⟩
theorem ke_trans {I A : List Nat} {a b c : km_S} (h1 : ke_ I A a b) (h2 : ke_ I A b c) : ke_ I A a c := ⟨fun j hj => (h2.1 j hj).trans (h1.1 j hj), fun j hj => (h2.2 j hj).trans (h1.2 j hj)⟩
theorem ke_mono {I A I' A' : List Nat} {a b : km_S} (hI : ∀ j, j ∈ I → j ∈ I') (hA : ∀ j, j ∈ A → j ∈ A') (h : ke_ I A a b) : ke_ I' A' a b := ⟨fun j hj => h.1 j (fun q => hj (hI j q)), fun j hj => h.2 j (fun q => hj (hA j q))⟩
theorem ke_sa {I A : List Nat} {a b : km_S} {k i : Nat} {v : Int32} (hk : k ∈ A) (h : ke_ I A a b) : ke_ I A a (km_sa b k i v) := by
  refine ⟨fun j hj => h.1 j hj, fun j hj => ?_⟩
  have e : j ≠ k := fun q => hj (q ▸ hk)
  show (if j = k then upd (b.2.1 k) i v else b.2.1 j) = _
  rw [if_neg e]
  exact h.2 j hj
theorem ke_si {I A : List Nat} {a b : km_S} {k : Nat} {v : Int32} (hk : k ∈ I) (h : ke_ I A a b) : ke_ I A a (km_si b k v) := by
  refine ⟨fun j hj => ?_, fun j hj => h.2 j hj⟩
  have e : j ≠ k := fun q => hj (q ▸ hk)
  show upd b.1 k v j = _
  rw [ku_ne e]
  exact h.1 j hj
theorem im_n_ke {I A : List Nat} {μ M : km_S} (d : ∀ j ∈ [3, 4, 5, 7, 8, 9], j ∉ I) (K : ke_ I A μ M) (h : im_n μ) : im_n M := by
  unfold im_n
  rw [K.1 3 (d 3 (by decide)), K.1 4 (d 4 (by decide)), K.1 5 (d 5 (by decide)), K.1 7 (d 7 (by decide)), K.1 8 (d 8 (by decide)), K.1 9 (d 9 (by decide))]
  exact h
theorem im_r_ke {I A : List Nat} {μ M : km_S} (d : ∀ j ∈ [13, 14, 15, 28, 23], j ∉ A) (K : ke_ I A μ M) (h : im_r μ) : im_r M := by
  unfold im_r
  rw [K.2 13 (d 13 (by decide)), K.2 14 (d 14 (by decide)), K.2 15 (d 15 (by decide)), K.2 28 (d 28 (by decide)), K.2 23 (d 23 (by decide))]
  exact h
theorem im_w_ke {I A : List Nat} {μ M : km_S} (d : 44 ∉ A) (K : ke_ I A μ M) (h : im_w μ) : im_w M := by
  unfold im_w
  rw [K.2 44 d]
  exact h
theorem im_l_ke {I A : List Nat} {μ M : km_S} (d5 : 5 ∉ I) (d : ∀ j ∈ [54, 55, 56], j ∉ A) (K : ke_ I A μ M) (h : im_l μ) : im_l M := by
  unfold im_l
  rw [K.1 5 d5, K.2 54 (d 54 (by decide)), K.2 55 (d 55 (by decide)), K.2 56 (d 56 (by decide))]
  exact h
theorem sm_ke {I A : List Nat} {μ M : km_S} (d : ∀ j ∈ [3, 4, 7, 8, 9, 2, 1], j ∉ I) (d2 : ∀ j ∈ [21, 26, 17, 23, 22], j ∉ A) (K : ke_ I A μ M) : (sm_ M, km_i M 1) = (sm_ μ, km_i μ 1) := by
  unfold sm_
  rw [K.1 3 (d 3 (by decide)), K.1 4 (d 4 (by decide)), K.1 7 (d 7 (by decide)), K.1 8 (d 8 (by decide)), K.1 9 (d 9 (by decide)), K.1 2 (d 2 (by decide)), K.1 1 (d 1 (by decide)), K.2 21 (d2 21 (by decide)), K.2 26 (d2 26 (by decide)), K.2 17 (d2 17 (by decide)), K.2 23 (d2 23 (by decide)), K.2 22 (d2 22 (by decide))]
/-- a log of a heap is sawn -/
theorem ih_mill {σ : sz_T × Int32} {μ M : km_S} {r p : Nat} (H : ih_ σ μ) (hr : r < 10) (hp : (p : Int) < (km_a μ 29 r).toInt) (K : ke_ [6] [29, 30, 38, 42, 43, 50] μ M)
    (e29 : km_a M 29 = upd (km_a μ 29) r (km_a μ 29 r - 1))
    (e30a : ∀ q : Nat, q < 10 → q ≠ r → ∀ x : Nat, x < 100 → km_a M 30 (100 * q + x) = km_a μ 30 (100 * q + x))
    (e30b : ∀ x : Nat, x < p → km_a M 30 (100 * r + x) = km_a μ 30 (100 * r + x))
    (e30c : ∀ x : Nat, p ≤ x → (x : Int) + 1 < (km_a μ 29 r).toInt → km_a M 30 (100 * r + x) = km_a μ 30 (100 * r + x + 1))
    (e38 : km_a M 38 = upd (km_a μ 38) (km_a μ 30 (100 * r + p)).toNatClampNeg 3)
    (b0 : 0 ≤ (km_i M 6).toInt) (b1 : (km_i M 6).toInt ≤ (km_i μ 6).toInt + 9) : ih_ σ M := by
  obtain ⟨⟨n1, n2, n3, n4, n5, n6, n7, n8⟩, hs⟩ := H
  have hh := (n4 r hr).1
  have og := (n4 r hr).2 p hp
  obtain ⟨v, ev⟩ : ∃ v, v = km_a μ 30 (100 * r + p) := ⟨_, rfl⟩
  rw [← ev] at og e38
  obtain ⟨g, eg⟩ : ∃ g, g = v.toNatClampNeg := ⟨_, rfl⟩
  have hg : (g : Int) = v.toInt := by rw [eg, ki_nat]; omega
  rw [← eg] at og e38
  have dec := ki_dec2 (a := km_a μ 29 r) (by omega)
  refine ⟨⟨im_n_ke (by decide) K n1, im_r_ke (by decide) K n2, ?_, ?_, ?_, ?_, im_w_ke (by decide) K n7, im_l_ke (by decide) (by decide) K n8⟩, (sm_ke (by decide) (by decide) K).trans hs⟩
  · unfold im_c
    rw [K.2 31 (by decide), K.2 32 (by decide), K.2 39 (by decide), K.2 40 (by decide), e38]
    intro k hk
    refine ⟨(n3 k hk).1, fun i hi => ?_⟩
    have o := (n3 k hk).2 i hi
    refine ⟨o.1, ?_, o.2.2.1, o.2.2.2⟩
    rw [ku_ne (fun q => ?_)]
    · exact o.2.1
    · have t := o.2.1
      rw [q, og.2.1] at t
      exact absurd t (by decide)
  · unfold im_h
    rw [e29, e38, K.2 39 (by decide)]
    intro q hq
    have oq := n4 q hq
    by_cases e : q = r
    · subst e
      rw [ku_self, dec]
      have row : ∀ x : Nat, (x : Int) < (km_a μ 29 q).toInt - 1 → ∃ y : Nat, (y : Int) < (km_a μ 29 q).toInt ∧ y ≠ p ∧ (y = x ∧ x < p ∨ y = x + 1 ∧ p ≤ x) ∧ km_a M 30 (100 * q + x) = km_a μ 30 (100 * q + y) := by
        intro x hx
        by_cases c : x < p
        · exact ⟨x, by omega, by omega, .inl ⟨rfl, c⟩, e30b x c⟩
        · exact ⟨x + 1, by omega, by omega, .inr ⟨rfl, by omega⟩, e30c x (by omega) (by omega)⟩
      refine ⟨by omega, fun x hx => ?_⟩
      obtain ⟨y, hy, yp, yx, ey⟩ := row x hx
      have o := oq.2 y hy
      rw [ey]
      refine ⟨o.1, ?_, o.2.2.1, fun j hj ej => ?_⟩
      · rw [ku_ne (fun t => ?_)]
        · exact o.2.1
        · rw [eg, ki_nat, ki_nat] at t
          have t2 : km_a μ 30 (100 * q + p) = km_a μ 30 (100 * q + y) := by
            rw [← ev]
            exact ki_eq.2 (by omega)
          exact yp (o.2.2.2 p hp t2).symm
      · obtain ⟨z, hz, zp, zx, ez⟩ := row j hj
        rw [ez] at ej
        have := o.2.2.2 z hz ej
        omega
    · rw [ku_ne e]
      refine ⟨oq.1, fun x hx => ?_⟩
      have o := oq.2 x hx
      rw [e30a q hq e x (by omega)]
      refine ⟨o.1, ?_, o.2.2.1, fun j hj ej => ?_⟩
      · rw [ku_ne (fun t => ?_)]
        · exact o.2.1
        · have t2 := o.2.2.1
          rw [t] at t2
          have := og.2.2.1
          omega
      · rw [e30a q hq e j (by omega)] at ej
        exact o.2.2.2 j hj ej
  · unfold im_g
    rw [K.1 4 (by decide), K.2 35 (by decide), K.2 36 (by decide), K.2 39 (by decide), K.2 40 (by decide), e38]
    intro q hq
    have o := n5 q hq
    refine ⟨o.1, o.2.1, fun t => ?_, fun t => ?_⟩
    · by_cases e : q = g
      · rw [e, ku_self] at t
        exact absurd t (by decide)
      · rw [ku_ne e] at t
        exact o.2.2.1 t
    · by_cases e : q = g
      · have t2 := o.2.2.2 t
        rw [e, og.2.1] at t2
        exact absurd t2 (by decide)
      · rw [ku_ne e]
        exact o.2.2.2 t
  · have := im_un_saw (f := km_a μ 38) (g := g) (by rw [og.2.1]; decide) 400 (by omega)
    unfold im_s
    rw [e38]
    have n62 := n6.2
    omega
theorem rz_saw {g : Int32} {μ : km_S} {Q : km_S → Prop} (hg : vp_in g 400) (hs : (km_a μ 36 g.toNatClampNeg).toInt ≤ 9) (hb0 : 0 ≤ (km_i μ 6).toInt) (hb1 : (km_i μ 6).toInt + 9 ≤ 3600)
    (kk : ∀ M, ke_ [6] [38, 42, 43] μ M → km_a M 38 = upd (km_a μ 38) g.toNatClampNeg 3 → 0 ≤ (km_i M 6).toInt → (km_i M 6).toInt ≤ (km_i μ 6).toInt + 9 → Q M) : wX12_saw g μ Q := by
  have L : ∀ (n : Nat) (i : Int32) (M : km_S), 0 ≤ i.toInt → i.toInt ≤ 9 → 9 - i.toInt < (n : Int) → ke_ [6] [38, 42, 43] μ M → km_a M 38 = upd (km_a μ 38) g.toNatClampNeg 3 → (km_i M 6).toInt = (km_i μ 6).toInt + i.toInt → wX12_saw_19 Q n g i M := by
    intro n
    induction n with
    | zero => intro i M h1 h2 h3; omega
    | succ n ih =>
      intro i M h1 h2 h3 K e38 e6
      refine ⟨hg, fun _ => kk M K e38 (by omega) (by omega), fun c => ?_⟩
      rw [K.2 36 (by decide), ki_le] at c
      have ii := ki_inc (a := i) (by omega) (by omega)
      have bi := ki_inc (a := km_i M 6) (by omega) (by omega)
      refine ⟨by rw [ki_in]; omega, fun μ4 e4 μ5 e5 v ev => ?_⟩
      subst e4; subst e5; subst ev
      exact ih (i + 1) _ (by omega) (by omega) (by omega) (ke_si (by decide) (ke_sa (by decide) K)) e38 (by
        show (km_i M 6 + 1).toInt = _
        omega)
  refine ⟨hg, fun μ8 e8 => ⟨hg, fun μ10 e10 => ⟨10, ?_⟩⟩⟩
  subst e8; subst e10
  exact L 10 0 _ (by decide) (by decide) (by decide) (ke_sa (by decide) (ke_sa (by decide) ke_refl)) rfl (by rw [ki_z0]; show (km_i μ 6).toInt = _; omega)
