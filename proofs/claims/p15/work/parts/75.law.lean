/-! a law read whole -/
theorem im_run_of {f g : Nat → Int32} : ∀ (n k e d : Nat), (∀ i, i < e → g i = f i) → im_run f n k e d → im_run g n k e d := by
  intro n
  induction n with
  | zero => intro k e d _ h; exact False.elim h
  | succ n ih =>
    intro k e d hg h
    unfold im_run at h ⊢
    by_cases c : e ≤ k
    · rw [if_pos c] at h ⊢; exact h
    · rw [if_neg c] at h ⊢
      rw [hg k (by omega)]
      split
      · rename_i c; rw [if_pos c] at h; exact ⟨h.1, h.2.1, ih _ _ _ hg h.2.2⟩
      · rename_i c; rw [if_neg c] at h
        split
        · rename_i c; rw [if_pos c] at h; exact ⟨h.1, h.2.1, ih _ _ _ hg h.2.2⟩
        · rename_i c; rw [if_neg c] at h
          split
          · rename_i c; rw [if_pos c] at h; exact ⟨h.1, ih _ _ _ hg h.2⟩
          · rename_i c; rw [if_neg c] at h; exact ⟨h.1, ih _ _ _ hg h.2⟩
theorem im_c_ke {I A : List Nat} {μ M : km_S} (d : ∀ j ∈ [31, 32, 38, 39, 40], j ∉ A) (K : ke_ I A μ M) (h : im_c μ) : im_c M := im_c_of (K.2 31 (d 31 (by decide))) (K.2 32 (d 32 (by decide))) (K.2 38 (d 38 (by decide))) (K.2 39 (d 39 (by decide))) (K.2 40 (d 40 (by decide))) h
theorem im_h_ke {I A : List Nat} {μ M : km_S} (d : ∀ j ∈ [29, 30, 38, 39], j ∉ A) (K : ke_ I A μ M) (h : im_h μ) : im_h M := by
  unfold im_h
  rw [K.2 29 (d 29 (by decide)), K.2 30 (d 30 (by decide)), K.2 38 (d 38 (by decide)), K.2 39 (d 39 (by decide))]
  exact h
theorem im_g_ke {I A : List Nat} {μ M : km_S} (d4 : 4 ∉ I) (d : ∀ j ∈ [35, 36, 38, 39, 40], j ∉ A) (K : ke_ I A μ M) (h : im_g μ) : im_g M := im_g_of (K.1 4 d4) (K.2 35 (d 35 (by decide))) (K.2 36 (d 36 (by decide))) (K.2 38 (d 38 (by decide))) (K.2 39 (d 39 (by decide))) (K.2 40 (d 40 (by decide))) h
theorem im_s_ke {I A : List Nat} {μ M : km_S} (d6 : 6 ∉ I) (d : 38 ∉ A) (K : ke_ I A μ M) (h : im_s μ) : im_s M := im_s_of (K.1 6 d6) (K.2 38 d) h
/-- the rules that are read, k of them, the last one's end told by e -/
def iu_ (M : km_S) (k : Nat) (e : Int32) : Prop := ∀ i : Nat, i < k → 0 ≤ (km_a M 55 (13 * (km_i M 5).toNatClampNeg + i)).toInt ∧ (if i + 1 = k then e else km_a M 55 (13 * (km_i M 5).toNatClampNeg + i + 1)).toInt ≤ (km_i M 59).toInt ∧ ip_ (ir_ M) (km_a M 55 (13 * (km_i M 5).toNatClampNeg + i)).toNatClampNeg (if i + 1 = k then e else km_a M 55 (13 * (km_i M 5).toNatClampNeg + i + 1)).toNatClampNeg 33
def ij_ (μ M : km_S) (k : Nat) : Prop := ke_ iI [55, 56, 58] μ M ∧ it_ M ∧ k ≤ 12 ∧ (∀ y : Nat, y < 900 * (km_i μ 5).toNatClampNeg → km_a M 56 y = km_a μ 56 y) ∧ (∀ y : Nat, y < 13 * (km_i μ 5).toNatClampNeg → km_a M 55 y = km_a μ 55 y) ∧ (km_i M 66 = 0 → 0 ≤ (km_i M 59).toInt ∧ 2 * (km_i M 59).toInt ≤ 3 * (km_i M 64).toInt ∧ iu_ M k (km_i M 59))
/-- what a reading leaves -/
def ik_ (μ M : km_S) : Prop := ke_ iI [54, 55, 56, 58] μ M ∧ (∀ y : Nat, y < 900 * (km_i μ 5).toNatClampNeg → km_a M 56 y = km_a μ 56 y) ∧ (∀ y : Nat, y < 13 * (km_i μ 5).toNatClampNeg → km_a M 55 y = km_a μ 55 y) ∧ (∀ y : Nat, y < (km_i μ 5).toNatClampNeg → km_a M 54 y = km_a μ 54 y) ∧
  (km_i M 66 = 0 → (0 ≤ (km_a M 54 (km_i μ 5).toNatClampNeg).toInt ∧ (km_a M 54 (km_i μ 5).toNatClampNeg).toInt ≤ 12) ∧ ∀ i : Nat, (i : Int) < (km_a M 54 (km_i μ 5).toNatClampNeg).toInt → 0 ≤ (km_a M 55 (13 * (km_i μ 5).toNatClampNeg + i)).toInt ∧ (km_a M 55 (13 * (km_i μ 5).toNatClampNeg + i + 1)).toInt ≤ 900 ∧ im_run (fun j => km_a M 56 (900 * (km_i μ 5).toNatClampNeg + j)) 901 (km_a M 55 (13 * (km_i μ 5).toNatClampNeg + i)).toNatClampNeg (km_a M 55 (13 * (km_i μ 5).toNatClampNeg + i + 1)).toNatClampNeg 0)
theorem ki_13 {a k : Int32} (h1 : 0 ≤ a.toInt) (h2 : a.toInt < 6) (h3 : 0 ≤ k.toInt) (h4 : k.toInt ≤ 12) : vp_in (13 * a + k) 78 ∧ (13 * a + k).toNatClampNeg = 13 * a.toNatClampNeg + k.toNatClampNeg := by
  have z : (13 : Int32).toInt = 13 := by decide
  have m : (13 * a).toInt = 13 * a.toInt := by rw [ki_mul (by rw [z]; omega) (by rw [z]; omega), z]
  have p : (13 * a + k).toInt = 13 * a.toInt + k.toInt := by rw [ki_add (by rw [m]; omega) (by rw [m]; omega), m]
  refine ⟨by rw [ki_in]; omega, by rw [ki_nat, ki_nat, ki_nat, p]; omega⟩
theorem ki_12 {a k : Int32} (h1 : 0 ≤ a.toInt) (h2 : a.toInt < 6) (h3 : 0 ≤ k.toInt) (h4 : k.toInt ≤ 11) : vp_in (12 * a + k) 72 := by
  have z : (12 : Int32).toInt = 12 := by decide
  have m : (12 * a).toInt = 12 * a.toInt := by rw [ki_mul (by rw [z]; omega) (by rw [z]; omega), z]
  have p : (12 * a + k).toInt = 12 * a.toInt + k.toInt := by rw [ki_add (by rw [m]; omega) (by rw [m]; omega), m]
  rw [ki_in]; omega
/-- the end of the last rule written down -/
theorem iu_close {M : km_S} {k : Nat} (U : iu_ M k (km_i M 59)) {F : Nat → Int32} (hF : F = upd (km_a M 55) (13 * (km_i M 5).toNatClampNeg + k) (km_i M 59)) : ∀ i : Nat, i < k → 0 ≤ (F (13 * (km_i M 5).toNatClampNeg + i)).toInt ∧ (F (13 * (km_i M 5).toNatClampNeg + i + 1)).toInt ≤ (km_i M 59).toInt ∧ ip_ (ir_ M) (F (13 * (km_i M 5).toNatClampNeg + i)).toNatClampNeg (F (13 * (km_i M 5).toNatClampNeg + i + 1)).toNatClampNeg 33 := by
  intro i hi
  have o := U i hi
  have e1 : F (13 * (km_i M 5).toNatClampNeg + i) = km_a M 55 (13 * (km_i M 5).toNatClampNeg + i) := by rw [hF, ku_ne (by omega)]
  have e2 : F (13 * (km_i M 5).toNatClampNeg + i + 1) = if i + 1 = k then km_i M 59 else km_a M 55 (13 * (km_i M 5).toNatClampNeg + i + 1) := by
    by_cases c : i + 1 = k
    · rw [if_pos c, hF, Nat.add_assoc, c, ku_self]
    · rw [if_neg c, hF, ku_ne (by omega)]
  rw [e1, e2]
  exact o
theorem rz_readLaw {μ : km_S} {Q : km_S → Prop} (h5 : 0 ≤ (km_i μ 5).toInt ∧ (km_i μ 5).toInt < 6) (h60 : km_i μ 60 = 0) (h61 : 0 ≤ (km_i μ 61).toInt ∧ (km_i μ 61).toInt ≤ 500) (h59 : km_i μ 59 = 0) (kk : ∀ M, ik_ μ M → Q M) : wX12_readLaw μ Q := by
  have z12 : (12 : Int32).toInt = 12 := by decide
  have E147 : ∀ (k : Int32) (M : km_S), 0 ≤ k.toInt → ij_ μ M k.toNatClampNeg → wX12_readLaw_147 Q k M := by
    intro k M hk J
    obtain ⟨j1, j2, j3, j4, j5, j6⟩ := J
    rw [ki_nat] at j3
    have e5 : km_i M 5 = km_i μ 5 := j1.1 5 (by decide)
    have t := ki_13 (a := km_i M 5) (k := k) (by rw [e5]; omega) (by rw [e5]; omega) hk (by omega)
    refine ⟨t.1, fun M2 e2 => ?_⟩
    rw [t.2] at e2
    have f5 : km_i M2 5 = km_i μ 5 := by rw [e2]; exact e5
    refine ⟨by rw [f5, ki_in]; omega, fun M3 e3 => ?_⟩
    rw [f5] at e3
    have K3 : ke_ iI [54, 55, 56, 58] μ M3 := by rw [e3, e2]; exact ke_sa (by decide) (ke_sa (by decide) (ke_mono (by decide) (by decide) j1))
    have a54 : km_a M3 54 = upd (km_a μ 54) (km_i μ 5).toNatClampNeg k := by
      rw [← j1.2 54 (by decide), e3, e2]; rfl
    have a55 : km_a M3 55 = upd (km_a M 55) (13 * (km_i M 5).toNatClampNeg + k.toNatClampNeg) (km_i M 59) := by rw [e3, e2]; rfl
    have a56 : km_a M3 56 = km_a M 56 := by rw [e3, e2]; rfl
    have i66 : km_i M3 66 = km_i M 66 := by rw [e3, e2]; rfl
    clear e3 e2
    refine kk M3 ⟨K3, fun y hy => by rw [a56]; exact j4 y hy, fun y hy => by rw [a55, ku_ne (by rw [e5]; omega)]; exact j5 y hy, fun y hy => by rw [a54, ku_ne (by omega)], fun b => ?_⟩
    rw [i66] at b
    obtain ⟨q1, q2, q3⟩ := j6 b
    have C := iu_close q3 a55
    rw [e5] at C
    rw [a54, ku_self]
    refine ⟨⟨hk, by omega⟩, fun i hi => ?_⟩
    have o := C i (by rw [ki_nat]; omega)
    have t4 := j2.2.1
    have t5 := j2.2.2.2.1
    have t6 := j2.2.2.2.2.1
    refine ⟨o.1, by omega, ?_⟩
    have P := o.2.2
    unfold ir_ at P
    rw [e5] at P
    rw [a56]
    exact ip_end P (by decide) (by rw [ki_nat]; omega)
  have bad : ∀ (k : Nat) (M M2 : km_S), ij_ μ M k → ke_ [66, 67] [] M M2 → km_i M2 66 ≠ 0 → ij_ μ M2 k := fun k M M2 J K b => ⟨ke_trans J.1 (ke_mono (by decide) (by decide) K), it_ke (by decide) K J.2.1, J.2.2.1, fun y hy => by rw [K.2 56 (by decide)]; exact J.2.2.2.1 y hy, fun y hy => by rw [K.2 55 (by decide)]; exact J.2.2.2.2.1 y hy, fun x => absurd x b⟩
  have out : ∀ (k : Nat) (M : km_S), ij_ μ M k → km_i M 66 ≠ 0 → Q M := fun k M J b => kk M ⟨ke_mono (by decide) (by decide) J.1, J.2.2.2.1, J.2.2.2.2.1, fun y _ => by rw [J.1.2 54 (by decide)], fun x => absurd x b⟩
  have L : ∀ (n : Nat) (k : Int32) (M : km_S), 0 ≤ k.toInt → ij_ μ M k.toNatClampNeg → 13 - k.toInt < (n : Int) → wX12_readLaw_6 (wX12_readLaw_147 Q) Q n k M := by
    intro n
    induction n with
    | zero =>
      intro k M hk J g
      have := J.2.2.1
      rw [ki_nat] at this
      omega
    | succ n ih =>
      intro k M hk J g
      have k12 : k.toInt ≤ 12 := by have := J.2.2.1; rw [ki_nat] at this; omega
      have e5 : km_i M 5 = km_i μ 5 := J.1.1 5 (by decide)
      refine ⟨fun _ => E147 k M hk J, fun b => ⟨fun _ => E147 k M hk J, fun kd => ?_⟩⟩
      obtain ⟨q1, q2, q3⟩ := J.2.2.2.2.2 b
      have tl := J.2.1.2.2.2.2.2.1 kd
      have R59 : ∀ (v : Int32) (M2 : km_S), (km_i M2 66 ≠ 0 → ij_ μ M2 k.toNatClampNeg) → (km_i M2 66 = 0 → k ≠ 12 ∧ M2 = M) → wX12_readLaw_59 (wX12_readLaw_6 (wX12_readLaw_147 Q) Q n) Q k v M2 := by
        intro v M2 hb hg
        refine ⟨fun b2 => ?_, fun b2 => out _ M2 (hb b2) b2⟩
        obtain ⟨k12', e⟩ := hg b2
        subst e
        have k11 : k.toInt ≤ 11 := by
          have : k.toInt ≠ 12 := fun x => k12' (ki_eq.2 (x.trans z12.symm))
          omega
        have t := ki_13 (a := km_i M2 5) (k := k) (by rw [e5]; omega) (by rw [e5]; omega) hk (by omega)
        have kn := ki_inc (a := k) (by omega) (by omega)
        refine ⟨ki_12 (by rw [e5]; omega) (by rw [e5]; omega) hk k11, fun M3 e3 => ?_⟩
        have f5 : km_i M3 5 = km_i M2 5 := by rw [e3]; rfl
        rw [f5]
        refine ⟨t.1, fun M4 e4 v14 e14 => ?_⟩
        rw [t.2] at e4
        have K4 : ke_ [] [55, 58] M2 M4 := by rw [e4, e3]; exact ke_sa (by decide) (ke_sa (by decide) ke_refl)
        have a55 : km_a M4 55 = upd (km_a M2 55) (13 * (km_i M2 5).toNatClampNeg + k.toNatClampNeg) (km_i M2 59) := by rw [e4, e3]; rfl
        clear e3 e4
        have C := iu_close q3 a55
        have T4 : it_ M4 := it_ke (by decide) K4 J.2.1
        refine rz_step2 T4 (fun M5 K5 T5 l5 => ?_)
        rw [K4.1 65 (by decide)] at l5
        have c5 : km_i M5 59 = km_i M2 59 := (K5.1 59 (by decide)).trans (K4.1 59 (by decide))
        have b5 : km_i M5 66 = 0 := (K5.1 66 (by decide)).trans ((K4.1 66 (by decide)).trans b2)
        have K5' : ke_ iI [55, 56, 58] μ M5 := ke_trans J.1 (ke_trans (ke_mono (by decide) (by decide) K4) (ke_mono (by decide) (by decide) K5))
        refine rs_expression 8 0 (by decide) (by decide) M5 _ T5 (fun _ => by rw [c5]; omega) (fun M6 R6 => ?_)
        have g5 : km_i M6 5 = km_i μ 5 := (R6.1.1 5 (by decide)).trans (K5'.1 5 (by decide))
        have h5' : km_i M5 5 = km_i μ 5 := K5'.1 5 (by decide)
        have l6 := R6.2.2.1
        have r56 : km_a M5 56 = km_a M2 56 := (K5.2 56 (by decide)).trans (K4.2 56 (by decide))
        have r55 : km_a M6 55 = km_a M4 55 := (R6.1.2 55 (by decide)).trans (K5.2 55 (by decide))
        have s55 : ∀ y : Nat, y < 13 * (km_i μ 5).toNatClampNeg → km_a M6 55 y = km_a μ 55 y := fun y hy => by
          rw [r55, a55, ku_ne (by rw [e5]; omega)]
          exact J.2.2.2.2.1 y hy
        have s56 : ∀ y : Nat, y < 900 * (km_i μ 5).toNatClampNeg → km_a M6 56 y = km_a μ 56 y := fun y hy => by
          rw [R6.2.2.2.1 y (by rw [h5']; exact hy), r56]
          exact J.2.2.2.1 y hy
        have k1n : (k + 1).toNatClampNeg = k.toNatClampNeg + 1 := by rw [ki_nat, ki_nat]; omega
        have k1l : (k + 1).toNatClampNeg ≤ 12 := by rw [ki_nat]; omega
        have J6 : ∀ M7, it_ M7 → ke_ iI [55, 56, 58] M6 M7 → km_a M7 55 = km_a M6 55 → km_a M7 56 = km_a M6 56 → km_i M7 59 = km_i M6 59 → km_i M7 66 = km_i M6 66 → (km_i M6 65).toInt ≤ (km_i M7 64).toInt ∨ km_i M6 66 ≠ 0 → (km_i M6 66 = 0 → (km_i M6 64).toInt < (km_i M6 65).toInt) → ij_ μ M7 (k + 1).toNatClampNeg := by
          intro M7 T7 K7 x55 x56 x59 x66 xl xt
          refine ⟨ke_trans K5' (ke_trans (ke_mono (by decide) (by decide) R6.1) K7), T7, k1l, fun y hy => by rw [x56]; exact s56 y hy, fun y hy => by rw [x55]; exact s55 y hy, fun b7 => ?_⟩
          rw [x66] at b7
          have o := R6.2.2.2.2 b7
          rw [c5] at o
          have xl' : (km_i M6 65).toInt ≤ (km_i M7 64).toInt := xl.elim id (fun z => absurd b7 z)
          have xt' := xt b7
          refine ⟨by rw [x59]; omega, by rw [x59]; omega, ?_⟩
          have x5 : km_i M7 5 = km_i M2 5 := (K7.1 5 (by decide)).trans (g5.trans e5.symm)
          have ir7 : ir_ M7 = ir_ M6 := by unfold ir_; rw [x5, x56, g5, e5]
          have row6 : ∀ i : Nat, (i : Int) < (km_i M2 59).toInt → ir_ M6 i = ir_ M2 i := fun i hi => by
            rw [o.2.2.2.1 i hi]
            unfold ir_
            rw [h5', e5, r56]
          unfold iu_
          rw [ir7, x59, x55, r55, x5, k1n]
          intro i hi
          by_cases c : i = k.toNatClampNeg
          · rw [c, if_pos rfl]
            have u : km_a M4 55 (13 * (km_i M2 5).toNatClampNeg + k.toNatClampNeg) = km_i M2 59 := by rw [a55, ku_self]
            rw [u]
            exact ⟨q1, Int.le_refl _, o.2.2.2.2⟩
          · rw [if_neg (by omega)]
            have cc := C i (by omega)
            refine ⟨cc.1, by omega, ip_of cc.2.2 (fun j _ hj => row6 j ?_)⟩
            rw [ki_nat] at hj
            omega
        rw [e14]
        have R133 : ∀ M7, it_ M7 → ke_ [66, 67] [] M6 M7 → (km_i M7 66 = 0 → km_i M6 66 = 0 ∧ (km_i M6 64).toInt < (km_i M6 65).toInt) → (km_i M7 66 ≠ 0 → ij_ μ M7 (k + 1).toNatClampNeg) → wX12_readLaw_133 (wX12_readLaw_6 (wX12_readLaw_147 Q) Q n) Q (k + 1) M7 := by
          intro M7 T7 K7 hg hb
          refine ⟨fun b7 => ih (k + 1) M7 (by omega) (hb b7) (by omega), fun b7 => rz_step2 T7 (fun M8 K8 T8 l8 => ih (k + 1) M8 (by omega) ?_ (by omega))⟩
          obtain ⟨b6, tl6⟩ := hg b7
          rw [K7.1 65 (by decide)] at l8
          refine J6 M8 T8 (ke_trans (ke_mono (by decide) (by decide) K7) (ke_mono (by decide) (by decide) K8)) ((K8.2 55 (by decide)).trans (K7.2 55 (by decide))) ((K8.2 56 (by decide)).trans (K7.2 56 (by decide))) ((K8.1 59 (by decide)).trans (K7.1 59 (by decide))) ?_ (.inl l8) (fun _ => tl6)
          rw [K8.1 66 (by decide), b7, b6]
        refine ⟨fun b6 => R133 M6 R6.2.1 ke_refl (fun x => absurd x b6) (fun _ => J6 M6 R6.2.1 ke_refl rfl rfl rfl rfl (.inr b6) (fun x => absurd x b6)), fun b6 => rz_isSign ⟨fun x => absurd rfl x, fun _ => ?_⟩ (fun k3 => ⟨fun _ => ?_, fun x => absurd x (by decide)⟩)⟩
        · refine rz_wrong2 (by decide) (fun M7 K7 b7 => R133 M7 (it_ke (by decide) K7 R6.2.1) K7 (fun x => absurd x b7) (fun _ => ?_))
          refine ⟨ke_trans K5' (ke_trans (ke_mono (by decide) (by decide) R6.1) (ke_mono (by decide) (by decide) K7)), it_ke (by decide) K7 R6.2.1, k1l, fun y hy => by rw [K7.2 56 (by decide)]; exact s56 y hy, fun y hy => by rw [K7.2 55 (by decide)]; exact s55 y hy, fun x => absurd x b7⟩
        · have tl6 := R6.2.1.2.2.2.2.2.1 (by rw [k3]; decide)
          exact R133 M6 R6.2.1 ke_refl (fun _ => ⟨b6, tl6⟩) (fun x => absurd b6 x)
      have R48 : ∀ v : Int32, wX12_readLaw_48 (wX12_readLaw_59 (wX12_readLaw_6 (wX12_readLaw_147 Q) Q n) Q) Q k v M := fun v => ⟨fun c => R59 v M (fun x => absurd b x) (fun _ => ⟨c, rfl⟩), fun _ => rz_wrong2 (by decide) (fun M2 K2 b2 => R59 v M2 (fun _ => bad _ M M2 J K2 b2) (fun x => absurd x b2))⟩
      exact rz_isWord2 (by decide) J.2.1 ⟨fun x => absurd rfl x, fun _ => rz_isWord2 (by decide) J.2.1 ⟨fun x => absurd rfl x, fun _ => rz_wrong2 (by decide) (fun M2 K2 b2 => R59 0 M2 (fun _ => bad _ M M2 J K2 b2) (fun x => absurd x b2))⟩ (fun _ => ⟨fun _ => R48 0, fun x => absurd x (by decide)⟩)⟩ (fun _ => ⟨fun _ => R48 1, fun x => absurd x (by decide)⟩)
  refine rz_step (by rw [h60]; decide) (by rw [h60, ki_z0]; omega) h61.2 (fun M S => ⟨14, ?_⟩)
  obtain ⟨K, s1, s2, s3, s4, s5⟩ := S
  rw [h60, ki_z0] at s1
  have c0 : km_i M 59 = 0 := (K.1 59 (by decide)).trans h59
  refine L 14 0 M (by decide) ⟨ke_mono (by decide) (by decide) K, ?_, by decide, fun y _ => by rw [K.2 56 (by decide)], fun y _ => by rw [K.2 55 (by decide)], fun _ => ⟨by rw [c0]; decide, by rw [c0, ki_z0]; omega, fun i hi => absurd hi (Nat.not_lt_zero i)⟩⟩ (by decide)
  unfold it_
  rw [K.1 61 (by decide), K.1 5 (by decide)]
  exact ⟨s1, s2, s3, s4, h61.2, s5, h5⟩
