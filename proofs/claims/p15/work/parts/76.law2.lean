def z_law (n b : Int32) (σ : sz_T) : Int32 × sz_T := if n < 0 ∨ σ.1.2.2.2.2.1 < n ∨ b < 0 ∨ ¬ b ≤ 1000 then (1, σ) else (0, ((σ.1.1, σ.1.2.1, σ.1.2.2.1, σ.1.2.2.2.1, 0, σ.1.2.2.2.2.2), σ.2))
abbrev py_ (z : Int32 × sz_T) : Int32 → km_S → Prop := fun _ μ => im_ μ ∧ (km_i μ 1, sm_ μ) = z
theorem rz_law {n b : Int32} {μ : km_S} (I : im_ μ) : wX12_law n b μ (py_ (z_law n b (sm_ μ))) := by
  intro μ1 e1
  have I1 : im_ μ1 := by rw [e1]; exact im_code 0 I
  have s1 : sm_ μ1 = sm_ μ := by rw [e1]; rfl
  have k1 : km_i μ1 1 = 0 := by rw [e1]; rfl
  rw [← s1]
  clear e1 s1 I
  have no : (n < 0 ∨ km_i μ1 9 < n ∨ b < 0 ∨ ¬ b ≤ 1000) → wX12_law_28 (py_ (z_law n b (sm_ μ1))) μ1 := fun c μ2 e2 => by
    subst e2
    refine ⟨im_code 1 I1, ?_⟩
    unfold z_law
    rw [if_pos (show n < 0 ∨ (sm_ μ1).1.2.2.2.2.1 < n ∨ b < 0 ∨ ¬ b ≤ 1000 from c)]
    rfl
  refine ⟨fun c1 => no (.inl c1), fun c1 => ⟨fun c2 => no (.inr (.inl c2)), fun c2 => ⟨fun c3 => no (.inr (.inr (.inl c3))), fun c3 => ⟨fun c4 => ?_, fun c4 => no (.inr (.inr (.inr c4)))⟩⟩⟩⟩
  rw [show z_law n b (sm_ μ1) = (0, ((km_i μ1 3, km_i μ1 4, km_i μ1 7, km_i μ1 8, 0, km_i μ1 2), (sm_ μ1).2)) from if_neg (show ¬ (n < 0 ∨ km_i μ1 9 < n ∨ b < 0 ∨ ¬ b ≤ 1000) from fun h => h.elim c1 (fun h => h.elim c2 (fun h => h.elim c3 (fun h => h c4))))]
  rw [ki_lt, ki_z0] at c1
  rw [ki_lt] at c2
  have I2 := I1
  obtain ⟨n1, n2, n3, n4, n5, n6, n7, n8⟩ := I2
  obtain ⟨m1, m2, m3, m4, m5, m6⟩ := n1
  intro μ8 e8 μ9 e9
  have K9 : ke_ [9, 10] [] μ1 μ9 := by rw [e9, e8]; exact ke_si (by decide) (ke_si (by decide) ke_refl)
  have t9 : km_i μ9 9 = 0 := by rw [e9, e8]; rfl
  clear e8 e9
  have fin : ∀ M, ke_ [9, 10, 5, 59, 60, 61, 62, 63, 64, 65, 66, 67] [53, 54, 55, 56, 58] μ1 M → km_i M 9 = 0 → (0 ≤ (km_i M 5).toInt ∧ (km_i M 5).toInt ≤ 6) → im_l M → im_ M ∧ (km_i M 1, sm_ M) = (0, ((km_i μ1 3, km_i μ1 4, km_i μ1 7, km_i μ1 8, 0, km_i μ1 2), (sm_ μ1).2)) := by
    intro M K i9 i5 l
    refine ⟨⟨?_, im_r_ke (by decide) K n2, im_c_ke (by decide) K n3, im_h_ke (by decide) K n4, im_g_ke (by decide) (by decide) K n5, im_s_ke (by decide) (by decide) K n6, im_w_ke (by decide) K n7, l⟩, ?_⟩
    · unfold im_n
      rw [i9, K.1 3 (by decide), K.1 4 (by decide), K.1 7 (by decide), K.1 8 (by decide)]
      exact ⟨m1, m2, i5, m4, m5, by decide⟩
    · unfold sm_
      rw [i9, K.1 1 (by decide), K.1 3 (by decide), K.1 4 (by decide), K.1 7 (by decide), K.1 8 (by decide), K.1 2 (by decide), K.2 21 (by decide), K.2 26 (by decide), K.2 17 (by decide), K.2 23 (by decide), K.2 22 (by decide), k1]
  have f5 : km_i μ9 5 = km_i μ1 5 := K9.1 5 (by decide)
  refine ⟨fun c5 μ11 e11 μ12 e12 μ13 e13 μ14 e14 => ?_, fun _ => fin μ9 (ke_mono (by decide) (by decide) K9) t9 (by rw [f5]; exact m3) (im_l_ke (by decide) (by decide) K9 n8)⟩
  have h5 : (km_i μ1 5).toInt < 6 := by
    have z6 : (6 : Int32).toInt = 6 := by decide
    have : (km_i μ1 5).toInt ≠ 6 := fun x => c5 (by rw [f5]; exact ki_eq.2 (x.trans z6.symm))
    omega
  have K14 : ke_ [9, 10, 5, 59, 60, 61, 62, 63, 64, 65, 66, 67] [53, 54, 55, 56, 58] μ1 μ14 := by rw [e14, e13, e12, e11]; exact ke_si (by decide) (ke_si (by decide) (ke_si (by decide) (ke_si (by decide) (ke_mono (by decide) (by decide) K9))))
  have g5 : km_i μ14 5 = km_i μ1 5 := by rw [e14, e13, e12, e11]; exact f5
  have g9 : km_i μ14 9 = 0 := by rw [e14, e13, e12, e11]; exact t9
  have g60 : km_i μ14 60 = 0 := by rw [e14, e13, e12, e11]; rfl
  have g59 : km_i μ14 59 = 0 := by rw [e14, e13, e12, e11]; rfl
  have g61 : km_i μ14 61 = n := by rw [e14, e13, e12, e11]; rfl
  have g54 : km_a μ14 54 = km_a μ1 54 := by rw [e14, e13, e12, e11]; exact K9.2 54 (by decide)
  have g55 : km_a μ14 55 = km_a μ1 55 := by rw [e14, e13, e12, e11]; exact K9.2 55 (by decide)
  have g56 : km_a μ14 56 = km_a μ1 56 := by rw [e14, e13, e12, e11]; exact K9.2 56 (by decide)
  clear e14 e13 e12 e11
  refine rz_readLaw (by rw [g5]; omega) g60 (by rw [g61]; omega) g59 (fun M R => ?_)
  obtain ⟨K, r1, r2, r3, r4⟩ := R
  rw [g5] at r1 r2 r3 r4
  rw [g54] at r3
  rw [g55] at r2
  rw [g56] at r1
  have M5 : km_i M 5 = km_i μ1 5 := (K.1 5 (by decide)).trans g5
  have M9 : km_i M 9 = 0 := (K.1 9 (by decide)).trans g9
  have KM : ke_ [9, 10, 5, 59, 60, 61, 62, 63, 64, 65, 66, 67] [53, 54, 55, 56, 58] μ1 M := ke_trans K14 (ke_mono (by decide) (by decide) K)
  obtain ⟨L, eL⟩ : ∃ L, L = (km_i μ1 5).toNatClampNeg := ⟨_, rfl⟩
  have hL : (L : Int) = (km_i μ1 5).toInt := by rw [eL, ki_nat]; omega
  rw [← eL] at r1 r2 r3 r4
  have old : ∀ l : Nat, (l : Int) < (km_i μ1 5).toInt → (0 ≤ (km_a M 54 l).toInt ∧ (km_a M 54 l).toInt ≤ 12) ∧ ∀ k : Nat, (k : Int) < (km_a M 54 l).toInt →
      0 ≤ (km_a M 55 (13 * l + k)).toInt ∧ (km_a M 55 (13 * l + k + 1)).toInt ≤ 900 ∧ im_run (fun i => km_a M 56 (900 * l + i)) 901 (km_a M 55 (13 * l + k)).toNatClampNeg (km_a M 55 (13 * l + k + 1)).toNatClampNeg 0 := by
    intro l hl
    have o := n8 l hl
    rw [r3 l (by omega)]
    refine ⟨o.1, fun k hk => ?_⟩
    have o2 := o.2 k hk
    rw [r2 (13 * l + k) (by omega), r2 (13 * l + k + 1) (by omega)]
    refine ⟨o2.1, o2.2.1, im_run_of _ _ _ _ (fun i hi => r1 _ ?_) o2.2.2⟩
    rw [ki_nat] at hi
    omega
  refine ⟨fun b0 => ⟨by rw [M5, ki_in]; omega, fun M2 e2 M3 e3 => ?_⟩, fun b0 M2 e2 => ?_⟩
  · have K3 : ke_ [9, 10, 5, 59, 60, 61, 62, 63, 64, 65, 66, 67] [53, 54, 55, 56, 58] μ1 M3 := by rw [e3, e2]; exact ke_si (by decide) (ke_sa (by decide) KM)
    have i5 : km_i M3 5 = km_i μ1 5 + 1 := by rw [e3, e2, ← M5]; rfl
    have i9 : km_i M3 9 = 0 := by rw [e3, e2]; exact M9
    have a54 : km_a M3 54 = km_a M 54 := by rw [e3, e2]; rfl
    have a55 : km_a M3 55 = km_a M 55 := by rw [e3, e2]; rfl
    have a56 : km_a M3 56 = km_a M 56 := by rw [e3, e2]; rfl
    clear e3 e2
    have ii := ki_inc (a := km_i μ1 5) (by omega) (by omega)
    refine fin M3 K3 i9 (by rw [i5]; omega) ?_
    unfold im_l
    rw [a54, a55, a56, i5, ii]
    intro l hl
    by_cases c : l = L
    · rw [c]
      exact r4 b0
    · exact old l (by omega)
  · have K2 : ke_ [9, 10, 5, 59, 60, 61, 62, 63, 64, 65, 66, 67] [53, 54, 55, 56, 58] μ1 M2 := by rw [e2]; exact ke_si (by decide) KM
    have i5 : km_i M2 5 = km_i μ1 5 := by rw [e2]; exact M5
    have i9 : km_i M2 9 = 0 := by rw [e2]; exact M9
    have a54 : km_a M2 54 = km_a M 54 := by rw [e2]; rfl
    have a55 : km_a M2 55 = km_a M 55 := by rw [e2]; rfl
    have a56 : km_a M2 56 = km_a M 56 := by rw [e2]; rfl
    clear e2
    refine fin M2 K2 i9 (by rw [i5]; exact m3) ?_
    unfold im_l
    rw [a54, a55, a56, i5]
    exact old
/-- a fresh reference -/
theorem im_new {μ : km_S} (hi : ∀ j ∈ [2, 3, 4, 5, 6, 7, 8, 9], km_i μ j = 0) (ha : ∀ j, j ≠ 13 → ∀ i, km_a μ j i = 0) (h13 : ∀ i : Nat, i < 10 → km_a μ 13 i = 0 ∨ km_a μ 13 i = -1) : im_ μ := by
  have un : ∀ n : Nat, (im_un (km_a μ 38) n) = n := by
    intro n
    induction n with
    | zero => unfold im_un; rfl
    | succ n ih =>
      unfold im_un
      rw [ih, ha 38 (by decide), if_neg (by decide)]
  refine ⟨?_, fun r hr => ?_, fun k hk => ?_, fun r hr => ?_, fun g hg => ?_, ?_, fun k hk => ?_, fun l hl => ?_⟩
  · unfold im_n
    rw [hi 3 (by decide), hi 4 (by decide), hi 5 (by decide), hi 7 (by decide), hi 8 (by decide), hi 9 (by decide)]
    decide
  · rw [ha 14 (by decide), ha 15 (by decide), ha 28 (by decide), ha 23 (by decide)]
    rcases h13 r hr with e | e
    · rw [e]; decide
    · rw [e]; decide
  · rw [ha 31 (by decide)]
    exact ⟨by decide, fun i hi => by rw [ki_z0] at hi; omega⟩
  · rw [ha 29 (by decide)]
    exact ⟨by decide, fun i hi => by rw [ki_z0] at hi; omega⟩
  · rw [ha 35 (by decide), ha 36 (by decide), ha 38 (by decide)]
    exact ⟨by decide, by decide, fun x => absurd x (by decide), fun _ => rfl⟩
  · unfold im_s
    rw [un, hi 6 (by decide)]
    decide
  · rw [ha 44 (by decide)]
    decide
  · rw [hi 5 (by decide), ki_z0] at hl
    omega
