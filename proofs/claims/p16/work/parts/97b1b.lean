def vJ7_copyOf_6403c (l0 : Nat) (l1 : Int32) (σ : kx_S) (Q : Nat → kx_S → Prop) : Prop := xc σ < kx_N → ¬ l1 < 0 → l1.toNatClampNeg ≤ 600 → ∀ p14, xt σ p14 = 0 → p14 ≠ xz σ → ∀ σ20, σ20 = xnewA σ p14 22 l1.toNatClampNeg → vJ7_copyOf_6403c_24 Q l0 l1 p14 σ20
set_option maxRecDepth 100000 in
set_option maxHeartbeats 4000000 in
theorem jcJ7_copyOf_6403c {Q Q' Q'' : Nat → kx_S → Prop} (hQ : ∀ y0 y1, Q y0 y1 → Q' y0 y1 → Q'' y0 y1) : ∀ (l0 : Nat) (l1 : Int32) (σ : kx_S), wJ7_copyOf_6403c l0 l1 σ Q → vJ7_copyOf_6403c l0 l1 σ Q' → wJ7_copyOf_6403c l0 l1 σ Q'' := by
  intro l0 l1 σ h v
  unfold wJ7_copyOf_6403c at h
  unfold vJ7_copyOf_6403c at v
  unfold wJ7_copyOf_6403c
  refine ⟨h.1, ?_⟩
  have v := v h.1
  have h := h.2
  refine ⟨h.1, ?_⟩
  have v := v h.1
  have h := h.2
  refine ⟨h.1, ?_⟩
  have v := v h.1
  have h := h.2
  intro p14 e4 e5
  have h := h p14 e4 e5
  have v := v p14 e4 e5
  intro σ20 e6
  have h := h σ20 e6
  have v := v σ20 e6
  exact jcJ7_copyOf_6403c_24 hQ _ _ _ _ h v
set_option maxRecDepth 100000 in
set_option maxHeartbeats 4000000 in
theorem jaJ7_copyOf_6403c {Q Q' : Nat → kx_S → Prop} (hQ : ∀ y0 y1, Q y0 y1 → Q' y0 y1) : ∀ (l0 : Nat) (l1 : Int32) (σ : kx_S), wJ7_copyOf_6403c l0 l1 σ Q → vJ7_copyOf_6403c l0 l1 σ Q' := by
  intro l0 l1 σ h
  unfold wJ7_copyOf_6403c at h
  unfold vJ7_copyOf_6403c
  intro e1
  have h := h.2
  intro e2
  have h := h.2
  intro e3
  have h := h.2
  intro p14 e4 e5
  have h := h p14 e4 e5
  intro σ20 e6
  have h := h σ20 e6
  exact jaJ7_copyOf_6403c_24 hQ _ _ _ _ h
set_option maxRecDepth 100000 in
set_option maxHeartbeats 4000000 in
theorem jfJ7_copyOf_6403c {I : kx_S → Prop} (W : fw_ I [1003, 1222]) {Q : Nat → kx_S → Prop} (hQ : ∀ y0 y1, I y1 → Q y0 y1) : ∀ (l0 : Nat) (l1 : Int32) (σ : kx_S), I σ → vJ7_copyOf_6403c l0 l1 σ Q := by
  intro l0 l1 σ i
  unfold vJ7_copyOf_6403c
  intro e1
  intro e2
  intro e3
  intro p14 e4 e5
  intro σ20 e6
  have iσ20 : I σ20 := by rw [e6]; exact (W _ i).2.2.2.2.2.2.2 22 (by decide) _ e4 _
  exact jfJ7_copyOf_6403c_24 (I := I) (fw_sub W (by decide)) hQ _ _ _ _ iσ20
def vJ7_copyOf_1904c (l0 : Nat) (l1 : Int32) (σ : kx_S) (Q : Nat → kx_S → Prop) : Prop := xt σ l0 = 22 → vJ7_copyOf_6403c l0 l1 σ (fun b3 σ2 => Q b3 σ2)
set_option maxRecDepth 100000 in
set_option maxHeartbeats 4000000 in
theorem jcJ7_copyOf_1904c {Q Q' Q'' : Nat → kx_S → Prop} (hQ : ∀ y0 y1, Q y0 y1 → Q' y0 y1 → Q'' y0 y1) : ∀ (l0 : Nat) (l1 : Int32) (σ : kx_S), wJ7_copyOf_1904c l0 l1 σ Q → vJ7_copyOf_1904c l0 l1 σ Q' → wJ7_copyOf_1904c l0 l1 σ Q'' := by
  intro l0 l1 σ h v
  unfold wJ7_copyOf_1904c at h
  unfold vJ7_copyOf_1904c at v
  unfold wJ7_copyOf_1904c
  refine ⟨h.1, ?_⟩
  have v := v h.1
  have h := h.2
  refine jcJ7_copyOf_6403c ?_ _ _ _ h v
  intro b3 σ2 h v
  exact hQ _ _ h v
set_option maxRecDepth 100000 in
set_option maxHeartbeats 4000000 in
theorem jaJ7_copyOf_1904c {Q Q' : Nat → kx_S → Prop} (hQ : ∀ y0 y1, Q y0 y1 → Q' y0 y1) : ∀ (l0 : Nat) (l1 : Int32) (σ : kx_S), wJ7_copyOf_1904c l0 l1 σ Q → vJ7_copyOf_1904c l0 l1 σ Q' := by
  intro l0 l1 σ h
  unfold wJ7_copyOf_1904c at h
  unfold vJ7_copyOf_1904c
  intro e1
  have h := h.2
  refine jaJ7_copyOf_6403c ?_ _ _ _ h
  intro b3 σ2 h
  exact hQ _ _ h
set_option maxRecDepth 100000 in
set_option maxHeartbeats 4000000 in
theorem jfJ7_copyOf_1904c {I : kx_S → Prop} (W : fw_ I [1003, 1222]) {Q : Nat → kx_S → Prop} (hQ : ∀ y0 y1, I y1 → Q y0 y1) : ∀ (l0 : Nat) (l1 : Int32) (σ : kx_S), I σ → vJ7_copyOf_1904c l0 l1 σ Q := by
  intro l0 l1 σ i
  unfold vJ7_copyOf_1904c
  intro e1
  refine jfJ7_copyOf_6403c (I := I) (fw_sub W (by decide)) ?_ _ _ _ i
  intro b3 σ2 iσ2
  exact hQ _ _ iσ2
def vJx4a65c_grow_92f84_20 (Q : Nat → kx_S → Prop) (l0 : Nat) (l1 : Int32) (l2 : Int32) (σ : kx_S) : Prop := vJ8_newLength_cabcc l2 (l1 - l2) (l2 >>> (1 &&& 31)) σ (fun r2 σ1 => xt σ1 l0 = 1 → ∀ a4, xr σ1 17 l0 = some a4 → vJ7_copyOf_1904c a4 r2 σ1 (fun b7 σ6 => xt σ6 l0 = 1 → ∀ σ9, σ9 = xsr σ6 17 l0 (some b7) → Q b7 σ9))
set_option maxRecDepth 100000 in
set_option maxHeartbeats 4000000 in
theorem jcJx4a65c_grow_92f84_20 {Q Q' Q'' : Nat → kx_S → Prop} (hQ : ∀ y0 y1, Q y0 y1 → Q' y0 y1 → Q'' y0 y1) : ∀ (l0 : Nat) (l1 : Int32) (l2 : Int32) (σ : kx_S), wJx4a65c_grow_92f84_20 Q l0 l1 l2 σ → vJx4a65c_grow_92f84_20 Q' l0 l1 l2 σ → wJx4a65c_grow_92f84_20 Q'' l0 l1 l2 σ := by
  intro l0 l1 l2 σ h v
  unfold wJx4a65c_grow_92f84_20 at h
  unfold vJx4a65c_grow_92f84_20 at v
  unfold wJx4a65c_grow_92f84_20
  refine jcJ8_newLength_cabcc ?_ _ _ _ _ h v
  intro r2 σ1 h v
  refine ⟨h.1, ?_⟩
  have v := v h.1
  have h := h.2
  obtain ⟨a4, e2, h⟩ := h
  refine ⟨a4, e2, ?_⟩
  have v := v a4 e2
  refine jcJ7_copyOf_1904c ?_ _ _ _ h v
  intro b7 σ6 h v
  refine ⟨h.1, ?_⟩
  have v := v h.1
  have h := h.2
  intro σ9 e4
  have h := h σ9 e4
  have v := v σ9 e4
  exact hQ _ _ h v
set_option maxRecDepth 100000 in
set_option maxHeartbeats 4000000 in
theorem jaJx4a65c_grow_92f84_20 {Q Q' : Nat → kx_S → Prop} (hQ : ∀ y0 y1, Q y0 y1 → Q' y0 y1) : ∀ (l0 : Nat) (l1 : Int32) (l2 : Int32) (σ : kx_S), wJx4a65c_grow_92f84_20 Q l0 l1 l2 σ → vJx4a65c_grow_92f84_20 Q' l0 l1 l2 σ := by
  intro l0 l1 l2 σ h
  unfold wJx4a65c_grow_92f84_20 at h
  unfold vJx4a65c_grow_92f84_20
  refine jaJ8_newLength_cabcc ?_ _ _ _ _ h
  intro r2 σ1 h
  intro e1
  have h := h.2
  obtain ⟨a4', e2, h⟩ := h
  intro a4 e3
  have x9 : a4' = a4 := Option.some.inj (e2.symm.trans e3)
  rw [x9] at h
  refine jaJ7_copyOf_1904c ?_ _ _ _ h
  intro b7 σ6 h
  intro e4
  have h := h.2
  intro σ9 e5
  have h := h σ9 e5
  exact hQ _ _ h
set_option maxRecDepth 100000 in
set_option maxHeartbeats 4000000 in
theorem jfJx4a65c_grow_92f84_20 {I : kx_S → Prop} (W : fw_ I [17, 1003, 1222]) {Q : Nat → kx_S → Prop} (hQ : ∀ y0 y1, I y1 → Q y0 y1) : ∀ (l0 : Nat) (l1 : Int32) (l2 : Int32) (σ : kx_S), I σ → vJx4a65c_grow_92f84_20 Q l0 l1 l2 σ := by
  intro l0 l1 l2 σ i
  unfold vJx4a65c_grow_92f84_20
  refine jfJ8_newLength_cabcc (I := I) (fw_sub W (by decide)) ?_ _ _ _ _ i
  intro r2 σ1 iσ1
  intro e1
  intro a4 e2
  refine jfJ7_copyOf_1904c (I := I) (fw_sub W (by decide)) ?_ _ _ _ iσ1
  intro b7 σ6 iσ6
  intro e3
  intro σ9 e4
  have iσ9 : I σ9 := by rw [e4]; exact ((W _ iσ6).1 17 (by decide)).2.1 _ _
  exact hQ _ _ iσ9
def vJx4a65c_grow_92f84 (l0 : Nat) (l1 : Int32) (σ : kx_S) (Q : Nat → kx_S → Prop) : Prop := xt σ l0 = 1 → ∀ a12, xr σ 17 l0 = some a12 → ((a12 = xz σ → ((0 < (0 : Int32) → vJx4a65c_grow_92f84_20 Q l0 l1 0 σ) ∧ (¬ (0 < (0 : Int32)) → ∀ a16, xr σ 17 l0 = some a16 → ((some a16 = some (xz σ) → ∀ v19, v19 = (if 10 < l1 then l1 else 10) → xc σ < kx_N → ¬ v19 < 0 → v19.toNatClampNeg ≤ 600 → ∀ p20, xt σ p20 = 0 → p20 ≠ xz σ → ∀ σ26, σ26 = xnewA σ p20 22 v19.toNatClampNeg → xt σ26 l0 = 1 → ∀ σ29, σ29 = xsr σ26 17 l0 (some p20) → Q p20 σ29) ∧ (¬ (some a16 = some (xz σ)) → vJx4a65c_grow_92f84_20 Q l0 l1 0 σ))))) ∧ (¬ (a12 = xz σ) → xt σ a12 = 22 → ∀ v33, v33 = nI (xn σ a12) → ((0 < v33 → vJx4a65c_grow_92f84_20 Q l0 l1 v33 σ) ∧ (¬ (0 < v33) → ∀ a35, xr σ 17 l0 = some a35 → ((some a35 = some (xz σ) → ∀ v38, v38 = (if 10 < l1 then l1 else 10) → xc σ < kx_N → ¬ v38 < 0 → v38.toNatClampNeg ≤ 600 → ∀ p39, xt σ p39 = 0 → p39 ≠ xz σ → ∀ σ45, σ45 = xnewA σ p39 22 v38.toNatClampNeg → xt σ45 l0 = 1 → ∀ σ48, σ48 = xsr σ45 17 l0 (some p39) → Q p39 σ48) ∧ (¬ (some a35 = some (xz σ)) → vJx4a65c_grow_92f84_20 Q l0 l1 v33 σ))))))
set_option maxRecDepth 100000 in
set_option maxHeartbeats 4000000 in
theorem jcJx4a65c_grow_92f84 {Q Q' Q'' : Nat → kx_S → Prop} (hQ : ∀ y0 y1, Q y0 y1 → Q' y0 y1 → Q'' y0 y1) : ∀ (l0 : Nat) (l1 : Int32) (σ : kx_S), wJx4a65c_grow_92f84 l0 l1 σ Q → vJx4a65c_grow_92f84 l0 l1 σ Q' → wJx4a65c_grow_92f84 l0 l1 σ Q'' := by
  intro l0 l1 σ h v
  unfold wJx4a65c_grow_92f84 at h
  unfold vJx4a65c_grow_92f84 at v
  unfold wJx4a65c_grow_92f84
  refine ⟨h.1, ?_⟩
  have v := v h.1
  have h := h.2
  obtain ⟨a12, e2, h⟩ := h
  refine ⟨a12, e2, ?_⟩
  have v := v a12 e2
  refine ⟨?_, ?_⟩
  · have h := h.1
    have v := v.1
    intro e3
    have h := h e3
    have v := v e3
    refine ⟨?_, ?_⟩
    · have h := h.1
      have v := v.1
      intro e4
      have h := h e4
      have v := v e4
      exact jcJx4a65c_grow_92f84_20 hQ _ _ _ _ h v
    · have h := h.2
      have v := v.2
      intro e5
      have h := h e5
      have v := v e5
      obtain ⟨a16, e6, h⟩ := h
      refine ⟨a16, e6, ?_⟩
      have v := v a16 e6
      refine ⟨?_, ?_⟩
      · have h := h.1
        have v := v.1
        intro e7
        have h := h e7
        have v := v e7
        intro v19 e8
        have h := h v19 e8
        have v := v v19 e8
        refine ⟨h.1, ?_⟩
        have v := v h.1
        have h := h.2
        refine ⟨h.1, ?_⟩
        have v := v h.1
        have h := h.2
        refine ⟨h.1, ?_⟩
        have v := v h.1
        have h := h.2
        intro p20 e12 e13
        have h := h p20 e12 e13
        have v := v p20 e12 e13
        intro σ26 e14
        have h := h σ26 e14
        have v := v σ26 e14
        refine ⟨h.1, ?_⟩
        have v := v h.1
        have h := h.2
        intro σ29 e16
        have h := h σ29 e16
        have v := v σ29 e16
        exact hQ _ _ h v
      · have h := h.2
        have v := v.2
        intro e17
        have h := h e17
        have v := v e17
        exact jcJx4a65c_grow_92f84_20 hQ _ _ _ _ h v
  · have h := h.2
    have v := v.2
    intro e18
    have h := h e18
    have v := v e18
    refine ⟨h.1, ?_⟩
    have v := v h.1
    have h := h.2
    intro v33 e20
    have h := h v33 e20
    have v := v v33 e20
    refine ⟨?_, ?_⟩
    · have h := h.1
      have v := v.1
      intro e21
      have h := h e21
      have v := v e21
      exact jcJx4a65c_grow_92f84_20 hQ _ _ _ _ h v
    · have h := h.2
      have v := v.2
      intro e22
      have h := h e22
      have v := v e22
      obtain ⟨a35, e23, h⟩ := h
      refine ⟨a35, e23, ?_⟩
      have v := v a35 e23
      refine ⟨?_, ?_⟩
      · have h := h.1
        have v := v.1
        intro e24
        have h := h e24
        have v := v e24
        intro v38 e25
        have h := h v38 e25
        have v := v v38 e25
        refine ⟨h.1, ?_⟩
        have v := v h.1
        have h := h.2
        refine ⟨h.1, ?_⟩
        have v := v h.1
        have h := h.2
        refine ⟨h.1, ?_⟩
        have v := v h.1
        have h := h.2
        intro p39 e29 e30
        have h := h p39 e29 e30
        have v := v p39 e29 e30
        intro σ45 e31
        have h := h σ45 e31
        have v := v σ45 e31
        refine ⟨h.1, ?_⟩
        have v := v h.1
        have h := h.2
        intro σ48 e33
        have h := h σ48 e33
        have v := v σ48 e33
        exact hQ _ _ h v
      · have h := h.2
        have v := v.2
        intro e34
        have h := h e34
        have v := v e34
        exact jcJx4a65c_grow_92f84_20 hQ _ _ _ _ h v
set_option maxRecDepth 100000 in
set_option maxHeartbeats 4000000 in
theorem jaJx4a65c_grow_92f84 {Q Q' : Nat → kx_S → Prop} (hQ : ∀ y0 y1, Q y0 y1 → Q' y0 y1) : ∀ (l0 : Nat) (l1 : Int32) (σ : kx_S), wJx4a65c_grow_92f84 l0 l1 σ Q → vJx4a65c_grow_92f84 l0 l1 σ Q' := by
  intro l0 l1 σ h
  unfold wJx4a65c_grow_92f84 at h
  unfold vJx4a65c_grow_92f84
  intro e1
  have h := h.2
  obtain ⟨a12', e2, h⟩ := h
  intro a12 e3
  have x9 : a12' = a12 := Option.some.inj (e2.symm.trans e3)
  rw [x9] at h
  refine ⟨?_, ?_⟩
  · have h := h.1
    intro e4
    have h := h e4
    refine ⟨?_, ?_⟩
    · have h := h.1
      intro e5
      have h := h e5
      exact jaJx4a65c_grow_92f84_20 hQ _ _ _ _ h
    · have h := h.2
      intro e6
      have h := h e6
      obtain ⟨a16', e7, h⟩ := h
      intro a16 e8
      have x9 : a16' = a16 := Option.some.inj (e7.symm.trans e8)
      rw [x9] at h
      refine ⟨?_, ?_⟩
      · have h := h.1
        intro e9
        have h := h e9
        intro v19 e10
        have h := h v19 e10
        intro e11
        have h := h.2
        intro e12
        have h := h.2
        intro e13
        have h := h.2
        intro p20 e14 e15
        have h := h p20 e14 e15
        intro σ26 e16
        have h := h σ26 e16
        intro e17
        have h := h.2
        intro σ29 e18
        have h := h σ29 e18
        exact hQ _ _ h
      · have h := h.2
        intro e19
        have h := h e19
        exact jaJx4a65c_grow_92f84_20 hQ _ _ _ _ h
  · have h := h.2
    intro e20
    have h := h e20
    intro e21
    have h := h.2
    intro v33 e22
    have h := h v33 e22
    refine ⟨?_, ?_⟩
    · have h := h.1
      intro e23
      have h := h e23
      exact jaJx4a65c_grow_92f84_20 hQ _ _ _ _ h
    · have h := h.2
      intro e24
      have h := h e24
      obtain ⟨a35', e25, h⟩ := h
      intro a35 e26
      have x9 : a35' = a35 := Option.some.inj (e25.symm.trans e26)
      rw [x9] at h
      refine ⟨?_, ?_⟩
      · have h := h.1
        intro e27
        have h := h e27
        intro v38 e28
        have h := h v38 e28
        intro e29
        have h := h.2
        intro e30
        have h := h.2
        intro e31
        have h := h.2
        intro p39 e32 e33
        have h := h p39 e32 e33
        intro σ45 e34
        have h := h σ45 e34
        intro e35
        have h := h.2
        intro σ48 e36
        have h := h σ48 e36
        exact hQ _ _ h
      · have h := h.2
        intro e37
        have h := h e37
        exact jaJx4a65c_grow_92f84_20 hQ _ _ _ _ h
set_option maxRecDepth 100000 in
set_option maxHeartbeats 4000000 in
theorem jfJx4a65c_grow_92f84 {I : kx_S → Prop} (W : fw_ I [17, 1003, 1222]) {Q : Nat → kx_S → Prop} (hQ : ∀ y0 y1, I y1 → Q y0 y1) : ∀ (l0 : Nat) (l1 : Int32) (σ : kx_S), I σ → vJx4a65c_grow_92f84 l0 l1 σ Q := by
  intro l0 l1 σ i
  unfold vJx4a65c_grow_92f84
  intro e1
  intro a12 e2
  refine ⟨?_, ?_⟩
  · intro e3
    refine ⟨?_, ?_⟩
    · intro e4
      exact jfJx4a65c_grow_92f84_20 (I := I) (fw_sub W (by decide)) hQ _ _ _ _ i
    · intro e5
      intro a16 e6
      refine ⟨?_, ?_⟩
      · intro e7
        intro v19 e8
        intro e9
        intro e10
        intro e11
        intro p20 e12 e13
        intro σ26 e14
        have iσ26 : I σ26 := by rw [e14]; exact (W _ i).2.2.2.2.2.2.2 22 (by decide) _ e12 _
        intro e15
        intro σ29 e16
        have iσ29 : I σ29 := by rw [e16]; exact ((W _ iσ26).1 17 (by decide)).2.1 _ _
        exact hQ _ _ iσ29
      · intro e17
        exact jfJx4a65c_grow_92f84_20 (I := I) (fw_sub W (by decide)) hQ _ _ _ _ i
  · intro e18
    intro e19
    intro v33 e20
    refine ⟨?_, ?_⟩
    · intro e21
      exact jfJx4a65c_grow_92f84_20 (I := I) (fw_sub W (by decide)) hQ _ _ _ _ i
    · intro e22
      intro a35 e23
      refine ⟨?_, ?_⟩
      · intro e24
        intro v38 e25
        intro e26
        intro e27
        intro e28
        intro p39 e29 e30
        intro σ45 e31
        have iσ45 : I σ45 := by rw [e31]; exact (W _ i).2.2.2.2.2.2.2 22 (by decide) _ e29 _
        intro e32
        intro σ48 e33
        have iσ48 : I σ48 := by rw [e33]; exact ((W _ iσ45).1 17 (by decide)).2.1 _ _
        exact hQ _ _ iσ48
      · intro e34
        exact jfJx4a65c_grow_92f84_20 (I := I) (fw_sub W (by decide)) hQ _ _ _ _ i
def vJx4a65c_grow_d5877 (l0 : Nat) (σ : kx_S) (Q : Nat → kx_S → Prop) : Prop := xt σ l0 = 1 → vJx4a65c_grow_92f84 l0 ((xi σ 18 l0) + 1) σ (fun b3 σ2 => Q b3 σ2)
set_option maxRecDepth 100000 in
set_option maxHeartbeats 4000000 in
theorem jcJx4a65c_grow_d5877 {Q Q' Q'' : Nat → kx_S → Prop} (hQ : ∀ y0 y1, Q y0 y1 → Q' y0 y1 → Q'' y0 y1) : ∀ (l0 : Nat) (σ : kx_S), wJx4a65c_grow_d5877 l0 σ Q → vJx4a65c_grow_d5877 l0 σ Q' → wJx4a65c_grow_d5877 l0 σ Q'' := by
  intro l0 σ h v
  unfold wJx4a65c_grow_d5877 at h
  unfold vJx4a65c_grow_d5877 at v
  unfold wJx4a65c_grow_d5877
  refine ⟨h.1, ?_⟩
  have v := v h.1
  have h := h.2
  refine jcJx4a65c_grow_92f84 ?_ _ _ _ h v
  intro b3 σ2 h v
  exact hQ _ _ h v
set_option maxRecDepth 100000 in
set_option maxHeartbeats 4000000 in
theorem jaJx4a65c_grow_d5877 {Q Q' : Nat → kx_S → Prop} (hQ : ∀ y0 y1, Q y0 y1 → Q' y0 y1) : ∀ (l0 : Nat) (σ : kx_S), wJx4a65c_grow_d5877 l0 σ Q → vJx4a65c_grow_d5877 l0 σ Q' := by
  intro l0 σ h
  unfold wJx4a65c_grow_d5877 at h
  unfold vJx4a65c_grow_d5877
  intro e1
  have h := h.2
  refine jaJx4a65c_grow_92f84 ?_ _ _ _ h
  intro b3 σ2 h
  exact hQ _ _ h
set_option maxRecDepth 100000 in
set_option maxHeartbeats 4000000 in
theorem jfJx4a65c_grow_d5877 {I : kx_S → Prop} (W : fw_ I [17, 1003, 1222]) {Q : Nat → kx_S → Prop} (hQ : ∀ y0 y1, I y1 → Q y0 y1) : ∀ (l0 : Nat) (σ : kx_S), I σ → vJx4a65c_grow_d5877 l0 σ Q := by
  intro l0 σ i
  unfold vJx4a65c_grow_d5877
  intro e1
  refine jfJx4a65c_grow_92f84 (I := I) (fw_sub W (by decide)) ?_ _ _ _ i
  intro b3 σ2 iσ2
  exact hQ _ _ iσ2
def vJx4a65c_add_72be8_11 (Q : kx_S → Prop) (l0 : Nat) (l1 : Nat) (l2 : Nat) (l3 : Int32) (σ : kx_S) : Prop := xt σ l2 = 22 → vp_in l3 (xn σ l2) → kx_el (xt σ l1) → ∀ σ4, σ4 = xsar σ l2 l3.toNatClampNeg (some l1) → xt σ4 l0 = 1 → ∀ σ7, σ7 = xsi σ4 18 l0 (l3 + 1) → Q σ7
set_option maxRecDepth 100000 in
set_option maxHeartbeats 4000000 in
theorem jcJx4a65c_add_72be8_11 {Q Q' Q'' : kx_S → Prop} (hQ : ∀ y0, Q y0 → Q' y0 → Q'' y0) : ∀ (l0 : Nat) (l1 : Nat) (l2 : Nat) (l3 : Int32) (σ : kx_S), wJx4a65c_add_72be8_11 Q l0 l1 l2 l3 σ → vJx4a65c_add_72be8_11 Q' l0 l1 l2 l3 σ → wJx4a65c_add_72be8_11 Q'' l0 l1 l2 l3 σ := by
  intro l0 l1 l2 l3 σ h v
  unfold wJx4a65c_add_72be8_11 at h
  unfold vJx4a65c_add_72be8_11 at v
  unfold wJx4a65c_add_72be8_11
  refine ⟨h.1, ?_⟩
  have v := v h.1
  have h := h.2
  refine ⟨h.1, ?_⟩
  have v := v h.1
  have h := h.2
  refine ⟨h.1, ?_⟩
  have v := v h.1
  have h := h.2
  intro σ4 e4
  have h := h σ4 e4
  have v := v σ4 e4
  refine ⟨h.1, ?_⟩
  have v := v h.1
  have h := h.2
  intro σ7 e6
  have h := h σ7 e6
  have v := v σ7 e6
  exact hQ _ h v
set_option maxRecDepth 100000 in
set_option maxHeartbeats 4000000 in
theorem jaJx4a65c_add_72be8_11 {Q Q' : kx_S → Prop} (hQ : ∀ y0, Q y0 → Q' y0) : ∀ (l0 : Nat) (l1 : Nat) (l2 : Nat) (l3 : Int32) (σ : kx_S), wJx4a65c_add_72be8_11 Q l0 l1 l2 l3 σ → vJx4a65c_add_72be8_11 Q' l0 l1 l2 l3 σ := by
  intro l0 l1 l2 l3 σ h
  unfold wJx4a65c_add_72be8_11 at h
  unfold vJx4a65c_add_72be8_11
  intro e1
  have h := h.2
  intro e2
  have h := h.2
  intro e3
  have h := h.2
  intro σ4 e4
  have h := h σ4 e4
  intro e5
  have h := h.2
  intro σ7 e6
  have h := h σ7 e6
  exact hQ _ h
set_option maxRecDepth 100000 in
set_option maxHeartbeats 4000000 in
theorem jfJx4a65c_add_72be8_11 {I : kx_S → Prop} (W : fw_ I [18, 1003]) {Q : kx_S → Prop} (hQ : ∀ y0, I y0 → Q y0) : ∀ (l0 : Nat) (l1 : Nat) (l2 : Nat) (l3 : Int32) (σ : kx_S), I σ → vJx4a65c_add_72be8_11 Q l0 l1 l2 l3 σ := by
  intro l0 l1 l2 l3 σ i
  unfold vJx4a65c_add_72be8_11
  intro e1
  intro e2
  intro e3
  intro σ4 e4
  have iσ4 : I σ4 := by rw [e4]; exact ((W _ i).2.2.2.1 (by decide)).1 _ _ _
  intro e5
  intro σ7 e6
  have iσ7 : I σ7 := by rw [e6]; exact ((W _ iσ4).1 18 (by decide)).1 _ _
  exact hQ _ iσ7
def vJx4a65c_add_72be8 (l0 : Nat) (l1 : Nat) (l2 : Nat) (l3 : Int32) (σ : kx_S) (Q : kx_S → Prop) : Prop := ((l2 = xz σ → ((¬ l3 = 0 → vJx4a65c_add_72be8_11 Q l0 l1 l2 l3 σ) ∧ (l3 = 0 → xt σ l0 = 1 → vJx4a65c_grow_d5877 l0 σ (fun b13 σ12 => vJx4a65c_add_72be8_11 Q l0 l1 b13 l3 σ12)))) ∧ (¬ (l2 = xz σ) → xt σ l2 = 22 → ((¬ l3 = (nI (xn σ l2)) → vJx4a65c_add_72be8_11 Q l0 l1 l2 l3 σ) ∧ (l3 = (nI (xn σ l2)) → xt σ l0 = 1 → vJx4a65c_grow_d5877 l0 σ (fun b18 σ17 => vJx4a65c_add_72be8_11 Q l0 l1 b18 l3 σ17)))))
set_option maxRecDepth 100000 in
set_option maxHeartbeats 4000000 in
theorem jcJx4a65c_add_72be8 {Q Q' Q'' : kx_S → Prop} (hQ : ∀ y0, Q y0 → Q' y0 → Q'' y0) : ∀ (l0 : Nat) (l1 : Nat) (l2 : Nat) (l3 : Int32) (σ : kx_S), wJx4a65c_add_72be8 l0 l1 l2 l3 σ Q → vJx4a65c_add_72be8 l0 l1 l2 l3 σ Q' → wJx4a65c_add_72be8 l0 l1 l2 l3 σ Q'' := by
  intro l0 l1 l2 l3 σ h v
  unfold wJx4a65c_add_72be8 at h
  unfold vJx4a65c_add_72be8 at v
  unfold wJx4a65c_add_72be8
  refine ⟨?_, ?_⟩
  · have h := h.1
    have v := v.1
    intro e1
    have h := h e1
    have v := v e1
    refine ⟨?_, ?_⟩
    · have h := h.1
      have v := v.1
      intro e2
      have h := h e2
      have v := v e2
      exact jcJx4a65c_add_72be8_11 hQ _ _ _ _ _ h v
    · have h := h.2
      have v := v.2
      intro e3
      have h := h e3
      have v := v e3
      refine ⟨h.1, ?_⟩
      have v := v h.1
      have h := h.2
      refine jcJx4a65c_grow_d5877 ?_ _ _ h v
      intro b13 σ12 h v
      exact jcJx4a65c_add_72be8_11 hQ _ _ _ _ _ h v
  · have h := h.2
    have v := v.2
    intro e5
    have h := h e5
    have v := v e5
    refine ⟨h.1, ?_⟩
    have v := v h.1
    have h := h.2
    refine ⟨?_, ?_⟩
    · have h := h.1
      have v := v.1
      intro e7
      have h := h e7
      have v := v e7
      exact jcJx4a65c_add_72be8_11 hQ _ _ _ _ _ h v
    · have h := h.2
      have v := v.2
      intro e8
      have h := h e8
      have v := v e8
      refine ⟨h.1, ?_⟩
      have v := v h.1
      have h := h.2
      refine jcJx4a65c_grow_d5877 ?_ _ _ h v
      intro b18 σ17 h v
      exact jcJx4a65c_add_72be8_11 hQ _ _ _ _ _ h v
set_option maxRecDepth 100000 in
set_option maxHeartbeats 4000000 in
theorem jaJx4a65c_add_72be8 {Q Q' : kx_S → Prop} (hQ : ∀ y0, Q y0 → Q' y0) : ∀ (l0 : Nat) (l1 : Nat) (l2 : Nat) (l3 : Int32) (σ : kx_S), wJx4a65c_add_72be8 l0 l1 l2 l3 σ Q → vJx4a65c_add_72be8 l0 l1 l2 l3 σ Q' := by
  intro l0 l1 l2 l3 σ h
  unfold wJx4a65c_add_72be8 at h
  unfold vJx4a65c_add_72be8
  refine ⟨?_, ?_⟩
  · have h := h.1
    intro e1
    have h := h e1
    refine ⟨?_, ?_⟩
    · have h := h.1
      intro e2
      have h := h e2
      exact jaJx4a65c_add_72be8_11 hQ _ _ _ _ _ h
    · have h := h.2
      intro e3
      have h := h e3
      intro e4
      have h := h.2
      refine jaJx4a65c_grow_d5877 ?_ _ _ h
      intro b13 σ12 h
      exact jaJx4a65c_add_72be8_11 hQ _ _ _ _ _ h
  · have h := h.2
    intro e5
    have h := h e5
    intro e6
    have h := h.2
    refine ⟨?_, ?_⟩
    · have h := h.1
      intro e7
      have h := h e7
      exact jaJx4a65c_add_72be8_11 hQ _ _ _ _ _ h
    · have h := h.2
      intro e8
      have h := h e8
      intro e9
      have h := h.2
      refine jaJx4a65c_grow_d5877 ?_ _ _ h
      intro b18 σ17 h
      exact jaJx4a65c_add_72be8_11 hQ _ _ _ _ _ h
set_option maxRecDepth 100000 in
set_option maxHeartbeats 4000000 in
theorem jfJx4a65c_add_72be8 {I : kx_S → Prop} (W : fw_ I [17, 18, 1003, 1222]) {Q : kx_S → Prop} (hQ : ∀ y0, I y0 → Q y0) : ∀ (l0 : Nat) (l1 : Nat) (l2 : Nat) (l3 : Int32) (σ : kx_S), I σ → vJx4a65c_add_72be8 l0 l1 l2 l3 σ Q := by
  intro l0 l1 l2 l3 σ i
  unfold vJx4a65c_add_72be8
  refine ⟨?_, ?_⟩
  · intro e1
    refine ⟨?_, ?_⟩
    · intro e2
      exact jfJx4a65c_add_72be8_11 (I := I) (fw_sub W (by decide)) hQ _ _ _ _ _ i
    · intro e3
      intro e4
      refine jfJx4a65c_grow_d5877 (I := I) (fw_sub W (by decide)) ?_ _ _ i
      intro b13 σ12 iσ12
      exact jfJx4a65c_add_72be8_11 (I := I) (fw_sub W (by decide)) hQ _ _ _ _ _ iσ12
  · intro e5
    intro e6
    refine ⟨?_, ?_⟩
    · intro e7
      exact jfJx4a65c_add_72be8_11 (I := I) (fw_sub W (by decide)) hQ _ _ _ _ _ i
    · intro e8
      intro e9
      refine jfJx4a65c_grow_d5877 (I := I) (fw_sub W (by decide)) ?_ _ _ i
      intro b18 σ17 iσ17
      exact jfJx4a65c_add_72be8_11 (I := I) (fw_sub W (by decide)) hQ _ _ _ _ _ iσ17
def vJx4a65c_add_9ea2d (l0 : Nat) (l1 : Nat) (σ : kx_S) (Q : Int32 → kx_S → Prop) : Prop := xt σ l0 = 1 → ∀ σ2, σ2 = xsi σ 16 l0 ((xi σ 16 l0) + 1) → ∀ a4, xr σ2 17 l0 = some a4 → vJx4a65c_add_72be8 l0 l1 a4 (xi σ2 18 l0) σ2 (fun σ6 => Q 1 σ6)
set_option maxRecDepth 100000 in
set_option maxHeartbeats 4000000 in
theorem jcJx4a65c_add_9ea2d {Q Q' Q'' : Int32 → kx_S → Prop} (hQ : ∀ y0 y1, Q y0 y1 → Q' y0 y1 → Q'' y0 y1) : ∀ (l0 : Nat) (l1 : Nat) (σ : kx_S), wJx4a65c_add_9ea2d l0 l1 σ Q → vJx4a65c_add_9ea2d l0 l1 σ Q' → wJx4a65c_add_9ea2d l0 l1 σ Q'' := by
  intro l0 l1 σ h v
  unfold wJx4a65c_add_9ea2d at h
  unfold vJx4a65c_add_9ea2d at v
  unfold wJx4a65c_add_9ea2d
  refine ⟨h.1, ?_⟩
  have v := v h.1
  have h := h.2
  intro σ2 e2
  have h := h σ2 e2
  have v := v σ2 e2
  obtain ⟨a4, e3, h⟩ := h
  refine ⟨a4, e3, ?_⟩
  have v := v a4 e3
  refine jcJx4a65c_add_72be8 ?_ _ _ _ _ _ h v
  intro σ6 h v
  exact hQ _ _ h v
set_option maxRecDepth 100000 in
set_option maxHeartbeats 4000000 in
theorem jaJx4a65c_add_9ea2d {Q Q' : Int32 → kx_S → Prop} (hQ : ∀ y0 y1, Q y0 y1 → Q' y0 y1) : ∀ (l0 : Nat) (l1 : Nat) (σ : kx_S), wJx4a65c_add_9ea2d l0 l1 σ Q → vJx4a65c_add_9ea2d l0 l1 σ Q' := by
  intro l0 l1 σ h
  unfold wJx4a65c_add_9ea2d at h
  unfold vJx4a65c_add_9ea2d
  intro e1
  have h := h.2
  intro σ2 e2
  have h := h σ2 e2
  obtain ⟨a4', e3, h⟩ := h
  intro a4 e4
  have x9 : a4' = a4 := Option.some.inj (e3.symm.trans e4)
  rw [x9] at h
  refine jaJx4a65c_add_72be8 ?_ _ _ _ _ _ h
  intro σ6 h
  exact hQ _ _ h
set_option maxRecDepth 100000 in
set_option maxHeartbeats 4000000 in
theorem jfJx4a65c_add_9ea2d {I : kx_S → Prop} (W : fw_ I [16, 17, 18, 1003, 1222]) {Q : Int32 → kx_S → Prop} (hQ : ∀ y0 y1, I y1 → Q y0 y1) : ∀ (l0 : Nat) (l1 : Nat) (σ : kx_S), I σ → vJx4a65c_add_9ea2d l0 l1 σ Q := by
  intro l0 l1 σ i
  unfold vJx4a65c_add_9ea2d
  intro e1
  intro σ2 e2
  have iσ2 : I σ2 := by rw [e2]; exact ((W _ i).1 16 (by decide)).1 _ _
  intro a4 e3
  refine jfJx4a65c_add_72be8 (I := I) (fw_sub W (by decide)) ?_ _ _ _ _ _ iσ2
  intro σ6 iσ6
  exact hQ _ _ iσ6
def vJx4a65c_fastRemove_b59b0_34 (Q : kx_S → Prop) (l0 : Nat) (l1 : Nat) (l3 : Int32) (σ : kx_S) : Prop := xt σ l0 = 1 → ∀ σ2, σ2 = xsi σ 18 l0 l3 → xt σ2 l1 = 22 → vp_in l3 (xn σ2 l1) → ∀ σ6, σ6 = xsar σ2 l1 l3.toNatClampNeg none → Q σ6
set_option maxRecDepth 100000 in
set_option maxHeartbeats 4000000 in
theorem jcJx4a65c_fastRemove_b59b0_34 {Q Q' Q'' : kx_S → Prop} (hQ : ∀ y0, Q y0 → Q' y0 → Q'' y0) : ∀ (l0 : Nat) (l1 : Nat) (l3 : Int32) (σ : kx_S), wJx4a65c_fastRemove_b59b0_34 Q l0 l1 l3 σ → vJx4a65c_fastRemove_b59b0_34 Q' l0 l1 l3 σ → wJx4a65c_fastRemove_b59b0_34 Q'' l0 l1 l3 σ := by
  intro l0 l1 l3 σ h v
  unfold wJx4a65c_fastRemove_b59b0_34 at h
  unfold vJx4a65c_fastRemove_b59b0_34 at v
  unfold wJx4a65c_fastRemove_b59b0_34
  refine ⟨h.1, ?_⟩
  have v := v h.1
  have h := h.2
  intro σ2 e2
  have h := h σ2 e2
  have v := v σ2 e2
  refine ⟨h.1, ?_⟩
  have v := v h.1
  have h := h.2
  refine ⟨h.1, ?_⟩
  have v := v h.1
  have h := h.2
  intro σ6 e5
  have h := h σ6 e5
  have v := v σ6 e5
  exact hQ _ h v
set_option maxRecDepth 100000 in
set_option maxHeartbeats 4000000 in
theorem jaJx4a65c_fastRemove_b59b0_34 {Q Q' : kx_S → Prop} (hQ : ∀ y0, Q y0 → Q' y0) : ∀ (l0 : Nat) (l1 : Nat) (l3 : Int32) (σ : kx_S), wJx4a65c_fastRemove_b59b0_34 Q l0 l1 l3 σ → vJx4a65c_fastRemove_b59b0_34 Q' l0 l1 l3 σ := by
  intro l0 l1 l3 σ h
  unfold wJx4a65c_fastRemove_b59b0_34 at h
  unfold vJx4a65c_fastRemove_b59b0_34
  intro e1
  have h := h.2
  intro σ2 e2
  have h := h σ2 e2
  intro e3
  have h := h.2
  intro e4
  have h := h.2
  intro σ6 e5
  have h := h σ6 e5
  exact hQ _ h
set_option maxRecDepth 100000 in
set_option maxHeartbeats 4000000 in
theorem jfJx4a65c_fastRemove_b59b0_34 {I : kx_S → Prop} (W : fw_ I [18, 1003]) {Q : kx_S → Prop} (hQ : ∀ y0, I y0 → Q y0) : ∀ (l0 : Nat) (l1 : Nat) (l3 : Int32) (σ : kx_S), I σ → vJx4a65c_fastRemove_b59b0_34 Q l0 l1 l3 σ := by
  intro l0 l1 l3 σ i
  unfold vJx4a65c_fastRemove_b59b0_34
  intro e1
  intro σ2 e2
  have iσ2 : I σ2 := by rw [e2]; exact ((W _ i).1 18 (by decide)).1 _ _
  intro e3
  intro e4
  intro σ6 e5
  have iσ6 : I σ6 := by rw [e5]; exact ((W _ iσ2).2.2.2.1 (by decide)).1 _ _ _
  exact hQ _ iσ6
def vJx4a65c_fastRemove_b59b0 (l0 : Nat) (l1 : Nat) (l2 : Int32) (σ : kx_S) (Q : kx_S → Prop) : Prop := xt σ l0 = 1 → ∀ σ10, σ10 = xsi σ 16 l0 ((xi σ 16 l0) + 1) → ∀ v12, v12 = (xi σ10 18 l0) - 1 → ((((xi σ10 18 l0) - 1) ≤ l2 → vJx4a65c_fastRemove_b59b0_34 Q l0 l1 v12 σ10) ∧ (¬ (((xi σ10 18 l0) - 1) ≤ l2) → xt σ10 l1 = 22 → ¬ (l2 + 1) < 0 → ¬ l2 < 0 → ¬ (v12 - l2) < 0 → (l2 + 1).toNatClampNeg + (v12 - l2).toNatClampNeg ≤ xn σ10 l1 → l2.toNatClampNeg + (v12 - l2).toNatClampNeg ≤ xn σ10 l1 → (∀ i : Nat, i < (v12 - l2).toNatClampNeg → ∀ y : Nat, xar σ10 l1 ((l2 + 1).toNatClampNeg + i) = some y → kx_el (xt σ10 y)) → ∀ σ21, σ21 = xsAR σ10 l1 (va_cpy (xar σ10 l1) (xar σ10 l1) (l2 + 1).toNatClampNeg l2.toNatClampNeg (v12 - l2).toNatClampNeg) → vJx4a65c_fastRemove_b59b0_34 Q l0 l1 v12 σ21))
set_option maxRecDepth 100000 in
set_option maxHeartbeats 4000000 in
theorem jcJx4a65c_fastRemove_b59b0 {Q Q' Q'' : kx_S → Prop} (hQ : ∀ y0, Q y0 → Q' y0 → Q'' y0) : ∀ (l0 : Nat) (l1 : Nat) (l2 : Int32) (σ : kx_S), wJx4a65c_fastRemove_b59b0 l0 l1 l2 σ Q → vJx4a65c_fastRemove_b59b0 l0 l1 l2 σ Q' → wJx4a65c_fastRemove_b59b0 l0 l1 l2 σ Q'' := by
  intro l0 l1 l2 σ h v
  unfold wJx4a65c_fastRemove_b59b0 at h
  unfold vJx4a65c_fastRemove_b59b0 at v
  unfold wJx4a65c_fastRemove_b59b0
  refine ⟨h.1, ?_⟩
  have v := v h.1
  have h := h.2
  intro σ10 e2
  have h := h σ10 e2
  have v := v σ10 e2
  intro v12 e3
  have h := h v12 e3
  have v := v v12 e3
  refine ⟨?_, ?_⟩
  · have h := h.1
    have v := v.1
    intro e4
    have h := h e4
    have v := v e4
    exact jcJx4a65c_fastRemove_b59b0_34 hQ _ _ _ _ h v
  · have h := h.2
    have v := v.2
    intro e5
    have h := h e5
    have v := v e5
    refine ⟨h.1, ?_⟩
    have v := v h.1
    have h := h.2
    refine ⟨h.1, ?_⟩
    have v := v h.1
    have h := h.2
    refine ⟨h.1, ?_⟩
    have v := v h.1
    have h := h.2
    refine ⟨h.1, ?_⟩
    have v := v h.1
    have h := h.2
    refine ⟨h.1, ?_⟩
    have v := v h.1
    have h := h.2
    refine ⟨h.1, ?_⟩
    have v := v h.1
    have h := h.2
    refine ⟨h.1, ?_⟩
    have v := v h.1
    have h := h.2
    intro σ21 e13
    have h := h σ21 e13
    have v := v σ21 e13
    exact jcJx4a65c_fastRemove_b59b0_34 hQ _ _ _ _ h v
set_option maxRecDepth 100000 in
set_option maxHeartbeats 4000000 in
theorem jaJx4a65c_fastRemove_b59b0 {Q Q' : kx_S → Prop} (hQ : ∀ y0, Q y0 → Q' y0) : ∀ (l0 : Nat) (l1 : Nat) (l2 : Int32) (σ : kx_S), wJx4a65c_fastRemove_b59b0 l0 l1 l2 σ Q → vJx4a65c_fastRemove_b59b0 l0 l1 l2 σ Q' := by
  intro l0 l1 l2 σ h
  unfold wJx4a65c_fastRemove_b59b0 at h
  unfold vJx4a65c_fastRemove_b59b0
  intro e1
  have h := h.2
  intro σ10 e2
  have h := h σ10 e2
  intro v12 e3
  have h := h v12 e3
  refine ⟨?_, ?_⟩
  · have h := h.1
    intro e4
    have h := h e4
    exact jaJx4a65c_fastRemove_b59b0_34 hQ _ _ _ _ h
  · have h := h.2
    intro e5
    have h := h e5
    intro e6
    have h := h.2
    intro e7
    have h := h.2
    intro e8
    have h := h.2
    intro e9
    have h := h.2
    intro e10
    have h := h.2
    intro e11
    have h := h.2
    intro e12
    have h := h.2
    intro σ21 e13
    have h := h σ21 e13
    exact jaJx4a65c_fastRemove_b59b0_34 hQ _ _ _ _ h
set_option maxRecDepth 100000 in
set_option maxHeartbeats 4000000 in
theorem jfJx4a65c_fastRemove_b59b0 {I : kx_S → Prop} (W : fw_ I [16, 18, 1003]) {Q : kx_S → Prop} (hQ : ∀ y0, I y0 → Q y0) : ∀ (l0 : Nat) (l1 : Nat) (l2 : Int32) (σ : kx_S), I σ → vJx4a65c_fastRemove_b59b0 l0 l1 l2 σ Q := by
  intro l0 l1 l2 σ i
  unfold vJx4a65c_fastRemove_b59b0
  intro e1
  intro σ10 e2
  have iσ10 : I σ10 := by rw [e2]; exact ((W _ i).1 16 (by decide)).1 _ _
  intro v12 e3
  refine ⟨?_, ?_⟩
  · intro e4
    exact jfJx4a65c_fastRemove_b59b0_34 (I := I) (fw_sub W (by decide)) hQ _ _ _ _ iσ10
  · intro e5
    intro e6
    intro e7
    intro e8
    intro e9
    intro e10
    intro e11
    intro e12
    intro σ21 e13
    have iσ21 : I σ21 := by rw [e13]; exact ((W _ iσ10).2.2.2.1 (by decide)).2 _ _
    exact jfJx4a65c_fastRemove_b59b0_34 (I := I) (fw_sub W (by decide)) hQ _ _ _ _ iσ21
def vJx4a65c_remove_915e3 (l0 : Nat) (l1 : Int32) (σ : kx_S) (Q : Option Nat → kx_S → Prop) : Prop := xt σ l0 = 1 → vJ15_checkIndex_7cf53 l1 (xi σ 18 l0) σ (fun r3 σ2 => xt σ2 l0 = 1 → ∀ a5, xr σ2 17 l0 = some a5 → xt σ2 a5 = 22 → vp_in l1 (xn σ2 a5) → ∀ q9, q9 = xar σ2 a5 l1.toNatClampNeg → vJx4a65c_fastRemove_b59b0 l0 a5 l1 σ2 (fun σ10 => Q q9 σ10))
set_option maxRecDepth 100000 in
set_option maxHeartbeats 4000000 in
theorem jcJx4a65c_remove_915e3 {Q Q' Q'' : Option Nat → kx_S → Prop} (hQ : ∀ y0 y1, Q y0 y1 → Q' y0 y1 → Q'' y0 y1) : ∀ (l0 : Nat) (l1 : Int32) (σ : kx_S), wJx4a65c_remove_915e3 l0 l1 σ Q → vJx4a65c_remove_915e3 l0 l1 σ Q' → wJx4a65c_remove_915e3 l0 l1 σ Q'' := by
  intro l0 l1 σ h v
  unfold wJx4a65c_remove_915e3 at h
  unfold vJx4a65c_remove_915e3 at v
  unfold wJx4a65c_remove_915e3
  refine ⟨h.1, ?_⟩
  have v := v h.1
  have h := h.2
  refine jcJ15_checkIndex_7cf53 ?_ _ _ _ h v
  intro r3 σ2 h v
  refine ⟨h.1, ?_⟩
  have v := v h.1
  have h := h.2
  obtain ⟨a5, e3, h⟩ := h
  refine ⟨a5, e3, ?_⟩
  have v := v a5 e3
  refine ⟨h.1, ?_⟩
  have v := v h.1
  have h := h.2
  refine ⟨h.1, ?_⟩
  have v := v h.1
  have h := h.2
  intro q9 e6
  have h := h q9 e6
  have v := v q9 e6
  refine jcJx4a65c_fastRemove_b59b0 ?_ _ _ _ _ h v
  intro σ10 h v
  exact hQ _ _ h v
set_option maxRecDepth 100000 in
set_option maxHeartbeats 4000000 in
theorem jaJx4a65c_remove_915e3 {Q Q' : Option Nat → kx_S → Prop} (hQ : ∀ y0 y1, Q y0 y1 → Q' y0 y1) : ∀ (l0 : Nat) (l1 : Int32) (σ : kx_S), wJx4a65c_remove_915e3 l0 l1 σ Q → vJx4a65c_remove_915e3 l0 l1 σ Q' := by
  intro l0 l1 σ h
  unfold wJx4a65c_remove_915e3 at h
  unfold vJx4a65c_remove_915e3
  intro e1
  have h := h.2
  refine jaJ15_checkIndex_7cf53 ?_ _ _ _ h
  intro r3 σ2 h
  intro e2
  have h := h.2
  obtain ⟨a5', e3, h⟩ := h
  intro a5 e4
  have x9 : a5' = a5 := Option.some.inj (e3.symm.trans e4)
  rw [x9] at h
  intro e5
  have h := h.2
  intro e6
  have h := h.2
  intro q9 e7
  have h := h q9 e7
  refine jaJx4a65c_fastRemove_b59b0 ?_ _ _ _ _ h
  intro σ10 h
  exact hQ _ _ h
set_option maxRecDepth 100000 in
set_option maxHeartbeats 4000000 in
theorem jfJx4a65c_remove_915e3 {I : kx_S → Prop} (W : fw_ I [16, 18, 1003]) {Q : Option Nat → kx_S → Prop} (hQ : ∀ y0 y1, I y1 → Q y0 y1) : ∀ (l0 : Nat) (l1 : Int32) (σ : kx_S), I σ → vJx4a65c_remove_915e3 l0 l1 σ Q := by
  intro l0 l1 σ i
  unfold vJx4a65c_remove_915e3
  intro e1
  refine jfJ15_checkIndex_7cf53 (I := I) (fw_sub W (by decide)) ?_ _ _ _ i
  intro r3 σ2 iσ2
  intro e2
  intro a5 e3
  intro e4
  intro e5
  intro q9 e6
  refine jfJx4a65c_fastRemove_b59b0 (I := I) (fw_sub W (by decide)) ?_ _ _ _ _ iσ2
  intro σ10 iσ10
  exact hQ _ _ iσ10
def vJ7_copyOf_59c91 (l0 : Nat) (l1 : Int32) (σ : kx_S) (Q : Nat → kx_S → Prop) : Prop := xt σ l0 = 20 → ((¬ l1 = (nI (xn σ l0)) → xc σ < kx_N → ¬ l1 < 0 → l1.toNatClampNeg ≤ 600 → ∀ p3, xt σ p3 = 0 → p3 ≠ xz σ → ∀ σ9, σ9 = xnewA σ p3 20 l1.toNatClampNeg → xt σ9 l0 = 20 → ∀ v12, v12 = (if l1 < (nI (xn σ9 l0)) then l1 else (nI (xn σ9 l0))) → ¬ (0 : Int32) < 0 → ¬ (0 : Int32) < 0 → ¬ v12 < 0 → (Int32.toNatClampNeg 0) + v12.toNatClampNeg ≤ xn σ9 l0 → (Int32.toNatClampNeg 0) + v12.toNatClampNeg ≤ xn σ9 p3 → ∀ σ18, σ18 = xsAI σ9 p3 (va_cpy (xai σ9 l0) (xai σ9 p3) (Int32.toNatClampNeg 0) (Int32.toNatClampNeg 0) v12.toNatClampNeg) → Q p3 σ18) ∧ (l1 = (nI (xn σ l0)) → xc σ < kx_N → xn σ l0 ≤ 600 → ∀ p23, xt σ p23 = 0 → p23 ≠ xz σ → ∀ σ26, σ26 = xsAI (xnewA σ p23 20 (xn σ l0)) p23 (xai σ l0) → Q p23 σ26))
set_option maxRecDepth 100000 in
set_option maxHeartbeats 4000000 in
theorem jcJ7_copyOf_59c91 {Q Q' Q'' : Nat → kx_S → Prop} (hQ : ∀ y0 y1, Q y0 y1 → Q' y0 y1 → Q'' y0 y1) : ∀ (l0 : Nat) (l1 : Int32) (σ : kx_S), wJ7_copyOf_59c91 l0 l1 σ Q → vJ7_copyOf_59c91 l0 l1 σ Q' → wJ7_copyOf_59c91 l0 l1 σ Q'' := by
  intro l0 l1 σ h v
  unfold wJ7_copyOf_59c91 at h
  unfold vJ7_copyOf_59c91 at v
  unfold wJ7_copyOf_59c91
  refine ⟨h.1, ?_⟩
  have v := v h.1
  have h := h.2
  refine ⟨?_, ?_⟩
  · have h := h.1
    have v := v.1
    intro e2
    have h := h e2
    have v := v e2
    refine ⟨h.1, ?_⟩
    have v := v h.1
    have h := h.2
    refine ⟨h.1, ?_⟩
    have v := v h.1
    have h := h.2
    refine ⟨h.1, ?_⟩
    have v := v h.1
    have h := h.2
    intro p3 e6 e7
    have h := h p3 e6 e7
    have v := v p3 e6 e7
    intro σ9 e8
    have h := h σ9 e8
    have v := v σ9 e8
    refine ⟨h.1, ?_⟩
    have v := v h.1
    have h := h.2
    intro v12 e10
    have h := h v12 e10
    have v := v v12 e10
    refine ⟨h.1, ?_⟩
    have v := v h.1
    have h := h.2
    refine ⟨h.1, ?_⟩
    have v := v h.1
    have h := h.2
    refine ⟨h.1, ?_⟩
    have v := v h.1
    have h := h.2
    refine ⟨h.1, ?_⟩
    have v := v h.1
    have h := h.2
    refine ⟨h.1, ?_⟩
    have v := v h.1
    have h := h.2
    intro σ18 e16
    have h := h σ18 e16
    have v := v σ18 e16
    exact hQ _ _ h v
  · have h := h.2
    have v := v.2
    intro e17
    have h := h e17
    have v := v e17
    refine ⟨h.1, ?_⟩
    have v := v h.1
    have h := h.2
    refine ⟨h.1, ?_⟩
    have v := v h.1
    have h := h.2
    intro p23 e20 e21
    have h := h p23 e20 e21
    have v := v p23 e20 e21
    intro σ26 e22
    have h := h σ26 e22
    have v := v σ26 e22
    exact hQ _ _ h v
set_option maxRecDepth 100000 in
set_option maxHeartbeats 4000000 in
theorem jaJ7_copyOf_59c91 {Q Q' : Nat → kx_S → Prop} (hQ : ∀ y0 y1, Q y0 y1 → Q' y0 y1) : ∀ (l0 : Nat) (l1 : Int32) (σ : kx_S), wJ7_copyOf_59c91 l0 l1 σ Q → vJ7_copyOf_59c91 l0 l1 σ Q' := by
  intro l0 l1 σ h
  unfold wJ7_copyOf_59c91 at h
  unfold vJ7_copyOf_59c91
  intro e1
  have h := h.2
  refine ⟨?_, ?_⟩
  · have h := h.1
    intro e2
    have h := h e2
    intro e3
    have h := h.2
    intro e4
    have h := h.2
    intro e5
    have h := h.2
    intro p3 e6 e7
    have h := h p3 e6 e7
    intro σ9 e8
    have h := h σ9 e8
    intro e9
    have h := h.2
    intro v12 e10
    have h := h v12 e10
    intro e11
    have h := h.2
    intro e12
    have h := h.2
    intro e13
    have h := h.2
    intro e14
    have h := h.2
    intro e15
    have h := h.2
    intro σ18 e16
    have h := h σ18 e16
    exact hQ _ _ h
  · have h := h.2
    intro e17
    have h := h e17
    intro e18
    have h := h.2
    intro e19
    have h := h.2
    intro p23 e20 e21
    have h := h p23 e20 e21
    intro σ26 e22
    have h := h σ26 e22
    exact hQ _ _ h
set_option maxRecDepth 100000 in
set_option maxHeartbeats 4000000 in
theorem jfJ7_copyOf_59c91 {I : kx_S → Prop} (W : fw_ I [1004, 1220]) {Q : Nat → kx_S → Prop} (hQ : ∀ y0 y1, I y1 → Q y0 y1) : ∀ (l0 : Nat) (l1 : Int32) (σ : kx_S), I σ → vJ7_copyOf_59c91 l0 l1 σ Q := by
  intro l0 l1 σ i
  unfold vJ7_copyOf_59c91
  intro e1
  refine ⟨?_, ?_⟩
  · intro e2
    intro e3
    intro e4
    intro e5
    intro p3 e6 e7
    intro σ9 e8
    have iσ9 : I σ9 := by rw [e8]; exact (W _ i).2.2.2.2.2.2.2 20 (by decide) _ e6 _
    intro e9
    intro v12 e10
    intro e11
    intro e12
    intro e13
    intro e14
    intro e15
    intro σ18 e16
    have iσ18 : I σ18 := by rw [e16]; exact (W _ iσ9).2.2.2.2.1 (by decide) _ _
    exact hQ _ _ iσ18
  · intro e17
    intro e18
    intro e19
    intro p23 e20 e21
    intro σ26 e22
    have iσ26 : I σ26 := by rw [e22]; exact (W _ ((W _ i).2.2.2.2.2.2.2 20 (by decide) _ e20 _)).2.2.2.2.1 (by decide) _ _
    exact hQ _ _ iσ26
