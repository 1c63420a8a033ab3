def vX12_waterGoes_215 (k35 : Int32 → km_S → Prop) (Q : km_S → Prop) (l1 : Int32) (μ : km_S) : Prop := ∀ v1 : Int32, v1 = l1 + (-1) → k35 v1 μ
set_option maxRecDepth 100000 in
set_option maxHeartbeats 4000000 in
theorem jcX12_waterGoes_215 {k35 k35' k35'' : Int32 → km_S → Prop} (hk35 : ∀ y0 y1, k35 y0 y1 → k35' y0 y1 → k35'' y0 y1) {Q Q' Q'' : km_S → Prop} (hQ : ∀ y0, Q y0 → Q' y0 → Q'' y0) : ∀ (l1 : Int32) (μ : km_S), wX12_waterGoes_215 k35 Q l1 μ → vX12_waterGoes_215 k35' Q' l1 μ → wX12_waterGoes_215 k35'' Q'' l1 μ := by
  intro l1 μ h v
  unfold wX12_waterGoes_215 at h
  unfold vX12_waterGoes_215 at v
  unfold wX12_waterGoes_215
  intro v1 e1
  have h := h v1 e1
  have v := v v1 e1
  exact hk35 _ _ h v
set_option maxRecDepth 100000 in
set_option maxHeartbeats 4000000 in
theorem jaX12_waterGoes_215 {k35 k35' : Int32 → km_S → Prop} (hk35 : ∀ y0 y1, k35 y0 y1 → k35' y0 y1) {Q Q' : km_S → Prop} (hQ : ∀ y0, Q y0 → Q' y0) : ∀ (l1 : Int32) (μ : km_S), wX12_waterGoes_215 k35 Q l1 μ → vX12_waterGoes_215 k35' Q' l1 μ := by
  intro l1 μ h
  unfold wX12_waterGoes_215 at h
  unfold vX12_waterGoes_215
  intro v1 e1
  have h := h v1 e1
  exact hk35 _ _ h
set_option maxRecDepth 100000 in
set_option maxHeartbeats 4000000 in
theorem jfX12_waterGoes_215 {I : km_S → Prop} (W : gw_ I []) {k35 : Int32 → km_S → Prop} (hk35 : ∀ y0 y1, I y1 → k35 y0 y1) {Q : km_S → Prop} (hQ : ∀ y0, I y0 → Q y0) : ∀ (l1 : Int32) (μ : km_S), I μ → vX12_waterGoes_215 k35 Q l1 μ := by
  intro l1 μ i
  unfold vX12_waterGoes_215
  intro v1 e1
  exact hk35 _ _ i
def vX12_waterGoes_2 (k28 : km_S → Prop) (Q : km_S → Prop) : Nat → Int32 → km_S → Prop
  | 0, _, _ => True
  | n + 1, l1, μ => (((km_i μ 3) ≤ l1 → k28 μ) ∧ (¬ ((km_i μ 3) ≤ l1) → vp_in l1 10 → vp_in l1 10 → ∀ μ5, μ5 = km_sa μ 20 l1.toNatClampNeg (km_a μ 17 l1.toNatClampNeg) → ∀ v6 : Int32, v6 = l1 + 1 → vX12_waterGoes_2 k28 Q n v6 μ5))
set_option maxRecDepth 100000 in
set_option maxHeartbeats 4000000 in
theorem jcX12_waterGoes_2 {k28 k28' k28'' : km_S → Prop} (hk28 : ∀ y0, k28 y0 → k28' y0 → k28'' y0) {Q Q' Q'' : km_S → Prop} (hQ : ∀ y0, Q y0 → Q' y0 → Q'' y0) : ∀ (n : Nat) (l1 : Int32) (μ : km_S), wX12_waterGoes_2 k28 Q n l1 μ → vX12_waterGoes_2 k28' Q' n l1 μ → wX12_waterGoes_2 k28'' Q'' n l1 μ := by
  intro n
  induction n with
  | zero => intro l1 μ h; exact h.elim
  | succ n ih =>
    intro l1 μ h v
    unfold wX12_waterGoes_2 at h
    unfold vX12_waterGoes_2 at v
    unfold wX12_waterGoes_2
    refine ⟨?_, ?_⟩
    · have h := h.1
      have v := v.1
      intro e1
      have h := h e1
      have v := v e1
      exact hk28 _ h v
    · have h := h.2
      have v := v.2
      intro e2
      have h := h e2
      have v := v e2
      refine ⟨h.1, ?_⟩
      have v := v h.1
      have h := h.2
      refine ⟨h.1, ?_⟩
      have v := v h.1
      have h := h.2
      intro μ5 e5
      have h := h μ5 e5
      have v := v μ5 e5
      intro v6 e6
      have h := h v6 e6
      have v := v v6 e6
      exact ih _ _ h v
set_option maxRecDepth 100000 in
set_option maxHeartbeats 4000000 in
theorem jaX12_waterGoes_2 {k28 k28' : km_S → Prop} (hk28 : ∀ y0, k28 y0 → k28' y0) {Q Q' : km_S → Prop} (hQ : ∀ y0, Q y0 → Q' y0) : ∀ (n m : Nat) (l1 : Int32) (μ : km_S), wX12_waterGoes_2 k28 Q n l1 μ → vX12_waterGoes_2 k28' Q' m l1 μ := by
  intro n
  induction n with
  | zero => intro m l1 μ h; exact h.elim
  | succ n ih =>
    intro m l1 μ h
    cases m with
    | zero => exact trivial
    | succ m =>
      unfold wX12_waterGoes_2 at h
      unfold vX12_waterGoes_2
      refine ⟨?_, ?_⟩
      · have h := h.1
        intro e1
        have h := h e1
        exact hk28 _ h
      · have h := h.2
        intro e2
        have h := h e2
        intro e3
        have h := h.2
        intro e4
        have h := h.2
        intro μ5 e5
        have h := h μ5 e5
        intro v6 e6
        have h := h v6 e6
        exact ih m _ _ h
set_option maxRecDepth 100000 in
set_option maxHeartbeats 4000000 in
theorem jfX12_waterGoes_2 {I : km_S → Prop} (W : gw_ I [20]) {k28 : km_S → Prop} (hk28 : ∀ y0, I y0 → k28 y0) {Q : km_S → Prop} (hQ : ∀ y0, I y0 → Q y0) : ∀ (n : Nat) (l1 : Int32) (μ : km_S), I μ → vX12_waterGoes_2 k28 Q n l1 μ := by
  intro n
  induction n with
  | zero => intro l1 μ i; exact trivial
  | succ n ih =>
    intro l1 μ i
    unfold vX12_waterGoes_2
    refine ⟨?_, ?_⟩
    · intro e1
      exact hk28 _ i
    · intro e2
      intro e3
      intro e4
      intro μ5 e5
      have iμ5 : I μ5 := by rw [e5]; exact ((W _ i) 20 (by decide)).2.1 _ _
      intro v6 e6
      exact ih _ _ iμ5
def vX12_waterGoes_166 (k35 : Int32 → km_S → Prop) (Q : km_S → Prop) (l1 : Int32) (μ : km_S) : Prop := vp_in l1 10 → ((¬ (km_a μ 13 l1.toNatClampNeg) = (-1) → vp_in l1 10 → vp_in (km_a μ 13 l1.toNatClampNeg) 10 → vp_in l1 10 → vp_in (km_a μ 13 l1.toNatClampNeg) 10 → ∀ μ13, μ13 = km_sa μ 20 (km_a μ 13 l1.toNatClampNeg).toNatClampNeg ((km_a μ 20 (km_a μ 13 l1.toNatClampNeg).toNatClampNeg) + (km_a μ 19 l1.toNatClampNeg)) → vX12_waterGoes_215 k35 Q l1 μ13) ∧ ((km_a μ 13 l1.toNatClampNeg) = (-1) → vp_in l1 10 → ∀ μ15, μ15 = km_sl μ 12 ((km_l μ 12) + ((km_a μ 19 l1.toNatClampNeg).toInt64)) → vX12_waterGoes_215 k35 Q l1 μ15))
set_option maxRecDepth 100000 in
set_option maxHeartbeats 4000000 in
theorem jcX12_waterGoes_166 {k35 k35' k35'' : Int32 → km_S → Prop} (hk35 : ∀ y0 y1, k35 y0 y1 → k35' y0 y1 → k35'' y0 y1) {Q Q' Q'' : km_S → Prop} (hQ : ∀ y0, Q y0 → Q' y0 → Q'' y0) : ∀ (l1 : Int32) (μ : km_S), wX12_waterGoes_166 k35 Q l1 μ → vX12_waterGoes_166 k35' Q' l1 μ → wX12_waterGoes_166 k35'' Q'' l1 μ := by
  intro l1 μ h v
  unfold wX12_waterGoes_166 at h
  unfold vX12_waterGoes_166 at v
  unfold wX12_waterGoes_166
  refine ⟨h.1, ?_⟩
  have v := v h.1
  have h := h.2
  refine ⟨?_, ?_⟩
  · have h := h.1
    have v := v.1
    intro e2
    have h := h e2
    have v := v e2
    refine ⟨h.1, ?_⟩
    have v := v h.1
    have h := h.2
    refine ⟨h.1, ?_⟩
    have v := v h.1
    have h := h.2
    refine ⟨h.1, ?_⟩
    have v := v h.1
    have h := h.2
    refine ⟨h.1, ?_⟩
    have v := v h.1
    have h := h.2
    intro μ13 e7
    have h := h μ13 e7
    have v := v μ13 e7
    exact jcX12_waterGoes_215 hk35 hQ _ _ h v
  · have h := h.2
    have v := v.2
    intro e8
    have h := h e8
    have v := v e8
    refine ⟨h.1, ?_⟩
    have v := v h.1
    have h := h.2
    intro μ15 e10
    have h := h μ15 e10
    have v := v μ15 e10
    exact jcX12_waterGoes_215 hk35 hQ _ _ h v
set_option maxRecDepth 100000 in
set_option maxHeartbeats 4000000 in
theorem jaX12_waterGoes_166 {k35 k35' : Int32 → km_S → Prop} (hk35 : ∀ y0 y1, k35 y0 y1 → k35' y0 y1) {Q Q' : km_S → Prop} (hQ : ∀ y0, Q y0 → Q' y0) : ∀ (l1 : Int32) (μ : km_S), wX12_waterGoes_166 k35 Q l1 μ → vX12_waterGoes_166 k35' Q' l1 μ := by
  intro l1 μ h
  unfold wX12_waterGoes_166 at h
  unfold vX12_waterGoes_166
  intro e1
  have h := h.2
  refine ⟨?_, ?_⟩
  · have h := h.1
    intro e2
    have h := h e2
    intro e3
    have h := h.2
    intro e4
    have h := h.2
    intro e5
    have h := h.2
    intro e6
    have h := h.2
    intro μ13 e7
    have h := h μ13 e7
    exact jaX12_waterGoes_215 hk35 hQ _ _ h
  · have h := h.2
    intro e8
    have h := h e8
    intro e9
    have h := h.2
    intro μ15 e10
    have h := h μ15 e10
    exact jaX12_waterGoes_215 hk35 hQ _ _ h
set_option maxRecDepth 100000 in
set_option maxHeartbeats 4000000 in
theorem jfX12_waterGoes_166 {I : km_S → Prop} (W : gw_ I [12, 20]) {k35 : Int32 → km_S → Prop} (hk35 : ∀ y0 y1, I y1 → k35 y0 y1) {Q : km_S → Prop} (hQ : ∀ y0, I y0 → Q y0) : ∀ (l1 : Int32) (μ : km_S), I μ → vX12_waterGoes_166 k35 Q l1 μ := by
  intro l1 μ i
  unfold vX12_waterGoes_166
  intro e1
  refine ⟨?_, ?_⟩
  · intro e2
    intro e3
    intro e4
    intro e5
    intro e6
    intro μ13 e7
    have iμ13 : I μ13 := by rw [e7]; exact ((W _ i) 20 (by decide)).2.1 _ _
    exact jfX12_waterGoes_215 (I := I) (gw_sub W (by decide)) hk35 hQ _ _ iμ13
  · intro e8
    intro e9
    intro μ15 e10
    have iμ15 : I μ15 := by rw [e10]; exact ((W _ i) 12 (by decide)).2.2.1 _
    exact jfX12_waterGoes_215 (I := I) (gw_sub W (by decide)) hk35 hQ _ _ iμ15
def vX12_waterGoes_35 (Q : km_S → Prop) : Nat → Int32 → km_S → Prop
  | 0, _, _ => True
  | n + 1, l1, μ => ((l1 < 0 → Q μ) ∧ (¬ (l1 < 0) → vp_in l1 10 → ∀ μ18, μ18 = km_sl μ 11 ((km_l μ 11) + ((km_a μ 17 l1.toNatClampNeg).toInt64)) → vp_in l1 10 → vp_in l1 10 → ∀ μ21, μ21 = km_sa μ18 18 l1.toNatClampNeg (km_a μ18 20 l1.toNatClampNeg) → vp_in l1 10 → vp_in l1 10 → ∀ μ24, μ24 = km_sa μ21 19 l1.toNatClampNeg (km_a μ21 20 l1.toNatClampNeg) → vp_in l1 10 → (((km_a μ24 21 l1.toNatClampNeg) = 0 → vX12_waterGoes_166 (vX12_waterGoes_35 Q n) Q l1 μ24) ∧ (¬ ((km_a μ24 21 l1.toNatClampNeg) = 0) → vp_in l1 10 → vp_in l1 10 → vp_in l1 10 → ∀ μ30, μ30 = km_sa μ24 25 l1.toNatClampNeg ((km_a μ24 25 l1.toNatClampNeg) + (km_a μ24 20 l1.toNatClampNeg)) → vp_in l1 10 → vp_in l1 10 → ∀ v33, v33 = (if 0 < ((km_a μ30 25 l1.toNatClampNeg) - (km_a μ30 24 l1.toNatClampNeg)) then ((km_a μ30 25 l1.toNatClampNeg) - (km_a μ30 24 l1.toNatClampNeg)) else 0) → vp_in l1 10 → vp_in l1 10 → ∀ μ36, μ36 = km_sa μ30 25 l1.toNatClampNeg ((km_a μ30 25 l1.toNatClampNeg) - v33) → vp_in l1 10 → vp_in l1 10 → ∀ v39, v39 = (if (km_a μ36 25 l1.toNatClampNeg) < (km_a μ36 26 l1.toNatClampNeg) then (km_a μ36 25 l1.toNatClampNeg) else (km_a μ36 26 l1.toNatClampNeg)) → vp_in l1 10 → vp_in l1 10 → ∀ μ42, μ42 = km_sa μ36 25 l1.toNatClampNeg ((km_a μ36 25 l1.toNatClampNeg) - v39) → vp_in l1 10 → ∀ μ44, μ44 = km_sa μ42 19 l1.toNatClampNeg (v39 + v33) → vX12_waterGoes_166 (vX12_waterGoes_35 Q n) Q l1 μ44))))
set_option maxRecDepth 100000 in
set_option maxHeartbeats 4000000 in
theorem jcX12_waterGoes_35 {Q Q' Q'' : km_S → Prop} (hQ : ∀ y0, Q y0 → Q' y0 → Q'' y0) : ∀ (n : Nat) (l1 : Int32) (μ : km_S), wX12_waterGoes_35 Q n l1 μ → vX12_waterGoes_35 Q' n l1 μ → wX12_waterGoes_35 Q'' n l1 μ := by
  intro n
  induction n with
  | zero => intro l1 μ h; exact h.elim
  | succ n ih =>
    intro l1 μ h v
    unfold wX12_waterGoes_35 at h
    unfold vX12_waterGoes_35 at v
    unfold wX12_waterGoes_35
    refine ⟨?_, ?_⟩
    · have h := h.1
      have v := v.1
      intro e1
      have h := h e1
      have v := v e1
      exact hQ _ h v
    · have h := h.2
      have v := v.2
      intro e2
      have h := h e2
      have v := v e2
      refine ⟨h.1, ?_⟩
      have v := v h.1
      have h := h.2
      intro μ18 e4
      have h := h μ18 e4
      have v := v μ18 e4
      refine ⟨h.1, ?_⟩
      have v := v h.1
      have h := h.2
      refine ⟨h.1, ?_⟩
      have v := v h.1
      have h := h.2
      intro μ21 e7
      have h := h μ21 e7
      have v := v μ21 e7
      refine ⟨h.1, ?_⟩
      have v := v h.1
      have h := h.2
      refine ⟨h.1, ?_⟩
      have v := v h.1
      have h := h.2
      intro μ24 e10
      have h := h μ24 e10
      have v := v μ24 e10
      refine ⟨h.1, ?_⟩
      have v := v h.1
      have h := h.2
      refine ⟨?_, ?_⟩
      · have h := h.1
        have v := v.1
        intro e12
        have h := h e12
        have v := v e12
        exact jcX12_waterGoes_166 (k35 := wX12_waterGoes_35 Q n) (k35' := vX12_waterGoes_35 Q' n) (k35'' := wX12_waterGoes_35 Q'' n) (fun _ _ h v => ih _ _ h v) hQ _ _ h v
      · have h := h.2
        have v := v.2
        intro e13
        have h := h e13
        have v := v e13
        refine ⟨h.1, ?_⟩
        have v := v h.1
        have h := h.2
        refine ⟨h.1, ?_⟩
        have v := v h.1
        have h := h.2
        refine ⟨h.1, ?_⟩
        have v := v h.1
        have h := h.2
        intro μ30 e17
        have h := h μ30 e17
        have v := v μ30 e17
        refine ⟨h.1, ?_⟩
        have v := v h.1
        have h := h.2
        refine ⟨h.1, ?_⟩
        have v := v h.1
        have h := h.2
        intro v33 e20
        have h := h v33 e20
        have v := v v33 e20
        refine ⟨h.1, ?_⟩
        have v := v h.1
        have h := h.2
        refine ⟨h.1, ?_⟩
        have v := v h.1
        have h := h.2
        intro μ36 e23
        have h := h μ36 e23
        have v := v μ36 e23
        refine ⟨h.1, ?_⟩
        have v := v h.1
        have h := h.2
        refine ⟨h.1, ?_⟩
        have v := v h.1
        have h := h.2
        intro v39 e26
        have h := h v39 e26
        have v := v v39 e26
        refine ⟨h.1, ?_⟩
        have v := v h.1
        have h := h.2
        refine ⟨h.1, ?_⟩
        have v := v h.1
        have h := h.2
        intro μ42 e29
        have h := h μ42 e29
        have v := v μ42 e29
        refine ⟨h.1, ?_⟩
        have v := v h.1
        have h := h.2
        intro μ44 e31
        have h := h μ44 e31
        have v := v μ44 e31
        exact jcX12_waterGoes_166 (k35 := wX12_waterGoes_35 Q n) (k35' := vX12_waterGoes_35 Q' n) (k35'' := wX12_waterGoes_35 Q'' n) (fun _ _ h v => ih _ _ h v) hQ _ _ h v
set_option maxRecDepth 100000 in
set_option maxHeartbeats 4000000 in
theorem jaX12_waterGoes_35 {Q Q' : km_S → Prop} (hQ : ∀ y0, Q y0 → Q' y0) : ∀ (n m : Nat) (l1 : Int32) (μ : km_S), wX12_waterGoes_35 Q n l1 μ → vX12_waterGoes_35 Q' m l1 μ := by
  intro n
  induction n with
  | zero => intro m l1 μ h; exact h.elim
  | succ n ih =>
    intro m l1 μ h
    cases m with
    | zero => exact trivial
    | succ m =>
      unfold wX12_waterGoes_35 at h
      unfold vX12_waterGoes_35
      refine ⟨?_, ?_⟩
      · have h := h.1
        intro e1
        have h := h e1
        exact hQ _ h
      · have h := h.2
        intro e2
        have h := h e2
        intro e3
        have h := h.2
        intro μ18 e4
        have h := h μ18 e4
        intro e5
        have h := h.2
        intro e6
        have h := h.2
        intro μ21 e7
        have h := h μ21 e7
        intro e8
        have h := h.2
        intro e9
        have h := h.2
        intro μ24 e10
        have h := h μ24 e10
        intro e11
        have h := h.2
        refine ⟨?_, ?_⟩
        · have h := h.1
          intro e12
          have h := h e12
          exact jaX12_waterGoes_166 (k35 := wX12_waterGoes_35 Q n) (k35' := vX12_waterGoes_35 Q' m) (fun _ _ h => ih m _ _ h) hQ _ _ h
        · have h := h.2
          intro e13
          have h := h e13
          intro e14
          have h := h.2
          intro e15
          have h := h.2
          intro e16
          have h := h.2
          intro μ30 e17
          have h := h μ30 e17
          intro e18
          have h := h.2
          intro e19
          have h := h.2
          intro v33 e20
          have h := h v33 e20
          intro e21
          have h := h.2
          intro e22
          have h := h.2
          intro μ36 e23
          have h := h μ36 e23
          intro e24
          have h := h.2
          intro e25
          have h := h.2
          intro v39 e26
          have h := h v39 e26
          intro e27
          have h := h.2
          intro e28
          have h := h.2
          intro μ42 e29
          have h := h μ42 e29
          intro e30
          have h := h.2
          intro μ44 e31
          have h := h μ44 e31
          exact jaX12_waterGoes_166 (k35 := wX12_waterGoes_35 Q n) (k35' := vX12_waterGoes_35 Q' m) (fun _ _ h => ih m _ _ h) hQ _ _ h
set_option maxRecDepth 100000 in
set_option maxHeartbeats 4000000 in
theorem jfX12_waterGoes_35 {I : km_S → Prop} (W : gw_ I [11, 12, 18, 19, 20, 25]) {Q : km_S → Prop} (hQ : ∀ y0, I y0 → Q y0) : ∀ (n : Nat) (l1 : Int32) (μ : km_S), I μ → vX12_waterGoes_35 Q n l1 μ := by
  intro n
  induction n with
  | zero => intro l1 μ i; exact trivial
  | succ n ih =>
    intro l1 μ i
    unfold vX12_waterGoes_35
    refine ⟨?_, ?_⟩
    · intro e1
      exact hQ _ i
    · intro e2
      intro e3
      intro μ18 e4
      have iμ18 : I μ18 := by rw [e4]; exact ((W _ i) 11 (by decide)).2.2.1 _
      intro e5
      intro e6
      intro μ21 e7
      have iμ21 : I μ21 := by rw [e7]; exact ((W _ iμ18) 18 (by decide)).2.1 _ _
      intro e8
      intro e9
      intro μ24 e10
      have iμ24 : I μ24 := by rw [e10]; exact ((W _ iμ21) 19 (by decide)).2.1 _ _
      intro e11
      refine ⟨?_, ?_⟩
      · intro e12
        exact jfX12_waterGoes_166 (I := I) (gw_sub W (by decide)) (k35 := vX12_waterGoes_35 Q n) (fun _ _ i => ih _ _ i) hQ _ _ iμ24
      · intro e13
        intro e14
        intro e15
        intro e16
        intro μ30 e17
        have iμ30 : I μ30 := by rw [e17]; exact ((W _ iμ24) 25 (by decide)).2.1 _ _
        intro e18
        intro e19
        intro v33 e20
        intro e21
        intro e22
        intro μ36 e23
        have iμ36 : I μ36 := by rw [e23]; exact ((W _ iμ30) 25 (by decide)).2.1 _ _
        intro e24
        intro e25
        intro v39 e26
        intro e27
        intro e28
        intro μ42 e29
        have iμ42 : I μ42 := by rw [e29]; exact ((W _ iμ36) 25 (by decide)).2.1 _ _
        intro e30
        intro μ44 e31
        have iμ44 : I μ44 := by rw [e31]; exact ((W _ iμ42) 19 (by decide)).2.1 _ _
        exact jfX12_waterGoes_166 (I := I) (gw_sub W (by decide)) (k35 := vX12_waterGoes_35 Q n) (fun _ _ i => ih _ _ i) hQ _ _ iμ44
def vX12_waterGoes_28 (Q : km_S → Prop) (μ : km_S) : Prop := ∀ v45, v45 = (km_i μ 3) - 1 → ∀ j, vX12_waterGoes_35 Q j v45 μ
set_option maxRecDepth 100000 in
set_option maxHeartbeats 4000000 in
theorem jcX12_waterGoes_28 {Q Q' Q'' : km_S → Prop} (hQ : ∀ y0, Q y0 → Q' y0 → Q'' y0) : ∀ (μ : km_S), wX12_waterGoes_28 Q μ → vX12_waterGoes_28 Q' μ → wX12_waterGoes_28 Q'' μ := by
  intro μ h v
  unfold wX12_waterGoes_28 at h
  unfold vX12_waterGoes_28 at v
  unfold wX12_waterGoes_28
  intro v45 e1
  have h := h v45 e1
  have v := v v45 e1
  obtain ⟨j, h⟩ := h
  refine ⟨j, ?_⟩
  have v := v j
  exact jcX12_waterGoes_35 hQ _ _ _ h v
set_option maxRecDepth 100000 in
set_option maxHeartbeats 4000000 in
theorem jaX12_waterGoes_28 {Q Q' : km_S → Prop} (hQ : ∀ y0, Q y0 → Q' y0) : ∀ (μ : km_S), wX12_waterGoes_28 Q μ → vX12_waterGoes_28 Q' μ := by
  intro μ h
  unfold wX12_waterGoes_28 at h
  unfold vX12_waterGoes_28
  intro v45 e1
  have h := h v45 e1
  obtain ⟨j, h⟩ := h
  intro j9
  exact jaX12_waterGoes_35 hQ _ j9 _ _ h
set_option maxRecDepth 100000 in
set_option maxHeartbeats 4000000 in
theorem jfX12_waterGoes_28 {I : km_S → Prop} (W : gw_ I [11, 12, 18, 19, 20, 25]) {Q : km_S → Prop} (hQ : ∀ y0, I y0 → Q y0) : ∀ (μ : km_S), I μ → vX12_waterGoes_28 Q μ := by
  intro μ i
  unfold vX12_waterGoes_28
  intro v45 e1
  intro j
  exact jfX12_waterGoes_35 (I := I) (gw_sub W (by decide)) hQ _ _ _ i
def vX12_waterGoes (μ : km_S) (Q : km_S → Prop) : Prop := ∀ j, vX12_waterGoes_2 (vX12_waterGoes_28 Q) Q j 0 μ
set_option maxRecDepth 100000 in
set_option maxHeartbeats 4000000 in
theorem jcX12_waterGoes {Q Q' Q'' : km_S → Prop} (hQ : ∀ y0, Q y0 → Q' y0 → Q'' y0) : ∀ (μ : km_S), wX12_waterGoes μ Q → vX12_waterGoes μ Q' → wX12_waterGoes μ Q'' := by
  intro μ h v
  unfold wX12_waterGoes at h
  unfold vX12_waterGoes at v
  unfold wX12_waterGoes
  obtain ⟨j, h⟩ := h
  refine ⟨j, ?_⟩
  have v := v j
  exact jcX12_waterGoes_2 (k28 := wX12_waterGoes_28 Q) (k28' := vX12_waterGoes_28 Q') (k28'' := wX12_waterGoes_28 Q'') (fun _ h v => jcX12_waterGoes_28 hQ _ h v) hQ _ _ _ h v
set_option maxRecDepth 100000 in
set_option maxHeartbeats 4000000 in
theorem jaX12_waterGoes {Q Q' : km_S → Prop} (hQ : ∀ y0, Q y0 → Q' y0) : ∀ (μ : km_S), wX12_waterGoes μ Q → vX12_waterGoes μ Q' := by
  intro μ h
  unfold wX12_waterGoes at h
  unfold vX12_waterGoes
  obtain ⟨j, h⟩ := h
  intro j9
  exact jaX12_waterGoes_2 (k28 := wX12_waterGoes_28 Q) (k28' := vX12_waterGoes_28 Q') (fun _ h => jaX12_waterGoes_28 hQ _ h) hQ _ j9 _ _ h
set_option maxRecDepth 100000 in
set_option maxHeartbeats 4000000 in
theorem jfX12_waterGoes {I : km_S → Prop} (W : gw_ I [11, 12, 18, 19, 20, 25]) {Q : km_S → Prop} (hQ : ∀ y0, I y0 → Q y0) : ∀ (μ : km_S), I μ → vX12_waterGoes μ Q := by
  intro μ i
  unfold vX12_waterGoes
  intro j
  exact jfX12_waterGoes_2 (I := I) (gw_sub W (by decide)) (k28 := vX12_waterGoes_28 Q) (fun _ i => jfX12_waterGoes_28 (I := I) (gw_sub W (by decide)) hQ _ i) hQ _ _ _ i
def vX12_leave_134 (Q : km_S → Prop) (l1 : Int32) (l2 : Int32) (μ : km_S) : Prop := vp_in l2 10 → ((¬ (km_a μ 13 l2.toNatClampNeg) = (-1) → vp_in l2 10 → vX12_isOpen (km_a μ 13 l2.toNatClampNeg) 0 μ (fun r5 μ4 => ((r5 = 0 → Q μ4) ∧ (¬ (r5 = 0) → vX12_lift l1 μ4 (fun μ7 => vp_in l2 10 → vX12_lay l1 (km_a μ7 13 l2.toNatClampNeg) 0 μ7 (fun μ9 => Q μ9)))))) ∧ ((km_a μ 13 l2.toNatClampNeg) = (-1) → vX12_lift l1 μ (fun μ10 => vp_in l1 400 → ∀ μ12, μ12 = km_sa μ10 38 l1.toNatClampNeg 4 → vp_in l1 400 → ∀ μ14, μ14 = km_sa μ12 39 l1.toNatClampNeg (-1) → vp_in l1 400 → ∀ μ16, μ16 = km_sa μ14 40 l1.toNatClampNeg (-1) → Q μ16)))
set_option maxRecDepth 100000 in
set_option maxHeartbeats 4000000 in
theorem jcX12_leave_134 {Q Q' Q'' : km_S → Prop} (hQ : ∀ y0, Q y0 → Q' y0 → Q'' y0) : ∀ (l1 : Int32) (l2 : Int32) (μ : km_S), wX12_leave_134 Q l1 l2 μ → vX12_leave_134 Q' l1 l2 μ → wX12_leave_134 Q'' l1 l2 μ := by
  intro l1 l2 μ h v
  unfold wX12_leave_134 at h
  unfold vX12_leave_134 at v
  unfold wX12_leave_134
  refine ⟨h.1, ?_⟩
  have v := v h.1
  have h := h.2
  refine ⟨?_, ?_⟩
  · have h := h.1
    have v := v.1
    intro e2
    have h := h e2
    have v := v e2
    refine ⟨h.1, ?_⟩
    have v := v h.1
    have h := h.2
    refine jcX12_isOpen ?_ _ _ _ h v
    intro r5 μ4 h v
    refine ⟨?_, ?_⟩
    · have h := h.1
      have v := v.1
      intro e4
      have h := h e4
      have v := v e4
      exact hQ _ h v
    · have h := h.2
      have v := v.2
      intro e5
      have h := h e5
      have v := v e5
      refine jcX12_lift ?_ _ _ h v
      intro μ7 h v
      refine ⟨h.1, ?_⟩
      have v := v h.1
      have h := h.2
      refine jcX12_lay ?_ _ _ _ _ h v
      intro μ9 h v
      exact hQ _ h v
  · have h := h.2
    have v := v.2
    intro e7
    have h := h e7
    have v := v e7
    refine jcX12_lift ?_ _ _ h v
    intro μ10 h v
    refine ⟨h.1, ?_⟩
    have v := v h.1
    have h := h.2
    intro μ12 e9
    have h := h μ12 e9
    have v := v μ12 e9
    refine ⟨h.1, ?_⟩
    have v := v h.1
    have h := h.2
    intro μ14 e11
    have h := h μ14 e11
    have v := v μ14 e11
    refine ⟨h.1, ?_⟩
    have v := v h.1
    have h := h.2
    intro μ16 e13
    have h := h μ16 e13
    have v := v μ16 e13
    exact hQ _ h v
set_option maxRecDepth 100000 in
set_option maxHeartbeats 4000000 in
theorem jaX12_leave_134 {Q Q' : km_S → Prop} (hQ : ∀ y0, Q y0 → Q' y0) : ∀ (l1 : Int32) (l2 : Int32) (μ : km_S), wX12_leave_134 Q l1 l2 μ → vX12_leave_134 Q' l1 l2 μ := by
  intro l1 l2 μ h
  unfold wX12_leave_134 at h
  unfold vX12_leave_134
  intro e1
  have h := h.2
  refine ⟨?_, ?_⟩
  · have h := h.1
    intro e2
    have h := h e2
    intro e3
    have h := h.2
    refine jaX12_isOpen ?_ _ _ _ h
    intro r5 μ4 h
    refine ⟨?_, ?_⟩
    · have h := h.1
      intro e4
      have h := h e4
      exact hQ _ h
    · have h := h.2
      intro e5
      have h := h e5
      refine jaX12_lift ?_ _ _ h
      intro μ7 h
      intro e6
      have h := h.2
      refine jaX12_lay ?_ _ _ _ _ h
      intro μ9 h
      exact hQ _ h
  · have h := h.2
    intro e7
    have h := h e7
    refine jaX12_lift ?_ _ _ h
    intro μ10 h
    intro e8
    have h := h.2
    intro μ12 e9
    have h := h μ12 e9
    intro e10
    have h := h.2
    intro μ14 e11
    have h := h μ14 e11
    intro e12
    have h := h.2
    intro μ16 e13
    have h := h μ16 e13
    exact hQ _ h
set_option maxRecDepth 100000 in
set_option maxHeartbeats 4000000 in
theorem jfX12_leave_134 {I : km_S → Prop} (W : gw_ I [31, 32, 38, 39, 40]) {Q : km_S → Prop} (hQ : ∀ y0, I y0 → Q y0) : ∀ (l1 : Int32) (l2 : Int32) (μ : km_S), I μ → vX12_leave_134 Q l1 l2 μ := by
  intro l1 l2 μ i
  unfold vX12_leave_134
  intro e1
  refine ⟨?_, ?_⟩
  · intro e2
    intro e3
    refine jfX12_isOpen (I := I) (gw_sub W (by decide)) ?_ _ _ _ i
    intro r5 μ4 iμ4
    refine ⟨?_, ?_⟩
    · intro e4
      exact hQ _ iμ4
    · intro e5
      refine jfX12_lift (I := I) (gw_sub W (by decide)) ?_ _ _ iμ4
      intro μ7 iμ7
      intro e6
      refine jfX12_lay (I := I) (gw_sub W (by decide)) ?_ _ _ _ _ iμ7
      intro μ9 iμ9
      exact hQ _ iμ9
  · intro e7
    refine jfX12_lift (I := I) (gw_sub W (by decide)) ?_ _ _ i
    intro μ10 iμ10
    intro e8
    intro μ12 e9
    have iμ12 : I μ12 := by rw [e9]; exact ((W _ iμ10) 38 (by decide)).2.1 _ _
    intro e10
    intro μ14 e11
    have iμ14 : I μ14 := by rw [e11]; exact ((W _ iμ12) 39 (by decide)).2.1 _ _
    intro e12
    intro μ16 e13
    have iμ16 : I μ16 := by rw [e13]; exact ((W _ iμ14) 40 (by decide)).2.1 _ _
    exact hQ _ iμ16
def vX12_leave_113 (Q : km_S → Prop) (l1 : Int32) (l2 : Int32) (μ : km_S) : Prop := vp_in l2 10 → (((km_a μ 21 l2.toNatClampNeg) = 0 → vX12_leave_134 Q l1 l2 μ) ∧ (¬ ((km_a μ 21 l2.toNatClampNeg) = 0) → vp_in l2 10 → ((50 ≤ (km_a μ 19 l2.toNatClampNeg) → vX12_leave_134 Q l1 l2 μ) ∧ (¬ (50 ≤ (km_a μ 19 l2.toNatClampNeg)) → Q μ))))
set_option maxRecDepth 100000 in
set_option maxHeartbeats 4000000 in
theorem jcX12_leave_113 {Q Q' Q'' : km_S → Prop} (hQ : ∀ y0, Q y0 → Q' y0 → Q'' y0) : ∀ (l1 : Int32) (l2 : Int32) (μ : km_S), wX12_leave_113 Q l1 l2 μ → vX12_leave_113 Q' l1 l2 μ → wX12_leave_113 Q'' l1 l2 μ := by
  intro l1 l2 μ h v
  unfold wX12_leave_113 at h
  unfold vX12_leave_113 at v
  unfold wX12_leave_113
  refine ⟨h.1, ?_⟩
  have v := v h.1
  have h := h.2
  refine ⟨?_, ?_⟩
  · have h := h.1
    have v := v.1
    intro e2
    have h := h e2
    have v := v e2
    exact jcX12_leave_134 hQ _ _ _ h v
  · have h := h.2
    have v := v.2
    intro e3
    have h := h e3
    have v := v e3
    refine ⟨h.1, ?_⟩
    have v := v h.1
    have h := h.2
    refine ⟨?_, ?_⟩
    · have h := h.1
      have v := v.1
      intro e5
      have h := h e5
      have v := v e5
      exact jcX12_leave_134 hQ _ _ _ h v
    · have h := h.2
      have v := v.2
      intro e6
      have h := h e6
      have v := v e6
      exact hQ _ h v
set_option maxRecDepth 100000 in
set_option maxHeartbeats 4000000 in
theorem jaX12_leave_113 {Q Q' : km_S → Prop} (hQ : ∀ y0, Q y0 → Q' y0) : ∀ (l1 : Int32) (l2 : Int32) (μ : km_S), wX12_leave_113 Q l1 l2 μ → vX12_leave_113 Q' l1 l2 μ := by
  intro l1 l2 μ h
  unfold wX12_leave_113 at h
  unfold vX12_leave_113
  intro e1
  have h := h.2
  refine ⟨?_, ?_⟩
  · have h := h.1
    intro e2
    have h := h e2
    exact jaX12_leave_134 hQ _ _ _ h
  · have h := h.2
    intro e3
    have h := h e3
    intro e4
    have h := h.2
    refine ⟨?_, ?_⟩
    · have h := h.1
      intro e5
      have h := h e5
      exact jaX12_leave_134 hQ _ _ _ h
    · have h := h.2
      intro e6
      have h := h e6
      exact hQ _ h
set_option maxRecDepth 100000 in
set_option maxHeartbeats 4000000 in
theorem jfX12_leave_113 {I : km_S → Prop} (W : gw_ I [31, 32, 38, 39, 40]) {Q : km_S → Prop} (hQ : ∀ y0, I y0 → Q y0) : ∀ (l1 : Int32) (l2 : Int32) (μ : km_S), I μ → vX12_leave_113 Q l1 l2 μ := by
  intro l1 l2 μ i
  unfold vX12_leave_113
  intro e1
  refine ⟨?_, ?_⟩
  · intro e2
    exact jfX12_leave_134 (I := I) (gw_sub W (by decide)) hQ _ _ _ i
  · intro e3
    intro e4
    refine ⟨?_, ?_⟩
    · intro e5
      exact jfX12_leave_134 (I := I) (gw_sub W (by decide)) hQ _ _ _ i
    · intro e6
      exact hQ _ i
def vX12_leave (l1 : Int32) (l2 : Int32) (μ : km_S) (Q : km_S → Prop) : Prop := vp_in l2 10 → (((km_a μ 22 l2.toNatClampNeg) = 0 → vX12_leave_113 Q l1 l2 μ) ∧ (¬ ((km_a μ 22 l2.toNatClampNeg) = 0) → vp_in l2 10 → vp_in l1 400 → ((¬ (((km_a μ 27 l2.toNatClampNeg) >>> ((km_a μ 35 l1.toNatClampNeg) &&& 31)) &&& 1) = 1 → vX12_leave_113 Q l1 l2 μ) ∧ ((((km_a μ 27 l2.toNatClampNeg) >>> ((km_a μ 35 l1.toNatClampNeg) &&& 31)) &&& 1) = 1 → vp_in l2 10 → vp_in l2 10 → (((km_a μ 29 l2.toNatClampNeg) < (km_a μ 28 l2.toNatClampNeg) → vX12_lift l1 μ (fun μ29 => vp_in l2 10 → vp_in ((100 * l2) + (km_a μ29 29 l2.toNatClampNeg)) 1000 → ∀ μ32, μ32 = km_sa μ29 30 ((100 * l2) + (km_a μ29 29 l2.toNatClampNeg)).toNatClampNeg l1 → vp_in l2 10 → vp_in l2 10 → ∀ μ35, μ35 = km_sa μ32 29 l2.toNatClampNeg ((km_a μ32 29 l2.toNatClampNeg) + 1) → vp_in l1 400 → ∀ μ37, μ37 = km_sa μ35 38 l1.toNatClampNeg 2 → vp_in l1 400 → ∀ μ39, μ39 = km_sa μ37 40 l1.toNatClampNeg (-1) → vp_in l1 400 → vp_in (km_a μ39 35 l1.toNatClampNeg) 16 → vX12_ruled 1 l1 l2 μ39 (fun r43 μ42 => vp_in (km_a μ39 35 l1.toNatClampNeg) 16 → ∀ μ45, μ45 = km_sp μ42 (km_a μ39 35 l1.toNatClampNeg).toNatClampNeg ((km_p μ39 (km_a μ39 35 l1.toNatClampNeg).toNatClampNeg) + r43.toInt64) → Q μ45))) ∧ (¬ ((km_a μ 29 l2.toNatClampNeg) < (km_a μ 28 l2.toNatClampNeg)) → Q μ))))))
set_option maxRecDepth 100000 in
set_option maxHeartbeats 4000000 in
theorem jcX12_leave {Q Q' Q'' : km_S → Prop} (hQ : ∀ y0, Q y0 → Q' y0 → Q'' y0) : ∀ (l1 : Int32) (l2 : Int32) (μ : km_S), wX12_leave l1 l2 μ Q → vX12_leave l1 l2 μ Q' → wX12_leave l1 l2 μ Q'' := by
  intro l1 l2 μ h v
  unfold wX12_leave at h
  unfold vX12_leave at v
  unfold wX12_leave
  refine ⟨h.1, ?_⟩
  have v := v h.1
  have h := h.2
  refine ⟨?_, ?_⟩
  · have h := h.1
    have v := v.1
    intro e2
    have h := h e2
    have v := v e2
    exact jcX12_leave_113 hQ _ _ _ h v
  · have h := h.2
    have v := v.2
    intro e3
    have h := h e3
    have v := v e3
    refine ⟨h.1, ?_⟩
    have v := v h.1
    have h := h.2
    refine ⟨h.1, ?_⟩
    have v := v h.1
    have h := h.2
    refine ⟨?_, ?_⟩
    · have h := h.1
      have v := v.1
      intro e6
      have h := h e6
      have v := v e6
      exact jcX12_leave_113 hQ _ _ _ h v
    · have h := h.2
      have v := v.2
      intro e7
      have h := h e7
      have v := v e7
      refine ⟨h.1, ?_⟩
      have v := v h.1
      have h := h.2
      refine ⟨h.1, ?_⟩
      have v := v h.1
      have h := h.2
      refine ⟨?_, ?_⟩
      · have h := h.1
        have v := v.1
        intro e10
        have h := h e10
        have v := v e10
        refine jcX12_lift ?_ _ _ h v
        intro μ29 h v
        refine ⟨h.1, ?_⟩
        have v := v h.1
        have h := h.2
        refine ⟨h.1, ?_⟩
        have v := v h.1
        have h := h.2
        intro μ32 e13
        have h := h μ32 e13
        have v := v μ32 e13
        refine ⟨h.1, ?_⟩
        have v := v h.1
        have h := h.2
        refine ⟨h.1, ?_⟩
        have v := v h.1
        have h := h.2
        intro μ35 e16
        have h := h μ35 e16
        have v := v μ35 e16
        refine ⟨h.1, ?_⟩
        have v := v h.1
        have h := h.2
        intro μ37 e18
        have h := h μ37 e18
        have v := v μ37 e18
        refine ⟨h.1, ?_⟩
        have v := v h.1
        have h := h.2
        intro μ39 e20
        have h := h μ39 e20
        have v := v μ39 e20
        refine ⟨h.1, ?_⟩
        have v := v h.1
        have h := h.2
        refine ⟨h.1, ?_⟩
        have v := v h.1
        have h := h.2
        refine jcX12_ruled ?_ _ _ _ _ h v
        intro r43 μ42 h v
        refine ⟨h.1, ?_⟩
        have v := v h.1
        have h := h.2
        intro μ45 e24
        have h := h μ45 e24
        have v := v μ45 e24
        exact hQ _ h v
      · have h := h.2
        have v := v.2
        intro e25
        have h := h e25
        have v := v e25
        exact hQ _ h v
set_option maxRecDepth 100000 in
set_option maxHeartbeats 4000000 in
theorem jaX12_leave {Q Q' : km_S → Prop} (hQ : ∀ y0, Q y0 → Q' y0) : ∀ (l1 : Int32) (l2 : Int32) (μ : km_S), wX12_leave l1 l2 μ Q → vX12_leave l1 l2 μ Q' := by
  intro l1 l2 μ h
  unfold wX12_leave at h
  unfold vX12_leave
  intro e1
  have h := h.2
  refine ⟨?_, ?_⟩
  · have h := h.1
    intro e2
    have h := h e2
    exact jaX12_leave_113 hQ _ _ _ h
  · have h := h.2
    intro e3
    have h := h e3
    intro e4
    have h := h.2
    intro e5
    have h := h.2
    refine ⟨?_, ?_⟩
    · have h := h.1
      intro e6
      have h := h e6
      exact jaX12_leave_113 hQ _ _ _ h
    · have h := h.2
      intro e7
      have h := h e7
      intro e8
      have h := h.2
      intro e9
      have h := h.2
      refine ⟨?_, ?_⟩
      · have h := h.1
        intro e10
        have h := h e10
        refine jaX12_lift ?_ _ _ h
        intro μ29 h
        intro e11
        have h := h.2
        intro e12
        have h := h.2
        intro μ32 e13
        have h := h μ32 e13
        intro e14
        have h := h.2
        intro e15
        have h := h.2
        intro μ35 e16
        have h := h μ35 e16
        intro e17
        have h := h.2
        intro μ37 e18
        have h := h μ37 e18
        intro e19
        have h := h.2
        intro μ39 e20
        have h := h μ39 e20
        intro e21
        have h := h.2
        intro e22
        have h := h.2
        refine jaX12_ruled ?_ _ _ _ _ h
        intro r43 μ42 h
        intro e23
        have h := h.2
        intro μ45 e24
        have h := h μ45 e24
        exact hQ _ h
      · have h := h.2
        intro e25
        have h := h e25
        exact hQ _ h
set_option maxRecDepth 100000 in
set_option maxHeartbeats 4000000 in
theorem jfX12_leave {I : km_S → Prop} (W : gw_ I [29, 30, 31, 32, 38, 39, 40, 57, 68, 1000]) {Q : km_S → Prop} (hQ : ∀ y0, I y0 → Q y0) : ∀ (l1 : Int32) (l2 : Int32) (μ : km_S), I μ → vX12_leave l1 l2 μ Q := by
  intro l1 l2 μ i
  unfold vX12_leave
  intro e1
  refine ⟨?_, ?_⟩
  · intro e2
    exact jfX12_leave_113 (I := I) (gw_sub W (by decide)) hQ _ _ _ i
  · intro e3
    intro e4
    intro e5
    refine ⟨?_, ?_⟩
    · intro e6
      exact jfX12_leave_113 (I := I) (gw_sub W (by decide)) hQ _ _ _ i
    · intro e7
      intro e8
      intro e9
      refine ⟨?_, ?_⟩
      · intro e10
        refine jfX12_lift (I := I) (gw_sub W (by decide)) ?_ _ _ i
        intro μ29 iμ29
        intro e11
        intro e12
        intro μ32 e13
        have iμ32 : I μ32 := by rw [e13]; exact ((W _ iμ29) 30 (by decide)).2.1 _ _
        intro e14
        intro e15
        intro μ35 e16
        have iμ35 : I μ35 := by rw [e16]; exact ((W _ iμ32) 29 (by decide)).2.1 _ _
        intro e17
        intro μ37 e18
        have iμ37 : I μ37 := by rw [e18]; exact ((W _ iμ35) 38 (by decide)).2.1 _ _
        intro e19
        intro μ39 e20
        have iμ39 : I μ39 := by rw [e20]; exact ((W _ iμ37) 40 (by decide)).2.1 _ _
        intro e21
        intro e22
        refine jfX12_ruled (I := I) (gw_sub W (by decide)) ?_ _ _ _ _ iμ39
        intro r43 μ42 iμ42
        intro e23
        intro μ45 e24
        have iμ45 : I μ45 := by rw [e24]; exact ((W _ iμ42) 1000 (by decide)).2.2.2 _ _
        exact hQ _ iμ45
      · intro e25
        exact hQ _ i
def vX12_go_98 (Q : km_S → Prop) (l1 : Int32) (l2 : Int32) (μ : km_S) : Prop := vX12_leave l1 l2 μ (fun μ1 => Q μ1)
set_option maxRecDepth 100000 in
set_option maxHeartbeats 4000000 in
theorem jcX12_go_98 {Q Q' Q'' : km_S → Prop} (hQ : ∀ y0, Q y0 → Q' y0 → Q'' y0) : ∀ (l1 : Int32) (l2 : Int32) (μ : km_S), wX12_go_98 Q l1 l2 μ → vX12_go_98 Q' l1 l2 μ → wX12_go_98 Q'' l1 l2 μ := by
  intro l1 l2 μ h v
  unfold wX12_go_98 at h
  unfold vX12_go_98 at v
  unfold wX12_go_98
  refine jcX12_leave ?_ _ _ _ h v
  intro μ1 h v
  exact hQ _ h v
set_option maxRecDepth 100000 in
set_option maxHeartbeats 4000000 in
theorem jaX12_go_98 {Q Q' : km_S → Prop} (hQ : ∀ y0, Q y0 → Q' y0) : ∀ (l1 : Int32) (l2 : Int32) (μ : km_S), wX12_go_98 Q l1 l2 μ → vX12_go_98 Q' l1 l2 μ := by
  intro l1 l2 μ h
  unfold wX12_go_98 at h
  unfold vX12_go_98
  refine jaX12_leave ?_ _ _ _ h
  intro μ1 h
  exact hQ _ h
set_option maxRecDepth 100000 in
set_option maxHeartbeats 4000000 in
theorem jfX12_go_98 {I : km_S → Prop} (W : gw_ I [29, 30, 31, 32, 38, 39, 40, 57, 68, 1000]) {Q : km_S → Prop} (hQ : ∀ y0, I y0 → Q y0) : ∀ (l1 : Int32) (l2 : Int32) (μ : km_S), I μ → vX12_go_98 Q l1 l2 μ := by
  intro l1 l2 μ i
  unfold vX12_go_98
  refine jfX12_leave (I := I) (gw_sub W (by decide)) ?_ _ _ _ i
  intro μ1 iμ1
  exact hQ _ iμ1
def vX12_go_25 (k98 : Int32 → Int32 → km_S → Prop) (Q : km_S → Prop) : Nat → Int32 → Int32 → Int32 → Int32 → km_S → Prop
  | 0, _, _, _, _, _ => True
  | n + 1, l1, l2, l3, l4, μ => ((l3 ≤ l4 → Q μ) ∧ (¬ (l3 ≤ l4) → vp_in l1 400 → ∀ v4, v4 = km_a μ 40 l1.toNatClampNeg → vX12_at0 l2 v4 μ (fun r6 μ5 => vp_in r6 120 → (((km_a μ5 33 r6.toNatClampNeg) = 0 → vp_in l2 10 → (((km_a μ5 14 l2.toNatClampNeg) ≤ (v4 + 1) → k98 l1 l2 μ5) ∧ (¬ ((km_a μ5 14 l2.toNatClampNeg) ≤ (v4 + 1)) → vX12_isOpen l2 (v4 + 1) μ5 (fun r12 μ11 => ((¬ r12 = 0 → vX12_lift l1 μ11 (fun μ14 => vX12_lay l1 l2 (v4 + 1) μ14 (fun μ15 => ∀ v16 : Int32, v16 = l4 + 1 → vX12_go_25 k98 Q n l1 l2 l3 v16 μ15))) ∧ (r12 = 0 → Q μ11)))))) ∧ (¬ ((km_a μ5 33 r6.toNatClampNeg) = 0) → Q μ5)))))
set_option maxRecDepth 100000 in
set_option maxHeartbeats 4000000 in
theorem jcX12_go_25 {k98 k98' k98'' : Int32 → Int32 → km_S → Prop} (hk98 : ∀ y0 y1 y2, k98 y0 y1 y2 → k98' y0 y1 y2 → k98'' y0 y1 y2) {Q Q' Q'' : km_S → Prop} (hQ : ∀ y0, Q y0 → Q' y0 → Q'' y0) : ∀ (n : Nat) (l1 : Int32) (l2 : Int32) (l3 : Int32) (l4 : Int32) (μ : km_S), wX12_go_25 k98 Q n l1 l2 l3 l4 μ → vX12_go_25 k98' Q' n l1 l2 l3 l4 μ → wX12_go_25 k98'' Q'' n l1 l2 l3 l4 μ := by
  intro n
  induction n with
  | zero => intro l1 l2 l3 l4 μ h; exact h.elim
  | succ n ih =>
    intro l1 l2 l3 l4 μ h v
    unfold wX12_go_25 at h
    unfold vX12_go_25 at v
    unfold wX12_go_25
    refine ⟨?_, ?_⟩
    · have h := h.1
      have v := v.1
      intro e1
      have h := h e1
      have v := v e1
      exact hQ _ h v
    · have h := h.2
      have v := v.2
      intro e2
      have h := h e2
      have v := v e2
      refine ⟨h.1, ?_⟩
      have v := v h.1
      have h := h.2
      intro v4 e4
      have h := h v4 e4
      have v := v v4 e4
      refine jcX12_at0 ?_ _ _ _ h v
      intro r6 μ5 h v
      refine ⟨h.1, ?_⟩
      have v := v h.1
      have h := h.2
      refine ⟨?_, ?_⟩
      · have h := h.1
        have v := v.1
        intro e6
        have h := h e6
        have v := v e6
        refine ⟨h.1, ?_⟩
        have v := v h.1
        have h := h.2
        refine ⟨?_, ?_⟩
        · have h := h.1
          have v := v.1
          intro e8
          have h := h e8
          have v := v e8
          exact hk98 _ _ _ h v
        · have h := h.2
          have v := v.2
          intro e9
          have h := h e9
          have v := v e9
          refine jcX12_isOpen ?_ _ _ _ h v
          intro r12 μ11 h v
          refine ⟨?_, ?_⟩
          · have h := h.1
            have v := v.1
            intro e10
            have h := h e10
            have v := v e10
            refine jcX12_lift ?_ _ _ h v
            intro μ14 h v
            refine jcX12_lay ?_ _ _ _ _ h v
            intro μ15 h v
            intro v16 e11
            have h := h v16 e11
            have v := v v16 e11
            exact ih _ _ _ _ _ h v
          · have h := h.2
            have v := v.2
            intro e12
            have h := h e12
            have v := v e12
            exact hQ _ h v
      · have h := h.2
        have v := v.2
        intro e13
        have h := h e13
        have v := v e13
        exact hQ _ h v
set_option maxRecDepth 100000 in
set_option maxHeartbeats 4000000 in
theorem jaX12_go_25 {k98 k98' : Int32 → Int32 → km_S → Prop} (hk98 : ∀ y0 y1 y2, k98 y0 y1 y2 → k98' y0 y1 y2) {Q Q' : km_S → Prop} (hQ : ∀ y0, Q y0 → Q' y0) : ∀ (n m : Nat) (l1 : Int32) (l2 : Int32) (l3 : Int32) (l4 : Int32) (μ : km_S), wX12_go_25 k98 Q n l1 l2 l3 l4 μ → vX12_go_25 k98' Q' m l1 l2 l3 l4 μ := by
  intro n
  induction n with
  | zero => intro m l1 l2 l3 l4 μ h; exact h.elim
  | succ n ih =>
    intro m l1 l2 l3 l4 μ h
    cases m with
    | zero => exact trivial
    | succ m =>
      unfold wX12_go_25 at h
      unfold vX12_go_25
      refine ⟨?_, ?_⟩
      · have h := h.1
        intro e1
        have h := h e1
        exact hQ _ h
      · have h := h.2
        intro e2
        have h := h e2
        intro e3
        have h := h.2
        intro v4 e4
        have h := h v4 e4
        refine jaX12_at0 ?_ _ _ _ h
        intro r6 μ5 h
        intro e5
        have h := h.2
        refine ⟨?_, ?_⟩
        · have h := h.1
          intro e6
          have h := h e6
          intro e7
          have h := h.2
          refine ⟨?_, ?_⟩
          · have h := h.1
            intro e8
            have h := h e8
            exact hk98 _ _ _ h
          · have h := h.2
            intro e9
            have h := h e9
            refine jaX12_isOpen ?_ _ _ _ h
            intro r12 μ11 h
            refine ⟨?_, ?_⟩
            · have h := h.1
              intro e10
              have h := h e10
              refine jaX12_lift ?_ _ _ h
              intro μ14 h
              refine jaX12_lay ?_ _ _ _ _ h
              intro μ15 h
              intro v16 e11
              have h := h v16 e11
              exact ih m _ _ _ _ _ h
            · have h := h.2
              intro e12
              have h := h e12
              exact hQ _ h
        · have h := h.2
          intro e13
          have h := h e13
          exact hQ _ h
set_option maxRecDepth 100000 in
set_option maxHeartbeats 4000000 in
theorem jfX12_go_25 {I : km_S → Prop} (W : gw_ I [31, 32, 39, 40]) {k98 : Int32 → Int32 → km_S → Prop} (hk98 : ∀ y0 y1 y2, I y2 → k98 y0 y1 y2) {Q : km_S → Prop} (hQ : ∀ y0, I y0 → Q y0) : ∀ (n : Nat) (l1 : Int32) (l2 : Int32) (l3 : Int32) (l4 : Int32) (μ : km_S), I μ → vX12_go_25 k98 Q n l1 l2 l3 l4 μ := by
  intro n
  induction n with
  | zero => intro l1 l2 l3 l4 μ i; exact trivial
  | succ n ih =>
    intro l1 l2 l3 l4 μ i
    unfold vX12_go_25
    refine ⟨?_, ?_⟩
    · intro e1
      exact hQ _ i
    · intro e2
      intro e3
      intro v4 e4
      refine jfX12_at0 (I := I) (gw_sub W (by decide)) ?_ _ _ _ i
      intro r6 μ5 iμ5
      intro e5
      refine ⟨?_, ?_⟩
      · intro e6
        intro e7
        refine ⟨?_, ?_⟩
        · intro e8
          exact hk98 _ _ _ iμ5
        · intro e9
          refine jfX12_isOpen (I := I) (gw_sub W (by decide)) ?_ _ _ _ iμ5
          intro r12 μ11 iμ11
          refine ⟨?_, ?_⟩
          · intro e10
            refine jfX12_lift (I := I) (gw_sub W (by decide)) ?_ _ _ iμ11
            intro μ14 iμ14
            refine jfX12_lay (I := I) (gw_sub W (by decide)) ?_ _ _ _ _ iμ14
            intro μ15 iμ15
            intro v16 e11
            exact ih _ _ _ _ _ iμ15
          · intro e12
            exact hQ _ iμ11
      · intro e13
        exact hQ _ iμ5
def vX12_go (l1 : Int32) (μ : km_S) (Q : km_S → Prop) : Prop := vp_in l1 400 → ∀ v18, v18 = km_a μ 39 l1.toNatClampNeg → vp_in v18 10 → ∀ v20, v20 = (if ((km_a μ 18 v18.toNatClampNeg) / 100) < 6 then ((km_a μ 18 v18.toNatClampNeg) / 100) else 6) → ∀ j, vX12_go_25 (vX12_go_98 Q) Q j l1 v18 v20 0 μ
set_option maxRecDepth 100000 in
set_option maxHeartbeats 4000000 in
theorem jcX12_go {Q Q' Q'' : km_S → Prop} (hQ : ∀ y0, Q y0 → Q' y0 → Q'' y0) : ∀ (l1 : Int32) (μ : km_S), wX12_go l1 μ Q → vX12_go l1 μ Q' → wX12_go l1 μ Q'' := by
  intro l1 μ h v
  unfold wX12_go at h
  unfold vX12_go at v
  unfold wX12_go
  refine ⟨h.1, ?_⟩
  have v := v h.1
  have h := h.2
  intro v18 e2
  have h := h v18 e2
  have v := v v18 e2
  refine ⟨h.1, ?_⟩
  have v := v h.1
  have h := h.2
  intro v20 e4
  have h := h v20 e4
  have v := v v20 e4
  obtain ⟨j, h⟩ := h
  refine ⟨j, ?_⟩
  have v := v j
  exact jcX12_go_25 (k98 := wX12_go_98 Q) (k98' := vX12_go_98 Q') (k98'' := wX12_go_98 Q'') (fun _ _ _ h v => jcX12_go_98 hQ _ _ _ h v) hQ _ _ _ _ _ _ h v
set_option maxRecDepth 100000 in
set_option maxHeartbeats 4000000 in
theorem jaX12_go {Q Q' : km_S → Prop} (hQ : ∀ y0, Q y0 → Q' y0) : ∀ (l1 : Int32) (μ : km_S), wX12_go l1 μ Q → vX12_go l1 μ Q' := by
  intro l1 μ h
  unfold wX12_go at h
  unfold vX12_go
  intro e1
  have h := h.2
  intro v18 e2
  have h := h v18 e2
  intro e3
  have h := h.2
  intro v20 e4
  have h := h v20 e4
  obtain ⟨j, h⟩ := h
  intro j9
  exact jaX12_go_25 (k98 := wX12_go_98 Q) (k98' := vX12_go_98 Q') (fun _ _ _ h => jaX12_go_98 hQ _ _ _ h) hQ _ j9 _ _ _ _ _ h
set_option maxRecDepth 100000 in
set_option maxHeartbeats 4000000 in
theorem jfX12_go {I : km_S → Prop} (W : gw_ I [29, 30, 31, 32, 38, 39, 40, 57, 68, 1000]) {Q : km_S → Prop} (hQ : ∀ y0, I y0 → Q y0) : ∀ (l1 : Int32) (μ : km_S), I μ → vX12_go l1 μ Q := by
  intro l1 μ i
  unfold vX12_go
  intro e1
  intro v18 e2
  intro e3
  intro v20 e4
  intro j
  exact jfX12_go_25 (I := I) (gw_sub W (by decide)) (k98 := vX12_go_98 Q) (fun _ _ _ i => jfX12_go_98 (I := I) (gw_sub W (by decide)) hQ _ _ _ i) hQ _ _ _ _ _ _ i
