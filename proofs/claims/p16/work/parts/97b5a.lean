def vX11_runWater_131 (k69 : Nat → Int32 → kx_S → Prop) (Q : kx_S → Prop) (l0 : Nat) (l1 : Int32) (σ : kx_S) : Prop := ∀ v1 : Int32, v1 = l1 + (-1) → k69 l0 v1 σ
set_option maxRecDepth 100000 in
set_option maxHeartbeats 4000000 in
theorem jcX11_runWater_131 {k69 k69' k69'' : Nat → Int32 → kx_S → Prop} (hk69 : ∀ y0 y1 y2, k69 y0 y1 y2 → k69' y0 y1 y2 → k69'' y0 y1 y2) {Q Q' Q'' : kx_S → Prop} (hQ : ∀ y0, Q y0 → Q' y0 → Q'' y0) : ∀ (l0 : Nat) (l1 : Int32) (σ : kx_S), wX11_runWater_131 k69 Q l0 l1 σ → vX11_runWater_131 k69' Q' l0 l1 σ → wX11_runWater_131 k69'' Q'' l0 l1 σ := by
  intro l0 l1 σ h v
  unfold wX11_runWater_131 at h
  unfold vX11_runWater_131 at v
  unfold wX11_runWater_131
  intro v1 e1
  have h := h v1 e1
  have v := v v1 e1
  exact hk69 _ _ _ h v
set_option maxRecDepth 100000 in
set_option maxHeartbeats 4000000 in
theorem jaX11_runWater_131 {k69 k69' : Nat → Int32 → kx_S → Prop} (hk69 : ∀ y0 y1 y2, k69 y0 y1 y2 → k69' y0 y1 y2) {Q Q' : kx_S → Prop} (hQ : ∀ y0, Q y0 → Q' y0) : ∀ (l0 : Nat) (l1 : Int32) (σ : kx_S), wX11_runWater_131 k69 Q l0 l1 σ → vX11_runWater_131 k69' Q' l0 l1 σ := by
  intro l0 l1 σ h
  unfold wX11_runWater_131 at h
  unfold vX11_runWater_131
  intro v1 e1
  have h := h v1 e1
  exact hk69 _ _ _ h
set_option maxRecDepth 100000 in
set_option maxHeartbeats 4000000 in
theorem jfX11_runWater_131 {I : kx_S → Prop} (W : fw_ I []) {k69 : Nat → Int32 → kx_S → Prop} (hk69 : ∀ y0 y1 y2, I y2 → k69 y0 y1 y2) {Q : kx_S → Prop} (hQ : ∀ y0, I y0 → Q y0) : ∀ (l0 : Nat) (l1 : Int32) (σ : kx_S), I σ → vX11_runWater_131 k69 Q l0 l1 σ := by
  intro l0 l1 σ i
  unfold vX11_runWater_131
  intro v1 e1
  exact hk69 _ _ _ i
def vX11_runWater_2 (k57 : Nat → kx_S → Prop) (Q : kx_S → Prop) : Nat → Nat → Int32 → kx_S → Prop
  | 0, _, _, _ => True
  | n + 1, l0, l1, σ => xt σ l0 = 13 → ∀ a3, xr σ 208 l0 = some a3 → xt σ a3 = 1 → vJx4a65c_size_8abf5 a3 σ (fun r6 σ5 => ((r6 ≤ l1 → k57 l0 σ5) ∧ (¬ (r6 ≤ l1) → xt σ5 l0 = 13 → ∀ a10, xr σ5 208 l0 = some a10 → xt σ5 a10 = 1 → vJx4a65c_get_915e3 a10 l1 σ5 (fun q13 σ12 => ∀ a15, q13 = some a15 → xt σ12 a15 = 10 → ∀ σ18, σ18 = xsi σ12 169 a15 (xi σ12 164 a15) → xt σ18 l0 = 13 → ∀ σ21, σ21 = xsl σ18 220 l0 ((xl σ18 220 l0) + ((xi σ18 164 a15).toInt64)) → ∀ v24 : Int32, v24 = l1 + 1 → vX11_runWater_2 k57 Q n l0 v24 σ21))))
set_option maxRecDepth 100000 in
set_option maxHeartbeats 4000000 in
theorem jcX11_runWater_2 {k57 k57' k57'' : Nat → kx_S → Prop} (hk57 : ∀ y0 y1, k57 y0 y1 → k57' y0 y1 → k57'' y0 y1) {Q Q' Q'' : kx_S → Prop} (hQ : ∀ y0, Q y0 → Q' y0 → Q'' y0) : ∀ (n : Nat) (l0 : Nat) (l1 : Int32) (σ : kx_S), wX11_runWater_2 k57 Q n l0 l1 σ → vX11_runWater_2 k57' Q' n l0 l1 σ → wX11_runWater_2 k57'' Q'' n l0 l1 σ := by
  intro n
  induction n with
  | zero => intro l0 l1 σ h; exact h.elim
  | succ n ih =>
    intro l0 l1 σ h v
    unfold wX11_runWater_2 at h
    unfold vX11_runWater_2 at v
    unfold wX11_runWater_2
    refine ⟨h.1, ?_⟩
    have v := v h.1
    have h := h.2
    obtain ⟨a3, e2, h⟩ := h
    refine ⟨a3, e2, ?_⟩
    have v := v a3 e2
    refine ⟨h.1, ?_⟩
    have v := v h.1
    have h := h.2
    refine jcJx4a65c_size_8abf5 ?_ _ _ h v
    intro r6 σ5 h v
    refine ⟨?_, ?_⟩
    · have h := h.1
      have v := v.1
      intro e4
      have h := h e4
      have v := v e4
      exact hk57 _ _ h v
    · have h := h.2
      have v := v.2
      intro e5
      have h := h e5
      have v := v e5
      refine ⟨h.1, ?_⟩
      have v := v h.1
      have h := h.2
      obtain ⟨a10, e7, h⟩ := h
      refine ⟨a10, e7, ?_⟩
      have v := v a10 e7
      refine ⟨h.1, ?_⟩
      have v := v h.1
      have h := h.2
      refine jcJx4a65c_get_915e3 ?_ _ _ _ h v
      intro q13 σ12 h v
      obtain ⟨a15, e9, h⟩ := h
      refine ⟨a15, e9, ?_⟩
      have v := v a15 e9
      refine ⟨h.1, ?_⟩
      have v := v h.1
      have h := h.2
      intro σ18 e11
      have h := h σ18 e11
      have v := v σ18 e11
      refine ⟨h.1, ?_⟩
      have v := v h.1
      have h := h.2
      intro σ21 e13
      have h := h σ21 e13
      have v := v σ21 e13
      intro v24 e14
      have h := h v24 e14
      have v := v v24 e14
      exact ih _ _ _ h v
set_option maxRecDepth 100000 in
set_option maxHeartbeats 4000000 in
theorem jaX11_runWater_2 {k57 k57' : Nat → kx_S → Prop} (hk57 : ∀ y0 y1, k57 y0 y1 → k57' y0 y1) {Q Q' : kx_S → Prop} (hQ : ∀ y0, Q y0 → Q' y0) : ∀ (n m : Nat) (l0 : Nat) (l1 : Int32) (σ : kx_S), wX11_runWater_2 k57 Q n l0 l1 σ → vX11_runWater_2 k57' Q' m l0 l1 σ := by
  intro n
  induction n with
  | zero => intro m l0 l1 σ h; exact h.elim
  | succ n ih =>
    intro m l0 l1 σ h
    cases m with
    | zero => exact trivial
    | succ m =>
      unfold wX11_runWater_2 at h
      unfold vX11_runWater_2
      intro e1
      have h := h.2
      obtain ⟨a3', e2, h⟩ := h
      intro a3 e3
      have x9 : a3' = a3 := Option.some.inj (e2.symm.trans e3)
      rw [x9] at h
      intro e4
      have h := h.2
      refine jaJx4a65c_size_8abf5 ?_ _ _ h
      intro r6 σ5 h
      refine ⟨?_, ?_⟩
      · have h := h.1
        intro e5
        have h := h e5
        exact hk57 _ _ h
      · have h := h.2
        intro e6
        have h := h e6
        intro e7
        have h := h.2
        obtain ⟨a10', e8, h⟩ := h
        intro a10 e9
        have x9 : a10' = a10 := Option.some.inj (e8.symm.trans e9)
        rw [x9] at h
        intro e10
        have h := h.2
        refine jaJx4a65c_get_915e3 ?_ _ _ _ h
        intro q13 σ12 h
        obtain ⟨a15', e11, h⟩ := h
        intro a15 e12
        have x9 : a15' = a15 := Option.some.inj (e11.symm.trans e12)
        rw [x9] at h
        intro e13
        have h := h.2
        intro σ18 e14
        have h := h σ18 e14
        intro e15
        have h := h.2
        intro σ21 e16
        have h := h σ21 e16
        intro v24 e17
        have h := h v24 e17
        exact ih m _ _ _ h
set_option maxRecDepth 100000 in
set_option maxHeartbeats 4000000 in
theorem jfX11_runWater_2 {I : kx_S → Prop} (W : fw_ I [169, 220]) {k57 : Nat → kx_S → Prop} (hk57 : ∀ y0 y1, I y1 → k57 y0 y1) {Q : kx_S → Prop} (hQ : ∀ y0, I y0 → Q y0) : ∀ (n : Nat) (l0 : Nat) (l1 : Int32) (σ : kx_S), I σ → vX11_runWater_2 k57 Q n l0 l1 σ := by
  intro n
  induction n with
  | zero => intro l0 l1 σ i; exact trivial
  | succ n ih =>
    intro l0 l1 σ i
    unfold vX11_runWater_2
    intro e1
    intro a3 e2
    intro e3
    refine jfJx4a65c_size_8abf5 (I := I) (fw_sub W (by decide)) ?_ _ _ i
    intro r6 σ5 iσ5
    refine ⟨?_, ?_⟩
    · intro e4
      exact hk57 _ _ iσ5
    · intro e5
      intro e6
      intro a10 e7
      intro e8
      refine jfJx4a65c_get_915e3 (I := I) (fw_sub W (by decide)) ?_ _ _ _ iσ5
      intro q13 σ12 iσ12
      intro a15 e9
      intro e10
      intro σ18 e11
      have iσ18 : I σ18 := by rw [e11]; exact ((W _ iσ12).1 169 (by decide)).1 _ _
      intro e12
      intro σ21 e13
      have iσ21 : I σ21 := by rw [e13]; exact ((W _ iσ18).1 220 (by decide)).2.2 _ _
      intro v24 e14
      exact ih _ _ _ iσ21
def vX11_runWater_69 (Q : kx_S → Prop) : Nat → Nat → Int32 → kx_S → Prop
  | 0, _, _, _ => True
  | n + 1, l0, l1, σ => ((l1 < 0 → Q σ) ∧ (¬ (l1 < 0) → xt σ l0 = 13 → ∀ a27, xr σ 208 l0 = some a27 → xt σ a27 = 1 → vJx4a65c_get_915e3 a27 l1 σ (fun q30 σ29 => ∀ a32, q30 = some a32 → xt σ29 a32 = 10 → vX8_passWater a32 σ29 (fun σ35 => xt σ35 a32 = 10 → ((∀ a38, xr σ35 161 a32 = some a38 → ∀ a39, xr σ35 161 a32 = some a39 → xt σ35 a39 = 10 → ∀ σ42, σ42 = xsi σ35 169 a39 ((xi σ35 169 a39) + (xi σ35 170 a32)) → vX11_runWater_131 (vX11_runWater_69 Q n) Q l0 l1 σ42) ∧ (xr σ35 161 a32 = none → xt σ35 l0 = 13 → ∀ σ46, σ46 = xsl σ35 221 l0 ((xl σ35 221 l0) + ((xi σ35 170 a32).toInt64)) → vX11_runWater_131 (vX11_runWater_69 Q n) Q l0 l1 σ46))))))
set_option maxRecDepth 100000 in
set_option maxHeartbeats 4000000 in
theorem jcX11_runWater_69 {Q Q' Q'' : kx_S → Prop} (hQ : ∀ y0, Q y0 → Q' y0 → Q'' y0) : ∀ (n : Nat) (l0 : Nat) (l1 : Int32) (σ : kx_S), wX11_runWater_69 Q n l0 l1 σ → vX11_runWater_69 Q' n l0 l1 σ → wX11_runWater_69 Q'' n l0 l1 σ := by
  intro n
  induction n with
  | zero => intro l0 l1 σ h; exact h.elim
  | succ n ih =>
    intro l0 l1 σ h v
    unfold wX11_runWater_69 at h
    unfold vX11_runWater_69 at v
    unfold wX11_runWater_69
    refine ⟨?_, ?_⟩
    · have h := h.1
      have v := v.1
      intro e1
      have h := h e1
      have v := v e1
      exact hQ _ h v
    · have h := h.2
      have v := v.2
      intro e2
      have h := h e2
      have v := v e2
      refine ⟨h.1, ?_⟩
      have v := v h.1
      have h := h.2
      obtain ⟨a27, e4, h⟩ := h
      refine ⟨a27, e4, ?_⟩
      have v := v a27 e4
      refine ⟨h.1, ?_⟩
      have v := v h.1
      have h := h.2
      refine jcJx4a65c_get_915e3 ?_ _ _ _ h v
      intro q30 σ29 h v
      obtain ⟨a32, e6, h⟩ := h
      refine ⟨a32, e6, ?_⟩
      have v := v a32 e6
      refine ⟨h.1, ?_⟩
      have v := v h.1
      have h := h.2
      refine jcX8_passWater ?_ _ _ h v
      intro σ35 h v
      refine ⟨h.1, ?_⟩
      have v := v h.1
      have h := h.2
      refine ⟨?_, ?_⟩
      · have h := h.1
        have v := v.1
        intro a38 e9
        have h := h a38 e9
        have v := v a38 e9
        obtain ⟨a39, e10, h⟩ := h
        refine ⟨a39, e10, ?_⟩
        have v := v a39 e10
        refine ⟨h.1, ?_⟩
        have v := v h.1
        have h := h.2
        intro σ42 e12
        have h := h σ42 e12
        have v := v σ42 e12
        exact jcX11_runWater_131 (k69 := wX11_runWater_69 Q n) (k69' := vX11_runWater_69 Q' n) (k69'' := wX11_runWater_69 Q'' n) (fun _ _ _ h v => ih _ _ _ h v) hQ _ _ _ h v
      · have h := h.2
        have v := v.2
        intro e13
        have h := h e13
        have v := v e13
        refine ⟨h.1, ?_⟩
        have v := v h.1
        have h := h.2
        intro σ46 e15
        have h := h σ46 e15
        have v := v σ46 e15
        exact jcX11_runWater_131 (k69 := wX11_runWater_69 Q n) (k69' := vX11_runWater_69 Q' n) (k69'' := wX11_runWater_69 Q'' n) (fun _ _ _ h v => ih _ _ _ h v) hQ _ _ _ h v
set_option maxRecDepth 100000 in
set_option maxHeartbeats 4000000 in
theorem jaX11_runWater_69 {Q Q' : kx_S → Prop} (hQ : ∀ y0, Q y0 → Q' y0) : ∀ (n m : Nat) (l0 : Nat) (l1 : Int32) (σ : kx_S), wX11_runWater_69 Q n l0 l1 σ → vX11_runWater_69 Q' m l0 l1 σ := by
  intro n
  induction n with
  | zero => intro m l0 l1 σ h; exact h.elim
  | succ n ih =>
    intro m l0 l1 σ h
    cases m with
    | zero => exact trivial
    | succ m =>
      unfold wX11_runWater_69 at h
      unfold vX11_runWater_69
      refine ⟨?_, ?_⟩
      · have h := h.1
        intro e1
        have h := h e1
        exact hQ _ h
      · have h := h.2
        intro e2
        have h := h e2
        intro e3
        have h := h.2
        obtain ⟨a27', e4, h⟩ := h
        intro a27 e5
        have x9 : a27' = a27 := Option.some.inj (e4.symm.trans e5)
        rw [x9] at h
        intro e6
        have h := h.2
        refine jaJx4a65c_get_915e3 ?_ _ _ _ h
        intro q30 σ29 h
        obtain ⟨a32', e7, h⟩ := h
        intro a32 e8
        have x9 : a32' = a32 := Option.some.inj (e7.symm.trans e8)
        rw [x9] at h
        intro e9
        have h := h.2
        refine jaX8_passWater ?_ _ _ h
        intro σ35 h
        intro e10
        have h := h.2
        refine ⟨?_, ?_⟩
        · have h := h.1
          intro a38 e11
          have h := h a38 e11
          obtain ⟨a39', e12, h⟩ := h
          intro a39 e13
          have x9 : a39' = a39 := Option.some.inj (e12.symm.trans e13)
          rw [x9] at h
          intro e14
          have h := h.2
          intro σ42 e15
          have h := h σ42 e15
          exact jaX11_runWater_131 (k69 := wX11_runWater_69 Q n) (k69' := vX11_runWater_69 Q' m) (fun _ _ _ h => ih m _ _ _ h) hQ _ _ _ h
        · have h := h.2
          intro e16
          have h := h e16
          intro e17
          have h := h.2
          intro σ46 e18
          have h := h σ46 e18
          exact jaX11_runWater_131 (k69 := wX11_runWater_69 Q n) (k69' := vX11_runWater_69 Q' m) (fun _ _ _ h => ih m _ _ _ h) hQ _ _ _ h
set_option maxRecDepth 100000 in
set_option maxHeartbeats 4000000 in
theorem jfX11_runWater_69 {I : kx_S → Prop} (W : fw_ I [167, 169, 170, 221]) {Q : kx_S → Prop} (hQ : ∀ y0, I y0 → Q y0) : ∀ (n : Nat) (l0 : Nat) (l1 : Int32) (σ : kx_S), I σ → vX11_runWater_69 Q n l0 l1 σ := by
  intro n
  induction n with
  | zero => intro l0 l1 σ i; exact trivial
  | succ n ih =>
    intro l0 l1 σ i
    unfold vX11_runWater_69
    refine ⟨?_, ?_⟩
    · intro e1
      exact hQ _ i
    · intro e2
      intro e3
      intro a27 e4
      intro e5
      refine jfJx4a65c_get_915e3 (I := I) (fw_sub W (by decide)) ?_ _ _ _ i
      intro q30 σ29 iσ29
      intro a32 e6
      intro e7
      refine jfX8_passWater (I := I) (fw_sub W (by decide)) ?_ _ _ iσ29
      intro σ35 iσ35
      intro e8
      refine ⟨?_, ?_⟩
      · intro a38 e9
        intro a39 e10
        intro e11
        intro σ42 e12
        have iσ42 : I σ42 := by rw [e12]; exact ((W _ iσ35).1 169 (by decide)).1 _ _
        exact jfX11_runWater_131 (I := I) (fw_sub W (by decide)) (k69 := vX11_runWater_69 Q n) (fun _ _ _ i => ih _ _ _ i) hQ _ _ _ iσ42
      · intro e13
        intro e14
        intro σ46 e15
        have iσ46 : I σ46 := by rw [e15]; exact ((W _ iσ35).1 221 (by decide)).2.2 _ _
        exact jfX11_runWater_131 (I := I) (fw_sub W (by decide)) (k69 := vX11_runWater_69 Q n) (fun _ _ _ i => ih _ _ _ i) hQ _ _ _ iσ46
def vX11_runWater_57 (Q : kx_S → Prop) (l0 : Nat) (σ : kx_S) : Prop := xt σ l0 = 13 → ∀ a50, xr σ 208 l0 = some a50 → xt σ a50 = 1 → vJx4a65c_size_8abf5 a50 σ (fun r53 σ52 => ∀ v55, v55 = r53 - 1 → ∀ j, vX11_runWater_69 Q j l0 v55 σ52)
set_option maxRecDepth 100000 in
set_option maxHeartbeats 4000000 in
theorem jcX11_runWater_57 {Q Q' Q'' : kx_S → Prop} (hQ : ∀ y0, Q y0 → Q' y0 → Q'' y0) : ∀ (l0 : Nat) (σ : kx_S), wX11_runWater_57 Q l0 σ → vX11_runWater_57 Q' l0 σ → wX11_runWater_57 Q'' l0 σ := by
  intro l0 σ h v
  unfold wX11_runWater_57 at h
  unfold vX11_runWater_57 at v
  unfold wX11_runWater_57
  refine ⟨h.1, ?_⟩
  have v := v h.1
  have h := h.2
  obtain ⟨a50, e2, h⟩ := h
  refine ⟨a50, e2, ?_⟩
  have v := v a50 e2
  refine ⟨h.1, ?_⟩
  have v := v h.1
  have h := h.2
  refine jcJx4a65c_size_8abf5 ?_ _ _ h v
  intro r53 σ52 h v
  intro v55 e4
  have h := h v55 e4
  have v := v v55 e4
  obtain ⟨j, h⟩ := h
  refine ⟨j, ?_⟩
  have v := v j
  exact jcX11_runWater_69 hQ _ _ _ _ h v
set_option maxRecDepth 100000 in
set_option maxHeartbeats 4000000 in
theorem jaX11_runWater_57 {Q Q' : kx_S → Prop} (hQ : ∀ y0, Q y0 → Q' y0) : ∀ (l0 : Nat) (σ : kx_S), wX11_runWater_57 Q l0 σ → vX11_runWater_57 Q' l0 σ := by
  intro l0 σ h
  unfold wX11_runWater_57 at h
  unfold vX11_runWater_57
  intro e1
  have h := h.2
  obtain ⟨a50', e2, h⟩ := h
  intro a50 e3
  have x9 : a50' = a50 := Option.some.inj (e2.symm.trans e3)
  rw [x9] at h
  intro e4
  have h := h.2
  refine jaJx4a65c_size_8abf5 ?_ _ _ h
  intro r53 σ52 h
  intro v55 e5
  have h := h v55 e5
  obtain ⟨j, h⟩ := h
  intro j9
  exact jaX11_runWater_69 hQ _ j9 _ _ _ h
set_option maxRecDepth 100000 in
set_option maxHeartbeats 4000000 in
theorem jfX11_runWater_57 {I : kx_S → Prop} (W : fw_ I [167, 169, 170, 221]) {Q : kx_S → Prop} (hQ : ∀ y0, I y0 → Q y0) : ∀ (l0 : Nat) (σ : kx_S), I σ → vX11_runWater_57 Q l0 σ := by
  intro l0 σ i
  unfold vX11_runWater_57
  intro e1
  intro a50 e2
  intro e3
  refine jfJx4a65c_size_8abf5 (I := I) (fw_sub W (by decide)) ?_ _ _ i
  intro r53 σ52 iσ52
  intro v55 e4
  intro j
  exact jfX11_runWater_69 (I := I) (fw_sub W (by decide)) hQ _ _ _ _ iσ52
def vX11_runWater (l0 : Nat) (σ : kx_S) (Q : kx_S → Prop) : Prop := ∀ j, vX11_runWater_2 (vX11_runWater_57 Q) Q j l0 0 σ
set_option maxRecDepth 100000 in
set_option maxHeartbeats 4000000 in
theorem jcX11_runWater {Q Q' Q'' : kx_S → Prop} (hQ : ∀ y0, Q y0 → Q' y0 → Q'' y0) : ∀ (l0 : Nat) (σ : kx_S), wX11_runWater l0 σ Q → vX11_runWater l0 σ Q' → wX11_runWater l0 σ Q'' := by
  intro l0 σ h v
  unfold wX11_runWater at h
  unfold vX11_runWater at v
  unfold wX11_runWater
  obtain ⟨j, h⟩ := h
  refine ⟨j, ?_⟩
  have v := v j
  exact jcX11_runWater_2 (k57 := wX11_runWater_57 Q) (k57' := vX11_runWater_57 Q') (k57'' := wX11_runWater_57 Q'') (fun _ _ h v => jcX11_runWater_57 hQ _ _ h v) hQ _ _ _ _ h v
set_option maxRecDepth 100000 in
set_option maxHeartbeats 4000000 in
theorem jaX11_runWater {Q Q' : kx_S → Prop} (hQ : ∀ y0, Q y0 → Q' y0) : ∀ (l0 : Nat) (σ : kx_S), wX11_runWater l0 σ Q → vX11_runWater l0 σ Q' := by
  intro l0 σ h
  unfold wX11_runWater at h
  unfold vX11_runWater
  obtain ⟨j, h⟩ := h
  intro j9
  exact jaX11_runWater_2 (k57 := wX11_runWater_57 Q) (k57' := vX11_runWater_57 Q') (fun _ _ h => jaX11_runWater_57 hQ _ _ h) hQ _ j9 _ _ _ h
set_option maxRecDepth 100000 in
set_option maxHeartbeats 4000000 in
theorem jfX11_runWater {I : kx_S → Prop} (W : fw_ I [167, 169, 170, 220, 221]) {Q : kx_S → Prop} (hQ : ∀ y0, I y0 → Q y0) : ∀ (l0 : Nat) (σ : kx_S), I σ → vX11_runWater l0 σ Q := by
  intro l0 σ i
  unfold vX11_runWater
  intro j
  exact jfX11_runWater_2 (I := I) (fw_sub W (by decide)) (k57 := vX11_runWater_57 Q) (fun _ _ i => jfX11_runWater_57 (I := I) (fw_sub W (by decide)) hQ _ _ i) hQ _ _ _ _ i
def vX11_leaves_122 (Q : Int32 → kx_S → Prop) (l1 : Nat) (l2 : Nat) (σ : kx_S) : Prop := xt σ l2 = 10 → ((∀ a3, xr σ 161 l2 = some a3 → ∀ a4, xr σ 161 l2 = some a4 → xt σ a4 = 10 → vX8_takes a4 l1 0 σ (fun r7 σ6 => narrow .boolean (.int r7) = .int r7 → Q r7 σ6)) ∧ (xr σ 161 l2 = none → xt σ l1 = 8 → vX6_goToSea l1 σ (fun σ9 => Q 1 σ9)))
set_option maxRecDepth 100000 in
set_option maxHeartbeats 4000000 in
theorem jcX11_leaves_122 {Q Q' Q'' : Int32 → kx_S → Prop} (hQ : ∀ y0 y1, Q y0 y1 → Q' y0 y1 → Q'' y0 y1) : ∀ (l1 : Nat) (l2 : Nat) (σ : kx_S), wX11_leaves_122 Q l1 l2 σ → vX11_leaves_122 Q' l1 l2 σ → wX11_leaves_122 Q'' l1 l2 σ := by
  intro l1 l2 σ h v
  unfold wX11_leaves_122 at h
  unfold vX11_leaves_122 at v
  unfold wX11_leaves_122
  refine ⟨h.1, ?_⟩
  have v := v h.1
  have h := h.2
  refine ⟨?_, ?_⟩
  · have h := h.1
    have v := v.1
    intro a3 e2
    have h := h a3 e2
    have v := v a3 e2
    obtain ⟨a4, e3, h⟩ := h
    refine ⟨a4, e3, ?_⟩
    have v := v a4 e3
    refine ⟨h.1, ?_⟩
    have v := v h.1
    have h := h.2
    refine jcX8_takes ?_ _ _ _ _ h v
    intro r7 σ6 h v
    refine ⟨h.1, ?_⟩
    have v := v h.1
    have h := h.2
    exact hQ _ _ h v
  · have h := h.2
    have v := v.2
    intro e6
    have h := h e6
    have v := v e6
    refine ⟨h.1, ?_⟩
    have v := v h.1
    have h := h.2
    refine jcX6_goToSea ?_ _ _ h v
    intro σ9 h v
    exact hQ _ _ h v
set_option maxRecDepth 100000 in
set_option maxHeartbeats 4000000 in
theorem jaX11_leaves_122 {Q Q' : Int32 → kx_S → Prop} (hQ : ∀ y0 y1, Q y0 y1 → Q' y0 y1) : ∀ (l1 : Nat) (l2 : Nat) (σ : kx_S), wX11_leaves_122 Q l1 l2 σ → vX11_leaves_122 Q' l1 l2 σ := by
  intro l1 l2 σ h
  unfold wX11_leaves_122 at h
  unfold vX11_leaves_122
  intro e1
  have h := h.2
  refine ⟨?_, ?_⟩
  · have h := h.1
    intro a3 e2
    have h := h a3 e2
    obtain ⟨a4', e3, h⟩ := h
    intro a4 e4
    have x9 : a4' = a4 := Option.some.inj (e3.symm.trans e4)
    rw [x9] at h
    intro e5
    have h := h.2
    refine jaX8_takes ?_ _ _ _ _ h
    intro r7 σ6 h
    intro e6
    have h := h.2
    exact hQ _ _ h
  · have h := h.2
    intro e7
    have h := h e7
    intro e8
    have h := h.2
    refine jaX6_goToSea ?_ _ _ h
    intro σ9 h
    exact hQ _ _ h
set_option maxRecDepth 100000 in
set_option maxHeartbeats 4000000 in
theorem jfX11_leaves_122 {I : kx_S → Prop} (W : fw_ I [16, 17, 18, 132, 133, 134, 1003, 1222]) {Q : Int32 → kx_S → Prop} (hQ : ∀ y0 y1, I y1 → Q y0 y1) : ∀ (l1 : Nat) (l2 : Nat) (σ : kx_S), I σ → vX11_leaves_122 Q l1 l2 σ := by
  intro l1 l2 σ i
  unfold vX11_leaves_122
  intro e1
  refine ⟨?_, ?_⟩
  · intro a3 e2
    intro a4 e3
    intro e4
    refine jfX8_takes (I := I) (fw_sub W (by decide)) ?_ _ _ _ _ i
    intro r7 σ6 iσ6
    intro e5
    exact hQ _ _ iσ6
  · intro e6
    intro e7
    refine jfX6_goToSea (I := I) (fw_sub W (by decide)) ?_ _ _ i
    intro σ9 iσ9
    exact hQ _ _ iσ9
def vX11_leaves_104 (Q : Int32 → kx_S → Prop) (l1 : Nat) (l2 : Nat) (σ : kx_S) : Prop := xt σ l2 = 10 → (((xi σ 165 l2) = 0 → vX11_leaves_122 Q l1 l2 σ) ∧ (¬ ((xi σ 165 l2) = 0) → ((50 ≤ (xi σ 170 l2) → vX11_leaves_122 Q l1 l2 σ) ∧ (¬ (50 ≤ (xi σ 170 l2)) → Q 0 σ))))
set_option maxRecDepth 100000 in
set_option maxHeartbeats 4000000 in
theorem jcX11_leaves_104 {Q Q' Q'' : Int32 → kx_S → Prop} (hQ : ∀ y0 y1, Q y0 y1 → Q' y0 y1 → Q'' y0 y1) : ∀ (l1 : Nat) (l2 : Nat) (σ : kx_S), wX11_leaves_104 Q l1 l2 σ → vX11_leaves_104 Q' l1 l2 σ → wX11_leaves_104 Q'' l1 l2 σ := by
  intro l1 l2 σ h v
  unfold wX11_leaves_104 at h
  unfold vX11_leaves_104 at v
  unfold wX11_leaves_104
  refine ⟨h.1, ?_⟩
  have v := v h.1
  have h := h.2
  refine ⟨?_, ?_⟩
  · have h := h.1
    have v := v.1
    intro e2
    have h := h e2
    have v := v e2
    exact jcX11_leaves_122 hQ _ _ _ h v
  · have h := h.2
    have v := v.2
    intro e3
    have h := h e3
    have v := v e3
    refine ⟨?_, ?_⟩
    · have h := h.1
      have v := v.1
      intro e4
      have h := h e4
      have v := v e4
      exact jcX11_leaves_122 hQ _ _ _ h v
    · have h := h.2
      have v := v.2
      intro e5
      have h := h e5
      have v := v e5
      exact hQ _ _ h v
set_option maxRecDepth 100000 in
set_option maxHeartbeats 4000000 in
theorem jaX11_leaves_104 {Q Q' : Int32 → kx_S → Prop} (hQ : ∀ y0 y1, Q y0 y1 → Q' y0 y1) : ∀ (l1 : Nat) (l2 : Nat) (σ : kx_S), wX11_leaves_104 Q l1 l2 σ → vX11_leaves_104 Q' l1 l2 σ := by
  intro l1 l2 σ h
  unfold wX11_leaves_104 at h
  unfold vX11_leaves_104
  intro e1
  have h := h.2
  refine ⟨?_, ?_⟩
  · have h := h.1
    intro e2
    have h := h e2
    exact jaX11_leaves_122 hQ _ _ _ h
  · have h := h.2
    intro e3
    have h := h e3
    refine ⟨?_, ?_⟩
    · have h := h.1
      intro e4
      have h := h e4
      exact jaX11_leaves_122 hQ _ _ _ h
    · have h := h.2
      intro e5
      have h := h e5
      exact hQ _ _ h
set_option maxRecDepth 100000 in
set_option maxHeartbeats 4000000 in
theorem jfX11_leaves_104 {I : kx_S → Prop} (W : fw_ I [16, 17, 18, 132, 133, 134, 1003, 1222]) {Q : Int32 → kx_S → Prop} (hQ : ∀ y0 y1, I y1 → Q y0 y1) : ∀ (l1 : Nat) (l2 : Nat) (σ : kx_S), I σ → vX11_leaves_104 Q l1 l2 σ := by
  intro l1 l2 σ i
  unfold vX11_leaves_104
  intro e1
  refine ⟨?_, ?_⟩
  · intro e2
    exact jfX11_leaves_122 (I := I) (fw_sub W (by decide)) hQ _ _ _ i
  · intro e3
    refine ⟨?_, ?_⟩
    · intro e4
      exact jfX11_leaves_122 (I := I) (fw_sub W (by decide)) hQ _ _ _ i
    · intro e5
      exact hQ _ _ i
def vX11_leaves (l0 : Nat) (l1 : Nat) (l2 : Nat) (σ : kx_S) (Q : Int32 → kx_S → Prop) : Prop := xt σ l2 = 10 → ((xr σ 172 l2 = none → vX11_leaves_104 Q l1 l2 σ) ∧ (∀ a16, xr σ 172 l2 = some a16 → ∀ a17, xr σ 172 l2 = some a17 → xt σ l1 = 8 → xt σ a17 = 2 → vX0_catches a17 (xi σ 129 l1) σ (fun r21 σ20 => ((r21 = 0 → vX11_leaves_104 Q l1 l2 σ20) ∧ (¬ (r21 = 0) → xt σ20 l2 = 10 → ∀ a25, xr σ20 172 l2 = some a25 → xt σ20 a25 = 2 → ∀ a28, xr σ20 32 a25 = some a28 → xt σ20 a28 = 1 → vJx4a65c_size_8abf5 a28 σ20 (fun r31 σ30 => xt σ30 l2 = 10 → ∀ a34, xr σ30 172 l2 = some a34 → xt σ30 a34 = 2 → ((r31 < (xi σ30 35 a34) → xt σ30 l0 = 13 → ∀ a39, xr σ30 215 l0 = some a39 → vX11_lawInForce l0 σ30 (fun q42 σ41 => xt σ41 l2 = 10 → xt σ41 l0 = 13 → xt σ41 a39 = 5 → vX3_weigh a39 q42 l1 (xi σ41 160 l2) (xi σ41 217 l0) σ41 (fun σ45 => xt σ45 l0 = 13 → ∀ a48, xr σ45 216 l0 = some a48 → xt σ45 l1 = 8 → xt σ45 a48 = 21 → vp_in (xi σ45 129 l1) (xn σ45 a48) → ∀ a53, xr σ45 215 l0 = some a53 → xt σ45 a53 = 5 → vp_in (xi σ45 129 l1) (xn σ45 a48) → ∀ σ57, σ57 = xsal σ45 a48 (xi σ45 129 l1).toNatClampNeg ((xal σ45 a48 (xi σ45 129 l1).toNatClampNeg) + (xl σ45 84 a53)) → vX6_lieInHeap l1 σ57 (fun σ62 => xt σ62 l2 = 10 → ∀ a64, xr σ62 172 l2 = some a64 → xt σ62 a64 = 2 → ∀ a67, xr σ62 32 a64 = some a67 → xt σ62 a67 = 1 → vJx4a65c_add_9ea2d a67 l1 σ62 (fun r70 σ69 => Q 1 σ69))))) ∧ (¬ (r31 < (xi σ30 35 a34)) → Q 0 σ30))))))))
set_option maxRecDepth 100000 in
set_option maxHeartbeats 4000000 in
theorem jcX11_leaves {Q Q' Q'' : Int32 → kx_S → Prop} (hQ : ∀ y0 y1, Q y0 y1 → Q' y0 y1 → Q'' y0 y1) : ∀ (l0 : Nat) (l1 : Nat) (l2 : Nat) (σ : kx_S), wX11_leaves l0 l1 l2 σ Q → vX11_leaves l0 l1 l2 σ Q' → wX11_leaves l0 l1 l2 σ Q'' := by
  intro l0 l1 l2 σ h v
  unfold wX11_leaves at h
  unfold vX11_leaves at v
  unfold wX11_leaves
  refine ⟨h.1, ?_⟩
  have v := v h.1
  have h := h.2
  refine ⟨?_, ?_⟩
  · have h := h.1
    have v := v.1
    intro e2
    have h := h e2
    have v := v e2
    exact jcX11_leaves_104 hQ _ _ _ h v
  · have h := h.2
    have v := v.2
    intro a16 e3
    have h := h a16 e3
    have v := v a16 e3
    obtain ⟨a17, e4, h⟩ := h
    refine ⟨a17, e4, ?_⟩
    have v := v a17 e4
    refine ⟨h.1, ?_⟩
    have v := v h.1
    have h := h.2
    refine ⟨h.1, ?_⟩
    have v := v h.1
    have h := h.2
    refine jcX0_catches ?_ _ _ _ h v
    intro r21 σ20 h v
    refine ⟨?_, ?_⟩
    · have h := h.1
      have v := v.1
      intro e7
      have h := h e7
      have v := v e7
      exact jcX11_leaves_104 hQ _ _ _ h v
    · have h := h.2
      have v := v.2
      intro e8
      have h := h e8
      have v := v e8
      refine ⟨h.1, ?_⟩
      have v := v h.1
      have h := h.2
      obtain ⟨a25, e10, h⟩ := h
      refine ⟨a25, e10, ?_⟩
      have v := v a25 e10
      refine ⟨h.1, ?_⟩
      have v := v h.1
      have h := h.2
      obtain ⟨a28, e12, h⟩ := h
      refine ⟨a28, e12, ?_⟩
      have v := v a28 e12
      refine ⟨h.1, ?_⟩
      have v := v h.1
      have h := h.2
      refine jcJx4a65c_size_8abf5 ?_ _ _ h v
      intro r31 σ30 h v
      refine ⟨h.1, ?_⟩
      have v := v h.1
      have h := h.2
      obtain ⟨a34, e15, h⟩ := h
      refine ⟨a34, e15, ?_⟩
      have v := v a34 e15
      refine ⟨h.1, ?_⟩
      have v := v h.1
      have h := h.2
      refine ⟨?_, ?_⟩
      · have h := h.1
        have v := v.1
        intro e17
        have h := h e17
        have v := v e17
        refine ⟨h.1, ?_⟩
        have v := v h.1
        have h := h.2
        obtain ⟨a39, e19, h⟩ := h
        refine ⟨a39, e19, ?_⟩
        have v := v a39 e19
        refine jcX11_lawInForce ?_ _ _ h v
        intro q42 σ41 h v
        refine ⟨h.1, ?_⟩
        have v := v h.1
        have h := h.2
        refine ⟨h.1, ?_⟩
        have v := v h.1
        have h := h.2
        refine ⟨h.1, ?_⟩
        have v := v h.1
        have h := h.2
        refine jcX3_weigh ?_ _ _ _ _ _ _ h v
        intro σ45 h v
        refine ⟨h.1, ?_⟩
        have v := v h.1
        have h := h.2
        obtain ⟨a48, e24, h⟩ := h
        refine ⟨a48, e24, ?_⟩
        have v := v a48 e24
        refine ⟨h.1, ?_⟩
        have v := v h.1
        have h := h.2
        refine ⟨h.1, ?_⟩
        have v := v h.1
        have h := h.2
        refine ⟨h.1, ?_⟩
        have v := v h.1
        have h := h.2
        obtain ⟨a53, e28, h⟩ := h
        refine ⟨a53, e28, ?_⟩
        have v := v a53 e28
        refine ⟨h.1, ?_⟩
        have v := v h.1
        have h := h.2
        refine ⟨h.1, ?_⟩
        have v := v h.1
        have h := h.2
        intro σ57 e31
        have h := h σ57 e31
        have v := v σ57 e31
        refine jcX6_lieInHeap ?_ _ _ h v
        intro σ62 h v
        refine ⟨h.1, ?_⟩
        have v := v h.1
        have h := h.2
        obtain ⟨a64, e33, h⟩ := h
        refine ⟨a64, e33, ?_⟩
        have v := v a64 e33
        refine ⟨h.1, ?_⟩
        have v := v h.1
        have h := h.2
        obtain ⟨a67, e35, h⟩ := h
        refine ⟨a67, e35, ?_⟩
        have v := v a67 e35
        refine ⟨h.1, ?_⟩
        have v := v h.1
        have h := h.2
        refine jcJx4a65c_add_9ea2d ?_ _ _ _ h v
        intro r70 σ69 h v
        exact hQ _ _ h v
      · have h := h.2
        have v := v.2
        intro e37
        have h := h e37
        have v := v e37
        exact hQ _ _ h v
set_option maxRecDepth 100000 in
set_option maxHeartbeats 4000000 in
theorem jaX11_leaves {Q Q' : Int32 → kx_S → Prop} (hQ : ∀ y0 y1, Q y0 y1 → Q' y0 y1) : ∀ (l0 : Nat) (l1 : Nat) (l2 : Nat) (σ : kx_S), wX11_leaves l0 l1 l2 σ Q → vX11_leaves l0 l1 l2 σ Q' := by
  intro l0 l1 l2 σ h
  unfold wX11_leaves at h
  unfold vX11_leaves
  intro e1
  have h := h.2
  refine ⟨?_, ?_⟩
  · have h := h.1
    intro e2
    have h := h e2
    exact jaX11_leaves_104 hQ _ _ _ h
  · have h := h.2
    intro a16 e3
    have h := h a16 e3
    obtain ⟨a17', e4, h⟩ := h
    intro a17 e5
    have x9 : a17' = a17 := Option.some.inj (e4.symm.trans e5)
    rw [x9] at h
    intro e6
    have h := h.2
    intro e7
    have h := h.2
    refine jaX0_catches ?_ _ _ _ h
    intro r21 σ20 h
    refine ⟨?_, ?_⟩
    · have h := h.1
      intro e8
      have h := h e8
      exact jaX11_leaves_104 hQ _ _ _ h
    · have h := h.2
      intro e9
      have h := h e9
      intro e10
      have h := h.2
      obtain ⟨a25', e11, h⟩ := h
      intro a25 e12
      have x9 : a25' = a25 := Option.some.inj (e11.symm.trans e12)
      rw [x9] at h
      intro e13
      have h := h.2
      obtain ⟨a28', e14, h⟩ := h
      intro a28 e15
      have x9 : a28' = a28 := Option.some.inj (e14.symm.trans e15)
      rw [x9] at h
      intro e16
      have h := h.2
      refine jaJx4a65c_size_8abf5 ?_ _ _ h
      intro r31 σ30 h
      intro e17
      have h := h.2
      obtain ⟨a34', e18, h⟩ := h
      intro a34 e19
      have x9 : a34' = a34 := Option.some.inj (e18.symm.trans e19)
      rw [x9] at h
      intro e20
      have h := h.2
      refine ⟨?_, ?_⟩
      · have h := h.1
        intro e21
        have h := h e21
        intro e22
        have h := h.2
        obtain ⟨a39', e23, h⟩ := h
        intro a39 e24
        have x9 : a39' = a39 := Option.some.inj (e23.symm.trans e24)
        rw [x9] at h
        refine jaX11_lawInForce ?_ _ _ h
        intro q42 σ41 h
        intro e25
        have h := h.2
        intro e26
        have h := h.2
        intro e27
        have h := h.2
        refine jaX3_weigh ?_ _ _ _ _ _ _ h
        intro σ45 h
        intro e28
        have h := h.2
        obtain ⟨a48', e29, h⟩ := h
        intro a48 e30
        have x9 : a48' = a48 := Option.some.inj (e29.symm.trans e30)
        rw [x9] at h
        intro e31
        have h := h.2
        intro e32
        have h := h.2
        intro e33
        have h := h.2
        obtain ⟨a53', e34, h⟩ := h
        intro a53 e35
        have x9 : a53' = a53 := Option.some.inj (e34.symm.trans e35)
        rw [x9] at h
        intro e36
        have h := h.2
        intro e37
        have h := h.2
        intro σ57 e38
        have h := h σ57 e38
        refine jaX6_lieInHeap ?_ _ _ h
        intro σ62 h
        intro e39
        have h := h.2
        obtain ⟨a64', e40, h⟩ := h
        intro a64 e41
        have x9 : a64' = a64 := Option.some.inj (e40.symm.trans e41)
        rw [x9] at h
        intro e42
        have h := h.2
        obtain ⟨a67', e43, h⟩ := h
        intro a67 e44
        have x9 : a67' = a67 := Option.some.inj (e43.symm.trans e44)
        rw [x9] at h
        intro e45
        have h := h.2
        refine jaJx4a65c_add_9ea2d ?_ _ _ _ h
        intro r70 σ69 h
        exact hQ _ _ h
      · have h := h.2
        intro e46
        have h := h e46
        exact hQ _ _ h
set_option maxRecDepth 100000 in
set_option maxHeartbeats 4000000 in
theorem jfX11_leaves {I : kx_S → Prop} (W : fw_ I [16, 17, 18, 82, 83, 84, 132, 133, 134, 1001, 1002, 1003, 1222]) {Q : Int32 → kx_S → Prop} (hQ : ∀ y0 y1, I y1 → Q y0 y1) : ∀ (l0 : Nat) (l1 : Nat) (l2 : Nat) (σ : kx_S), I σ → vX11_leaves l0 l1 l2 σ Q := by
  intro l0 l1 l2 σ i
  unfold vX11_leaves
  intro e1
  refine ⟨?_, ?_⟩
  · intro e2
    exact jfX11_leaves_104 (I := I) (fw_sub W (by decide)) hQ _ _ _ i
  · intro a16 e3
    intro a17 e4
    intro e5
    intro e6
    refine jfX0_catches (I := I) (fw_sub W (by decide)) ?_ _ _ _ i
    intro r21 σ20 iσ20
    refine ⟨?_, ?_⟩
    · intro e7
      exact jfX11_leaves_104 (I := I) (fw_sub W (by decide)) hQ _ _ _ iσ20
    · intro e8
      intro e9
      intro a25 e10
      intro e11
      intro a28 e12
      intro e13
      refine jfJx4a65c_size_8abf5 (I := I) (fw_sub W (by decide)) ?_ _ _ iσ20
      intro r31 σ30 iσ30
      intro e14
      intro a34 e15
      intro e16
      refine ⟨?_, ?_⟩
      · intro e17
        intro e18
        intro a39 e19
        refine jfX11_lawInForce (I := I) (fw_sub W (by decide)) ?_ _ _ iσ30
        intro q42 σ41 iσ41
        intro e20
        intro e21
        intro e22
        refine jfX3_weigh (I := I) (fw_sub W (by decide)) ?_ _ _ _ _ _ _ iσ41
        intro σ45 iσ45
        intro e23
        intro a48 e24
        intro e25
        intro e26
        intro e27
        intro a53 e28
        intro e29
        intro e30
        intro σ57 e31
        have iσ57 : I σ57 := by rw [e31]; exact (W _ iσ45).2.2.1 (by decide) _ _ _
        refine jfX6_lieInHeap (I := I) (fw_sub W (by decide)) ?_ _ _ iσ57
        intro σ62 iσ62
        intro e32
        intro a64 e33
        intro e34
        intro a67 e35
        intro e36
        refine jfJx4a65c_add_9ea2d (I := I) (fw_sub W (by decide)) ?_ _ _ _ iσ62
        intro r70 σ69 iσ69
        exact hQ _ _ iσ69
      · intro e37
        exact hQ _ _ iσ30
def vX11_movesOn_7 (k32 : Nat → Nat → Nat → Int32 → Int32 → Int32 → kx_S → Prop) (Q : Int32 → kx_S → Prop) : Nat → Nat → Nat → Nat → Int32 → Int32 → Int32 → kx_S → Prop
  | 0, _, _, _, _, _, _, _ => True
  | n + 1, l0, l1, l2, l3, l5, l6, σ => ((l6 ≤ 0 → k32 l0 l1 l2 l3 l5 l6 σ) ∧ (¬ (l6 ≤ 0) → xt σ l2 = 10 → vX8_canTake l2 (l5 + 1) σ (fun r3 σ2 => ((r3 = 0 → k32 l0 l1 l2 l3 l5 l6 σ2) ∧ (¬ (r3 = 0) → ∀ v6 : Int32, v6 = l5 + 1 → ∀ v7 : Int32, v7 = l6 + (-1) → vX11_movesOn_7 k32 Q n l0 l1 l2 l3 v6 v7 σ2)))))
set_option maxRecDepth 100000 in
set_option maxHeartbeats 4000000 in
theorem jcX11_movesOn_7 {k32 k32' k32'' : Nat → Nat → Nat → Int32 → Int32 → Int32 → kx_S → Prop} (hk32 : ∀ y0 y1 y2 y3 y4 y5 y6, k32 y0 y1 y2 y3 y4 y5 y6 → k32' y0 y1 y2 y3 y4 y5 y6 → k32'' y0 y1 y2 y3 y4 y5 y6) {Q Q' Q'' : Int32 → kx_S → Prop} (hQ : ∀ y0 y1, Q y0 y1 → Q' y0 y1 → Q'' y0 y1) : ∀ (n : Nat) (l0 : Nat) (l1 : Nat) (l2 : Nat) (l3 : Int32) (l5 : Int32) (l6 : Int32) (σ : kx_S), wX11_movesOn_7 k32 Q n l0 l1 l2 l3 l5 l6 σ → vX11_movesOn_7 k32' Q' n l0 l1 l2 l3 l5 l6 σ → wX11_movesOn_7 k32'' Q'' n l0 l1 l2 l3 l5 l6 σ := by
  intro n
  induction n with
  | zero => intro l0 l1 l2 l3 l5 l6 σ h; exact h.elim
  | succ n ih =>
    intro l0 l1 l2 l3 l5 l6 σ h v
    unfold wX11_movesOn_7 at h
    unfold vX11_movesOn_7 at v
    unfold wX11_movesOn_7
    refine ⟨?_, ?_⟩
    · have h := h.1
      have v := v.1
      intro e1
      have h := h e1
      have v := v e1
      exact hk32 _ _ _ _ _ _ _ h v
    · have h := h.2
      have v := v.2
      intro e2
      have h := h e2
      have v := v e2
      refine ⟨h.1, ?_⟩
      have v := v h.1
      have h := h.2
      refine jcX8_canTake ?_ _ _ _ h v
      intro r3 σ2 h v
      refine ⟨?_, ?_⟩
      · have h := h.1
        have v := v.1
        intro e4
        have h := h e4
        have v := v e4
        exact hk32 _ _ _ _ _ _ _ h v
      · have h := h.2
        have v := v.2
        intro e5
        have h := h e5
        have v := v e5
        intro v6 e6
        have h := h v6 e6
        have v := v v6 e6
        intro v7 e7
        have h := h v7 e7
        have v := v v7 e7
        exact ih _ _ _ _ _ _ _ h v
set_option maxRecDepth 100000 in
set_option maxHeartbeats 4000000 in
theorem jaX11_movesOn_7 {k32 k32' : Nat → Nat → Nat → Int32 → Int32 → Int32 → kx_S → Prop} (hk32 : ∀ y0 y1 y2 y3 y4 y5 y6, k32 y0 y1 y2 y3 y4 y5 y6 → k32' y0 y1 y2 y3 y4 y5 y6) {Q Q' : Int32 → kx_S → Prop} (hQ : ∀ y0 y1, Q y0 y1 → Q' y0 y1) : ∀ (n m : Nat) (l0 : Nat) (l1 : Nat) (l2 : Nat) (l3 : Int32) (l5 : Int32) (l6 : Int32) (σ : kx_S), wX11_movesOn_7 k32 Q n l0 l1 l2 l3 l5 l6 σ → vX11_movesOn_7 k32' Q' m l0 l1 l2 l3 l5 l6 σ := by
  intro n
  induction n with
  | zero => intro m l0 l1 l2 l3 l5 l6 σ h; exact h.elim
  | succ n ih =>
    intro m l0 l1 l2 l3 l5 l6 σ h
    cases m with
    | zero => exact trivial
    | succ m =>
      unfold wX11_movesOn_7 at h
      unfold vX11_movesOn_7
      refine ⟨?_, ?_⟩
      · have h := h.1
        intro e1
        have h := h e1
        exact hk32 _ _ _ _ _ _ _ h
      · have h := h.2
        intro e2
        have h := h e2
        intro e3
        have h := h.2
        refine jaX8_canTake ?_ _ _ _ h
        intro r3 σ2 h
        refine ⟨?_, ?_⟩
        · have h := h.1
          intro e4
          have h := h e4
          exact hk32 _ _ _ _ _ _ _ h
        · have h := h.2
          intro e5
          have h := h e5
          intro v6 e6
          have h := h v6 e6
          intro v7 e7
          have h := h v7 e7
          exact ih m _ _ _ _ _ _ _ h
set_option maxRecDepth 100000 in
set_option maxHeartbeats 4000000 in
theorem jfX11_movesOn_7 {I : kx_S → Prop} (W : fw_ I []) {k32 : Nat → Nat → Nat → Int32 → Int32 → Int32 → kx_S → Prop} (hk32 : ∀ y0 y1 y2 y3 y4 y5 y6, I y6 → k32 y0 y1 y2 y3 y4 y5 y6) {Q : Int32 → kx_S → Prop} (hQ : ∀ y0 y1, I y1 → Q y0 y1) : ∀ (n : Nat) (l0 : Nat) (l1 : Nat) (l2 : Nat) (l3 : Int32) (l5 : Int32) (l6 : Int32) (σ : kx_S), I σ → vX11_movesOn_7 k32 Q n l0 l1 l2 l3 l5 l6 σ := by
  intro n
  induction n with
  | zero => intro l0 l1 l2 l3 l5 l6 σ i; exact trivial
  | succ n ih =>
    intro l0 l1 l2 l3 l5 l6 σ i
    unfold vX11_movesOn_7
    refine ⟨?_, ?_⟩
    · intro e1
      exact hk32 _ _ _ _ _ _ _ i
    · intro e2
      intro e3
      refine jfX8_canTake (I := I) (fw_sub W (by decide)) ?_ _ _ _ i
      intro r3 σ2 iσ2
      refine ⟨?_, ?_⟩
      · intro e4
        exact hk32 _ _ _ _ _ _ _ iσ2
      · intro e5
        intro v6 e6
        intro v7 e7
        exact ih _ _ _ _ _ _ _ iσ2
def vX11_movesOn_64 (Q : Int32 → kx_S → Prop) (l1 : Nat) (l2 : Nat) (l3 : Int32) (l5 : Int32) (σ : kx_S) : Prop := ((l5 = l3 → Q 0 σ) ∧ (¬ (l5 = l3) → xt σ l2 = 10 → vX8_takes l2 l1 l5 σ (fun r10 σ9 => ((r10 = 0 → Q 0 σ9) ∧ (¬ (r10 = 0) → Q 1 σ9)))))
set_option maxRecDepth 100000 in
set_option maxHeartbeats 4000000 in
theorem jcX11_movesOn_64 {Q Q' Q'' : Int32 → kx_S → Prop} (hQ : ∀ y0 y1, Q y0 y1 → Q' y0 y1 → Q'' y0 y1) : ∀ (l1 : Nat) (l2 : Nat) (l3 : Int32) (l5 : Int32) (σ : kx_S), wX11_movesOn_64 Q l1 l2 l3 l5 σ → vX11_movesOn_64 Q' l1 l2 l3 l5 σ → wX11_movesOn_64 Q'' l1 l2 l3 l5 σ := by
  intro l1 l2 l3 l5 σ h v
  unfold wX11_movesOn_64 at h
  unfold vX11_movesOn_64 at v
  unfold wX11_movesOn_64
  refine ⟨?_, ?_⟩
  · have h := h.1
    have v := v.1
    intro e1
    have h := h e1
    have v := v e1
    exact hQ _ _ h v
  · have h := h.2
    have v := v.2
    intro e2
    have h := h e2
    have v := v e2
    refine ⟨h.1, ?_⟩
    have v := v h.1
    have h := h.2
    refine jcX8_takes ?_ _ _ _ _ h v
    intro r10 σ9 h v
    refine ⟨?_, ?_⟩
    · have h := h.1
      have v := v.1
      intro e4
      have h := h e4
      have v := v e4
      exact hQ _ _ h v
    · have h := h.2
      have v := v.2
      intro e5
      have h := h e5
      have v := v e5
      exact hQ _ _ h v
set_option maxRecDepth 100000 in
set_option maxHeartbeats 4000000 in
theorem jaX11_movesOn_64 {Q Q' : Int32 → kx_S → Prop} (hQ : ∀ y0 y1, Q y0 y1 → Q' y0 y1) : ∀ (l1 : Nat) (l2 : Nat) (l3 : Int32) (l5 : Int32) (σ : kx_S), wX11_movesOn_64 Q l1 l2 l3 l5 σ → vX11_movesOn_64 Q' l1 l2 l3 l5 σ := by
  intro l1 l2 l3 l5 σ h
  unfold wX11_movesOn_64 at h
  unfold vX11_movesOn_64
  refine ⟨?_, ?_⟩
  · have h := h.1
    intro e1
    have h := h e1
    exact hQ _ _ h
  · have h := h.2
    intro e2
    have h := h e2
    intro e3
    have h := h.2
    refine jaX8_takes ?_ _ _ _ _ h
    intro r10 σ9 h
    refine ⟨?_, ?_⟩
    · have h := h.1
      intro e4
      have h := h e4
      exact hQ _ _ h
    · have h := h.2
      intro e5
      have h := h e5
      exact hQ _ _ h
set_option maxRecDepth 100000 in
set_option maxHeartbeats 4000000 in
theorem jfX11_movesOn_64 {I : kx_S → Prop} (W : fw_ I [16, 17, 18, 132, 133, 134, 1003, 1222]) {Q : Int32 → kx_S → Prop} (hQ : ∀ y0 y1, I y1 → Q y0 y1) : ∀ (l1 : Nat) (l2 : Nat) (l3 : Int32) (l5 : Int32) (σ : kx_S), I σ → vX11_movesOn_64 Q l1 l2 l3 l5 σ := by
  intro l1 l2 l3 l5 σ i
  unfold vX11_movesOn_64
  refine ⟨?_, ?_⟩
  · intro e1
    exact hQ _ _ i
  · intro e2
    intro e3
    refine jfX8_takes (I := I) (fw_sub W (by decide)) ?_ _ _ _ _ i
    intro r10 σ9 iσ9
    refine ⟨?_, ?_⟩
    · intro e4
      exact hQ _ _ iσ9
    · intro e5
      exact hQ _ _ iσ9
def vX11_movesOn_32 (Q : Int32 → kx_S → Prop) (l0 : Nat) (l1 : Nat) (l2 : Nat) (l3 : Int32) (l5 : Int32) (l6 : Int32) (σ : kx_S) : Prop := ((l6 ≤ 0 → vX11_movesOn_64 Q l1 l2 l3 l5 σ) ∧ (¬ (l6 ≤ 0) → xt σ l2 = 10 → ∀ a15, xr σ 163 l2 = some a15 → xt σ a15 = 1 → vJx4a65c_size_8abf5 a15 σ (fun r18 σ17 => ((¬ l5 = (r18 - 1) → vX11_movesOn_64 Q l1 l2 l3 l5 σ17) ∧ (l5 = (r18 - 1) → xt σ17 l0 = 13 → vX11_leaves l0 l1 l2 σ17 (fun r22 σ21 => ((r22 = 0 → vX11_movesOn_64 Q l1 l2 l3 l5 σ21) ∧ (¬ (r22 = 0) → Q 1 σ21))))))))
set_option maxRecDepth 100000 in
set_option maxHeartbeats 4000000 in
theorem jcX11_movesOn_32 {Q Q' Q'' : Int32 → kx_S → Prop} (hQ : ∀ y0 y1, Q y0 y1 → Q' y0 y1 → Q'' y0 y1) : ∀ (l0 : Nat) (l1 : Nat) (l2 : Nat) (l3 : Int32) (l5 : Int32) (l6 : Int32) (σ : kx_S), wX11_movesOn_32 Q l0 l1 l2 l3 l5 l6 σ → vX11_movesOn_32 Q' l0 l1 l2 l3 l5 l6 σ → wX11_movesOn_32 Q'' l0 l1 l2 l3 l5 l6 σ := by
  intro l0 l1 l2 l3 l5 l6 σ h v
  unfold wX11_movesOn_32 at h
  unfold vX11_movesOn_32 at v
  unfold wX11_movesOn_32
  refine ⟨?_, ?_⟩
  · have h := h.1
    have v := v.1
    intro e1
    have h := h e1
    have v := v e1
    exact jcX11_movesOn_64 hQ _ _ _ _ _ h v
  · have h := h.2
    have v := v.2
    intro e2
    have h := h e2
    have v := v e2
    refine ⟨h.1, ?_⟩
    have v := v h.1
    have h := h.2
    obtain ⟨a15, e4, h⟩ := h
    refine ⟨a15, e4, ?_⟩
    have v := v a15 e4
    refine ⟨h.1, ?_⟩
    have v := v h.1
    have h := h.2
    refine jcJx4a65c_size_8abf5 ?_ _ _ h v
    intro r18 σ17 h v
    refine ⟨?_, ?_⟩
    · have h := h.1
      have v := v.1
      intro e6
      have h := h e6
      have v := v e6
      exact jcX11_movesOn_64 hQ _ _ _ _ _ h v
    · have h := h.2
      have v := v.2
      intro e7
      have h := h e7
      have v := v e7
      refine ⟨h.1, ?_⟩
      have v := v h.1
      have h := h.2
      refine jcX11_leaves ?_ _ _ _ _ h v
      intro r22 σ21 h v
      refine ⟨?_, ?_⟩
      · have h := h.1
        have v := v.1
        intro e9
        have h := h e9
        have v := v e9
        exact jcX11_movesOn_64 hQ _ _ _ _ _ h v
      · have h := h.2
        have v := v.2
        intro e10
        have h := h e10
        have v := v e10
        exact hQ _ _ h v
set_option maxRecDepth 100000 in
set_option maxHeartbeats 4000000 in
theorem jaX11_movesOn_32 {Q Q' : Int32 → kx_S → Prop} (hQ : ∀ y0 y1, Q y0 y1 → Q' y0 y1) : ∀ (l0 : Nat) (l1 : Nat) (l2 : Nat) (l3 : Int32) (l5 : Int32) (l6 : Int32) (σ : kx_S), wX11_movesOn_32 Q l0 l1 l2 l3 l5 l6 σ → vX11_movesOn_32 Q' l0 l1 l2 l3 l5 l6 σ := by
  intro l0 l1 l2 l3 l5 l6 σ h
  unfold wX11_movesOn_32 at h
  unfold vX11_movesOn_32
  refine ⟨?_, ?_⟩
  · have h := h.1
    intro e1
    have h := h e1
    exact jaX11_movesOn_64 hQ _ _ _ _ _ h
  · have h := h.2
    intro e2
    have h := h e2
    intro e3
    have h := h.2
    obtain ⟨a15', e4, h⟩ := h
    intro a15 e5
    have x9 : a15' = a15 := Option.some.inj (e4.symm.trans e5)
    rw [x9] at h
    intro e6
    have h := h.2
    refine jaJx4a65c_size_8abf5 ?_ _ _ h
    intro r18 σ17 h
    refine ⟨?_, ?_⟩
    · have h := h.1
      intro e7
      have h := h e7
      exact jaX11_movesOn_64 hQ _ _ _ _ _ h
    · have h := h.2
      intro e8
      have h := h e8
      intro e9
      have h := h.2
      refine jaX11_leaves ?_ _ _ _ _ h
      intro r22 σ21 h
      refine ⟨?_, ?_⟩
      · have h := h.1
        intro e10
        have h := h e10
        exact jaX11_movesOn_64 hQ _ _ _ _ _ h
      · have h := h.2
        intro e11
        have h := h e11
        exact hQ _ _ h
set_option maxRecDepth 100000 in
set_option maxHeartbeats 4000000 in
theorem jfX11_movesOn_32 {I : kx_S → Prop} (W : fw_ I [16, 17, 18, 82, 83, 84, 132, 133, 134, 1001, 1002, 1003, 1222]) {Q : Int32 → kx_S → Prop} (hQ : ∀ y0 y1, I y1 → Q y0 y1) : ∀ (l0 : Nat) (l1 : Nat) (l2 : Nat) (l3 : Int32) (l5 : Int32) (l6 : Int32) (σ : kx_S), I σ → vX11_movesOn_32 Q l0 l1 l2 l3 l5 l6 σ := by
  intro l0 l1 l2 l3 l5 l6 σ i
  unfold vX11_movesOn_32
  refine ⟨?_, ?_⟩
  · intro e1
    exact jfX11_movesOn_64 (I := I) (fw_sub W (by decide)) hQ _ _ _ _ _ i
  · intro e2
    intro e3
    intro a15 e4
    intro e5
    refine jfJx4a65c_size_8abf5 (I := I) (fw_sub W (by decide)) ?_ _ _ i
    intro r18 σ17 iσ17
    refine ⟨?_, ?_⟩
    · intro e6
      exact jfX11_movesOn_64 (I := I) (fw_sub W (by decide)) hQ _ _ _ _ _ iσ17
    · intro e7
      intro e8
      refine jfX11_leaves (I := I) (fw_sub W (by decide)) ?_ _ _ _ _ iσ17
      intro r22 σ21 iσ21
      refine ⟨?_, ?_⟩
      · intro e9
        exact jfX11_movesOn_64 (I := I) (fw_sub W (by decide)) hQ _ _ _ _ _ iσ21
      · intro e10
        exact hQ _ _ iσ21
def vX11_movesOn (l0 : Nat) (l1 : Nat) (l2 : Nat) (l3 : Int32) (l4 : Int32) (σ : kx_S) (Q : Int32 → kx_S → Prop) : Prop := ∀ j, vX11_movesOn_7 (vX11_movesOn_32 Q) Q j l0 l1 l2 l3 l3 l4 σ
set_option maxRecDepth 100000 in
set_option maxHeartbeats 4000000 in
theorem jcX11_movesOn {Q Q' Q'' : Int32 → kx_S → Prop} (hQ : ∀ y0 y1, Q y0 y1 → Q' y0 y1 → Q'' y0 y1) : ∀ (l0 : Nat) (l1 : Nat) (l2 : Nat) (l3 : Int32) (l4 : Int32) (σ : kx_S), wX11_movesOn l0 l1 l2 l3 l4 σ Q → vX11_movesOn l0 l1 l2 l3 l4 σ Q' → wX11_movesOn l0 l1 l2 l3 l4 σ Q'' := by
  intro l0 l1 l2 l3 l4 σ h v
  unfold wX11_movesOn at h
  unfold vX11_movesOn at v
  unfold wX11_movesOn
  obtain ⟨j, h⟩ := h
  refine ⟨j, ?_⟩
  have v := v j
  exact jcX11_movesOn_7 (k32 := wX11_movesOn_32 Q) (k32' := vX11_movesOn_32 Q') (k32'' := wX11_movesOn_32 Q'') (fun _ _ _ _ _ _ _ h v => jcX11_movesOn_32 hQ _ _ _ _ _ _ _ h v) hQ _ _ _ _ _ _ _ _ h v
set_option maxRecDepth 100000 in
set_option maxHeartbeats 4000000 in
theorem jaX11_movesOn {Q Q' : Int32 → kx_S → Prop} (hQ : ∀ y0 y1, Q y0 y1 → Q' y0 y1) : ∀ (l0 : Nat) (l1 : Nat) (l2 : Nat) (l3 : Int32) (l4 : Int32) (σ : kx_S), wX11_movesOn l0 l1 l2 l3 l4 σ Q → vX11_movesOn l0 l1 l2 l3 l4 σ Q' := by
  intro l0 l1 l2 l3 l4 σ h
  unfold wX11_movesOn at h
  unfold vX11_movesOn
  obtain ⟨j, h⟩ := h
  intro j9
  exact jaX11_movesOn_7 (k32 := wX11_movesOn_32 Q) (k32' := vX11_movesOn_32 Q') (fun _ _ _ _ _ _ _ h => jaX11_movesOn_32 hQ _ _ _ _ _ _ _ h) hQ _ j9 _ _ _ _ _ _ _ h
set_option maxRecDepth 100000 in
set_option maxHeartbeats 4000000 in
theorem jfX11_movesOn {I : kx_S → Prop} (W : fw_ I [16, 17, 18, 82, 83, 84, 132, 133, 134, 1001, 1002, 1003, 1222]) {Q : Int32 → kx_S → Prop} (hQ : ∀ y0 y1, I y1 → Q y0 y1) : ∀ (l0 : Nat) (l1 : Nat) (l2 : Nat) (l3 : Int32) (l4 : Int32) (σ : kx_S), I σ → vX11_movesOn l0 l1 l2 l3 l4 σ Q := by
  intro l0 l1 l2 l3 l4 σ i
  unfold vX11_movesOn
  intro j
  exact jfX11_movesOn_7 (I := I) (fw_sub W (by decide)) (k32 := vX11_movesOn_32 Q) (fun _ _ _ _ _ _ _ i => jfX11_movesOn_32 (I := I) (fw_sub W (by decide)) hQ _ _ _ _ _ _ _ i) hQ _ _ _ _ _ _ _ _ i
