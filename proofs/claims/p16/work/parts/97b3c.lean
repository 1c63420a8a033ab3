def vX5_readTerm_42 (re : Nat → Int32 → kx_S → (kx_S → Prop) → Prop) (k7 : Nat → Int32 → Int32 → kx_S → Prop) (Q : kx_S → Prop) (l0 : Nat) (l1 : Int32) (l2 : Int32) (l3 : Int32) (σ : kx_S) : Prop := xt σ l0 = 7 → ∀ a5, xr σ 112 l0 = some a5 → xt σ a5 = 12 → vX10_advance a5 σ (fun σ7 => xt σ7 l0 = 7 → vX5_readPart re l0 l1 σ7 (fun σ9 => ((¬ l3 = 42 → vX5_readTerm_68 re k7 Q l0 l1 l2 (-11) l0 σ9) ∧ (l3 = 42 → vX5_readTerm_68 re k7 Q l0 l1 l2 (-10) l0 σ9))))
set_option maxRecDepth 100000 in
set_option maxHeartbeats 4000000 in
theorem jcX5_readTerm_42 {re re' : Nat → Int32 → kx_S → (kx_S → Prop) → Prop} (hre : ∀ {P P' P'' : kx_S → Prop}, (∀ y0, P y0 → P' y0 → P'' y0) → ∀ (x0 : Nat) (x1 : Int32) (x2 : kx_S), re x0 x1 x2 P → re' x0 x1 x2 P' → re x0 x1 x2 P'') {k7 k7' k7'' : Nat → Int32 → Int32 → kx_S → Prop} (hk7 : ∀ y0 y1 y2 y3, k7 y0 y1 y2 y3 → k7' y0 y1 y2 y3 → k7'' y0 y1 y2 y3) {Q Q' Q'' : kx_S → Prop} (hQ : ∀ y0, Q y0 → Q' y0 → Q'' y0) : ∀ (l0 : Nat) (l1 : Int32) (l2 : Int32) (l3 : Int32) (σ : kx_S), wX5_readTerm_42 re k7 Q l0 l1 l2 l3 σ → vX5_readTerm_42 re' k7' Q' l0 l1 l2 l3 σ → wX5_readTerm_42 re k7'' Q'' l0 l1 l2 l3 σ := by
  intro l0 l1 l2 l3 σ h v
  unfold wX5_readTerm_42 at h
  unfold vX5_readTerm_42 at v
  unfold wX5_readTerm_42
  refine ⟨h.1, ?_⟩
  have v := v h.1
  have h := h.2
  obtain ⟨a5, e2, h⟩ := h
  refine ⟨a5, e2, ?_⟩
  have v := v a5 e2
  refine ⟨h.1, ?_⟩
  have v := v h.1
  have h := h.2
  refine jcX10_advance ?_ _ _ h v
  intro σ7 h v
  refine ⟨h.1, ?_⟩
  have v := v h.1
  have h := h.2
  refine jcX5_readPart hre ?_ _ _ _ h v
  intro σ9 h v
  refine ⟨?_, ?_⟩
  · have h := h.1
    have v := v.1
    intro e5
    have h := h e5
    have v := v e5
    exact jcX5_readTerm_68 hre hk7 hQ _ _ _ _ _ _ h v
  · have h := h.2
    have v := v.2
    intro e6
    have h := h e6
    have v := v e6
    exact jcX5_readTerm_68 hre hk7 hQ _ _ _ _ _ _ h v
set_option maxRecDepth 100000 in
set_option maxHeartbeats 4000000 in
theorem jaX5_readTerm_42 {re re' : Nat → Int32 → kx_S → (kx_S → Prop) → Prop} (hre : ∀ {P P' : kx_S → Prop}, (∀ y0, P y0 → P' y0) → ∀ (x0 : Nat) (x1 : Int32) (x2 : kx_S), re x0 x1 x2 P → re' x0 x1 x2 P') {k7 k7' : Nat → Int32 → Int32 → kx_S → Prop} (hk7 : ∀ y0 y1 y2 y3, k7 y0 y1 y2 y3 → k7' y0 y1 y2 y3) {Q Q' : kx_S → Prop} (hQ : ∀ y0, Q y0 → Q' y0) : ∀ (l0 : Nat) (l1 : Int32) (l2 : Int32) (l3 : Int32) (σ : kx_S), wX5_readTerm_42 re k7 Q l0 l1 l2 l3 σ → vX5_readTerm_42 re' k7' Q' l0 l1 l2 l3 σ := by
  intro l0 l1 l2 l3 σ h
  unfold wX5_readTerm_42 at h
  unfold vX5_readTerm_42
  intro e1
  have h := h.2
  obtain ⟨a5', e2, h⟩ := h
  intro a5 e3
  have x9 : a5' = a5 := Option.some.inj (e2.symm.trans e3)
  rw [x9] at h
  intro e4
  have h := h.2
  refine jaX10_advance ?_ _ _ h
  intro σ7 h
  intro e5
  have h := h.2
  refine jaX5_readPart hre ?_ _ _ _ h
  intro σ9 h
  refine ⟨?_, ?_⟩
  · have h := h.1
    intro e6
    have h := h e6
    exact jaX5_readTerm_68 hre hk7 hQ _ _ _ _ _ _ h
  · have h := h.2
    intro e7
    have h := h e7
    exact jaX5_readTerm_68 hre hk7 hQ _ _ _ _ _ _ h
set_option maxRecDepth 100000 in
set_option maxHeartbeats 4000000 in
theorem jfX5_readTerm_42 {I : kx_S → Prop} (W : fw_ I [114, 115, 116, 194, 195, 196, 1001]) {re : Nat → Int32 → kx_S → (kx_S → Prop) → Prop} (hre : ∀ {P : kx_S → Prop}, (∀ y0, I y0 → P y0) → ∀ (x0 : Nat) (x1 : Int32) (x2 : kx_S), I x2 → re x0 x1 x2 P) {k7 : Nat → Int32 → Int32 → kx_S → Prop} (hk7 : ∀ y0 y1 y2 y3, I y3 → k7 y0 y1 y2 y3) {Q : kx_S → Prop} (hQ : ∀ y0, I y0 → Q y0) : ∀ (l0 : Nat) (l1 : Int32) (l2 : Int32) (l3 : Int32) (σ : kx_S), I σ → vX5_readTerm_42 re k7 Q l0 l1 l2 l3 σ := by
  intro l0 l1 l2 l3 σ i
  unfold vX5_readTerm_42
  intro e1
  intro a5 e2
  intro e3
  refine jfX10_advance (I := I) (fw_sub W (by decide)) ?_ _ _ i
  intro σ7 iσ7
  intro e4
  refine jfX5_readPart (I := I) (fw_sub W (by decide)) hre ?_ _ _ _ iσ7
  intro σ9 iσ9
  refine ⟨?_, ?_⟩
  · intro e5
    exact jfX5_readTerm_68 (I := I) (fw_sub W (by decide)) hre hk7 hQ _ _ _ _ _ _ iσ9
  · intro e6
    exact jfX5_readTerm_68 (I := I) (fw_sub W (by decide)) hre hk7 hQ _ _ _ _ _ _ iσ9
def vX5_readTerm_7 (re : Nat → Int32 → kx_S → (kx_S → Prop) → Prop) (Q : kx_S → Prop) : Nat → Nat → Int32 → Int32 → kx_S → Prop
  | 0, _, _, _, _ => True
  | n + 1, l0, l1, l2, σ => ((500 ≤ l2 → Q σ) ∧ (¬ (500 ≤ l2) → xt σ l0 = 7 → ((¬ (xi σ 115 l0) = 0 → Q σ) ∧ ((xi σ 115 l0) = 0 → ∀ a15, xr σ 112 l0 = some a15 → xt σ a15 = 12 → ∀ v18, v18 = xi σ 196 a15 → ((v18 = 42 → vX5_readTerm_42 re (vX5_readTerm_7 re Q n) Q l0 l1 l2 v18 σ) ∧ (¬ (v18 = 42) → ((v18 = 47 → vX5_readTerm_42 re (vX5_readTerm_7 re Q n) Q l0 l1 l2 v18 σ) ∧ (¬ (v18 = 47) → Q σ))))))))
set_option maxRecDepth 100000 in
set_option maxHeartbeats 4000000 in
theorem jcX5_readTerm_7 {re re' : Nat → Int32 → kx_S → (kx_S → Prop) → Prop} (hre : ∀ {P P' P'' : kx_S → Prop}, (∀ y0, P y0 → P' y0 → P'' y0) → ∀ (x0 : Nat) (x1 : Int32) (x2 : kx_S), re x0 x1 x2 P → re' x0 x1 x2 P' → re x0 x1 x2 P'') {Q Q' Q'' : kx_S → Prop} (hQ : ∀ y0, Q y0 → Q' y0 → Q'' y0) : ∀ (n : Nat) (l0 : Nat) (l1 : Int32) (l2 : Int32) (σ : kx_S), wX5_readTerm_7 re Q n l0 l1 l2 σ → vX5_readTerm_7 re' Q' n l0 l1 l2 σ → wX5_readTerm_7 re Q'' n l0 l1 l2 σ := by
  intro n
  induction n with
  | zero => intro l0 l1 l2 σ h; exact h.elim
  | succ n ih =>
    intro l0 l1 l2 σ h v
    unfold wX5_readTerm_7 at h
    unfold vX5_readTerm_7 at v
    unfold wX5_readTerm_7
    refine ⟨?_, ?_⟩
    · have h := h.1
      have v := v.1
      intro e1
      have h := h e1
      have v := v e1
      exact hQ _ h v
    · have h := h.2
      have v := v.2
      intro e2
      have h := h e2
      have v := v e2
      refine ⟨h.1, ?_⟩
      have v := v h.1
      have h := h.2
      refine ⟨?_, ?_⟩
      · have h := h.1
        have v := v.1
        intro e4
        have h := h e4
        have v := v e4
        exact hQ _ h v
      · have h := h.2
        have v := v.2
        intro e5
        have h := h e5
        have v := v e5
        obtain ⟨a15, e6, h⟩ := h
        refine ⟨a15, e6, ?_⟩
        have v := v a15 e6
        refine ⟨h.1, ?_⟩
        have v := v h.1
        have h := h.2
        intro v18 e8
        have h := h v18 e8
        have v := v v18 e8
        refine ⟨?_, ?_⟩
        · have h := h.1
          have v := v.1
          intro e9
          have h := h e9
          have v := v e9
          exact jcX5_readTerm_42 hre (k7 := wX5_readTerm_7 re Q n) (k7' := vX5_readTerm_7 re' Q' n) (k7'' := wX5_readTerm_7 re Q'' n) (fun _ _ _ _ h v => ih _ _ _ _ h v) hQ _ _ _ _ _ h v
        · have h := h.2
          have v := v.2
          intro e10
          have h := h e10
          have v := v e10
          refine ⟨?_, ?_⟩
          · have h := h.1
            have v := v.1
            intro e11
            have h := h e11
            have v := v e11
            exact jcX5_readTerm_42 hre (k7 := wX5_readTerm_7 re Q n) (k7' := vX5_readTerm_7 re' Q' n) (k7'' := wX5_readTerm_7 re Q'' n) (fun _ _ _ _ h v => ih _ _ _ _ h v) hQ _ _ _ _ _ h v
          · have h := h.2
            have v := v.2
            intro e12
            have h := h e12
            have v := v e12
            exact hQ _ h v
set_option maxRecDepth 100000 in
set_option maxHeartbeats 4000000 in
theorem jaX5_readTerm_7 {re re' : Nat → Int32 → kx_S → (kx_S → Prop) → Prop} (hre : ∀ {P P' : kx_S → Prop}, (∀ y0, P y0 → P' y0) → ∀ (x0 : Nat) (x1 : Int32) (x2 : kx_S), re x0 x1 x2 P → re' x0 x1 x2 P') {Q Q' : kx_S → Prop} (hQ : ∀ y0, Q y0 → Q' y0) : ∀ (n m : Nat) (l0 : Nat) (l1 : Int32) (l2 : Int32) (σ : kx_S), wX5_readTerm_7 re Q n l0 l1 l2 σ → vX5_readTerm_7 re' Q' m l0 l1 l2 σ := by
  intro n
  induction n with
  | zero => intro m l0 l1 l2 σ h; exact h.elim
  | succ n ih =>
    intro m l0 l1 l2 σ h
    cases m with
    | zero => exact trivial
    | succ m =>
      unfold wX5_readTerm_7 at h
      unfold vX5_readTerm_7
      refine ⟨?_, ?_⟩
      · have h := h.1
        intro e1
        have h := h e1
        exact hQ _ h
      · have h := h.2
        intro e2
        have h := h e2
        intro e3
        have h := h.2
        refine ⟨?_, ?_⟩
        · have h := h.1
          intro e4
          have h := h e4
          exact hQ _ h
        · have h := h.2
          intro e5
          have h := h e5
          obtain ⟨a15', e6, h⟩ := h
          intro a15 e7
          have x9 : a15' = a15 := Option.some.inj (e6.symm.trans e7)
          rw [x9] at h
          intro e8
          have h := h.2
          intro v18 e9
          have h := h v18 e9
          refine ⟨?_, ?_⟩
          · have h := h.1
            intro e10
            have h := h e10
            exact jaX5_readTerm_42 hre (k7 := wX5_readTerm_7 re Q n) (k7' := vX5_readTerm_7 re' Q' m) (fun _ _ _ _ h => ih m _ _ _ _ h) hQ _ _ _ _ _ h
          · have h := h.2
            intro e11
            have h := h e11
            refine ⟨?_, ?_⟩
            · have h := h.1
              intro e12
              have h := h e12
              exact jaX5_readTerm_42 hre (k7 := wX5_readTerm_7 re Q n) (k7' := vX5_readTerm_7 re' Q' m) (fun _ _ _ _ h => ih m _ _ _ _ h) hQ _ _ _ _ _ h
            · have h := h.2
              intro e13
              have h := h e13
              exact hQ _ h
set_option maxRecDepth 100000 in
set_option maxHeartbeats 4000000 in
theorem jfX5_readTerm_7 {I : kx_S → Prop} (W : fw_ I [114, 115, 116, 194, 195, 196, 1001]) {re : Nat → Int32 → kx_S → (kx_S → Prop) → Prop} (hre : ∀ {P : kx_S → Prop}, (∀ y0, I y0 → P y0) → ∀ (x0 : Nat) (x1 : Int32) (x2 : kx_S), I x2 → re x0 x1 x2 P) {Q : kx_S → Prop} (hQ : ∀ y0, I y0 → Q y0) : ∀ (n : Nat) (l0 : Nat) (l1 : Int32) (l2 : Int32) (σ : kx_S), I σ → vX5_readTerm_7 re Q n l0 l1 l2 σ := by
  intro n
  induction n with
  | zero => intro l0 l1 l2 σ i; exact trivial
  | succ n ih =>
    intro l0 l1 l2 σ i
    unfold vX5_readTerm_7
    refine ⟨?_, ?_⟩
    · intro e1
      exact hQ _ i
    · intro e2
      intro e3
      refine ⟨?_, ?_⟩
      · intro e4
        exact hQ _ i
      · intro e5
        intro a15 e6
        intro e7
        intro v18 e8
        refine ⟨?_, ?_⟩
        · intro e9
          exact jfX5_readTerm_42 (I := I) (fw_sub W (by decide)) hre (k7 := vX5_readTerm_7 re Q n) (fun _ _ _ _ i => ih _ _ _ _ i) hQ _ _ _ _ _ i
        · intro e10
          refine ⟨?_, ?_⟩
          · intro e11
            exact jfX5_readTerm_42 (I := I) (fw_sub W (by decide)) hre (k7 := vX5_readTerm_7 re Q n) (fun _ _ _ _ i => ih _ _ _ _ i) hQ _ _ _ _ _ i
          · intro e12
            exact hQ _ i
def vX5_readTerm (re : Nat → Int32 → kx_S → (kx_S → Prop) → Prop) (l0 : Nat) (l1 : Int32) (σ : kx_S) (Q : kx_S → Prop) : Prop := xt σ l0 = 7 → vX5_readPart re l0 l1 σ (fun σ21 => ∀ j, vX5_readTerm_7 re Q j l0 l1 0 σ21)
set_option maxRecDepth 100000 in
set_option maxHeartbeats 4000000 in
theorem jcX5_readTerm {re re' : Nat → Int32 → kx_S → (kx_S → Prop) → Prop} (hre : ∀ {P P' P'' : kx_S → Prop}, (∀ y0, P y0 → P' y0 → P'' y0) → ∀ (x0 : Nat) (x1 : Int32) (x2 : kx_S), re x0 x1 x2 P → re' x0 x1 x2 P' → re x0 x1 x2 P'') {Q Q' Q'' : kx_S → Prop} (hQ : ∀ y0, Q y0 → Q' y0 → Q'' y0) : ∀ (l0 : Nat) (l1 : Int32) (σ : kx_S), wX5_readTerm re l0 l1 σ Q → vX5_readTerm re' l0 l1 σ Q' → wX5_readTerm re l0 l1 σ Q'' := by
  intro l0 l1 σ h v
  unfold wX5_readTerm at h
  unfold vX5_readTerm at v
  unfold wX5_readTerm
  refine ⟨h.1, ?_⟩
  have v := v h.1
  have h := h.2
  refine jcX5_readPart hre ?_ _ _ _ h v
  intro σ21 h v
  obtain ⟨j, h⟩ := h
  refine ⟨j, ?_⟩
  have v := v j
  exact jcX5_readTerm_7 hre hQ _ _ _ _ _ h v
set_option maxRecDepth 100000 in
set_option maxHeartbeats 4000000 in
theorem jaX5_readTerm {re re' : Nat → Int32 → kx_S → (kx_S → Prop) → Prop} (hre : ∀ {P P' : kx_S → Prop}, (∀ y0, P y0 → P' y0) → ∀ (x0 : Nat) (x1 : Int32) (x2 : kx_S), re x0 x1 x2 P → re' x0 x1 x2 P') {Q Q' : kx_S → Prop} (hQ : ∀ y0, Q y0 → Q' y0) : ∀ (l0 : Nat) (l1 : Int32) (σ : kx_S), wX5_readTerm re l0 l1 σ Q → vX5_readTerm re' l0 l1 σ Q' := by
  intro l0 l1 σ h
  unfold wX5_readTerm at h
  unfold vX5_readTerm
  intro e1
  have h := h.2
  refine jaX5_readPart hre ?_ _ _ _ h
  intro σ21 h
  obtain ⟨j, h⟩ := h
  intro j9
  exact jaX5_readTerm_7 hre hQ _ j9 _ _ _ _ h
set_option maxRecDepth 100000 in
set_option maxHeartbeats 4000000 in
theorem jfX5_readTerm {I : kx_S → Prop} (W : fw_ I [114, 115, 116, 194, 195, 196, 1001]) {re : Nat → Int32 → kx_S → (kx_S → Prop) → Prop} (hre : ∀ {P : kx_S → Prop}, (∀ y0, I y0 → P y0) → ∀ (x0 : Nat) (x1 : Int32) (x2 : kx_S), I x2 → re x0 x1 x2 P) {Q : kx_S → Prop} (hQ : ∀ y0, I y0 → Q y0) : ∀ (l0 : Nat) (l1 : Int32) (σ : kx_S), I σ → vX5_readTerm re l0 l1 σ Q := by
  intro l0 l1 σ i
  unfold vX5_readTerm
  intro e1
  refine jfX5_readPart (I := I) (fw_sub W (by decide)) hre ?_ _ _ _ i
  intro σ21 iσ21
  intro j
  exact jfX5_readTerm_7 (I := I) (fw_sub W (by decide)) hre hQ _ _ _ _ _ iσ21
def vX5_readSum_68 (re : Nat → Int32 → kx_S → (kx_S → Prop) → Prop) (k7 : Nat → Int32 → Int32 → kx_S → Prop) (Q : kx_S → Prop) (l0 : Nat) (l1 : Int32) (l2 : Int32) (s0 : Int32) (s1 : Nat) (σ : kx_S) : Prop := xt σ s1 = 7 → vX5_put s1 s0 σ (fun σ1 => ∀ v3 : Int32, v3 = l2 + 1 → k7 l0 l1 v3 σ1)
set_option maxRecDepth 100000 in
set_option maxHeartbeats 4000000 in
theorem jcX5_readSum_68 {re re' : Nat → Int32 → kx_S → (kx_S → Prop) → Prop} (hre : ∀ {P P' P'' : kx_S → Prop}, (∀ y0, P y0 → P' y0 → P'' y0) → ∀ (x0 : Nat) (x1 : Int32) (x2 : kx_S), re x0 x1 x2 P → re' x0 x1 x2 P' → re x0 x1 x2 P'') {k7 k7' k7'' : Nat → Int32 → Int32 → kx_S → Prop} (hk7 : ∀ y0 y1 y2 y3, k7 y0 y1 y2 y3 → k7' y0 y1 y2 y3 → k7'' y0 y1 y2 y3) {Q Q' Q'' : kx_S → Prop} (hQ : ∀ y0, Q y0 → Q' y0 → Q'' y0) : ∀ (l0 : Nat) (l1 : Int32) (l2 : Int32) (s0 : Int32) (s1 : Nat) (σ : kx_S), wX5_readSum_68 re k7 Q l0 l1 l2 s0 s1 σ → vX5_readSum_68 re' k7' Q' l0 l1 l2 s0 s1 σ → wX5_readSum_68 re k7'' Q'' l0 l1 l2 s0 s1 σ := by
  intro l0 l1 l2 s0 s1 σ h v
  unfold wX5_readSum_68 at h
  unfold vX5_readSum_68 at v
  unfold wX5_readSum_68
  refine ⟨h.1, ?_⟩
  have v := v h.1
  have h := h.2
  refine jcX5_put ?_ _ _ _ h v
  intro σ1 h v
  intro v3 e2
  have h := h v3 e2
  have v := v v3 e2
  exact hk7 _ _ _ _ h v
set_option maxRecDepth 100000 in
set_option maxHeartbeats 4000000 in
theorem jaX5_readSum_68 {re re' : Nat → Int32 → kx_S → (kx_S → Prop) → Prop} (hre : ∀ {P P' : kx_S → Prop}, (∀ y0, P y0 → P' y0) → ∀ (x0 : Nat) (x1 : Int32) (x2 : kx_S), re x0 x1 x2 P → re' x0 x1 x2 P') {k7 k7' : Nat → Int32 → Int32 → kx_S → Prop} (hk7 : ∀ y0 y1 y2 y3, k7 y0 y1 y2 y3 → k7' y0 y1 y2 y3) {Q Q' : kx_S → Prop} (hQ : ∀ y0, Q y0 → Q' y0) : ∀ (l0 : Nat) (l1 : Int32) (l2 : Int32) (s0 : Int32) (s1 : Nat) (σ : kx_S), wX5_readSum_68 re k7 Q l0 l1 l2 s0 s1 σ → vX5_readSum_68 re' k7' Q' l0 l1 l2 s0 s1 σ := by
  intro l0 l1 l2 s0 s1 σ h
  unfold wX5_readSum_68 at h
  unfold vX5_readSum_68
  intro e1
  have h := h.2
  refine jaX5_put ?_ _ _ _ h
  intro σ1 h
  intro v3 e2
  have h := h v3 e2
  exact hk7 _ _ _ _ h
set_option maxRecDepth 100000 in
set_option maxHeartbeats 4000000 in
theorem jfX5_readSum_68 {I : kx_S → Prop} (W : fw_ I [114, 115, 116, 194, 195, 196, 1001]) {re : Nat → Int32 → kx_S → (kx_S → Prop) → Prop} (hre : ∀ {P : kx_S → Prop}, (∀ y0, I y0 → P y0) → ∀ (x0 : Nat) (x1 : Int32) (x2 : kx_S), I x2 → re x0 x1 x2 P) {k7 : Nat → Int32 → Int32 → kx_S → Prop} (hk7 : ∀ y0 y1 y2 y3, I y3 → k7 y0 y1 y2 y3) {Q : kx_S → Prop} (hQ : ∀ y0, I y0 → Q y0) : ∀ (l0 : Nat) (l1 : Int32) (l2 : Int32) (s0 : Int32) (s1 : Nat) (σ : kx_S), I σ → vX5_readSum_68 re k7 Q l0 l1 l2 s0 s1 σ := by
  intro l0 l1 l2 s0 s1 σ i
  unfold vX5_readSum_68
  intro e1
  refine jfX5_put (I := I) (fw_sub W (by decide)) ?_ _ _ _ i
  intro σ1 iσ1
  intro v3 e2
  exact hk7 _ _ _ _ iσ1
def vX5_readSum_42 (re : Nat → Int32 → kx_S → (kx_S → Prop) → Prop) (k7 : Nat → Int32 → Int32 → kx_S → Prop) (Q : kx_S → Prop) (l0 : Nat) (l1 : Int32) (l2 : Int32) (l3 : Int32) (σ : kx_S) : Prop := xt σ l0 = 7 → ∀ a5, xr σ 112 l0 = some a5 → xt σ a5 = 12 → vX10_advance a5 σ (fun σ7 => xt σ7 l0 = 7 → vX5_readTerm re l0 l1 σ7 (fun σ9 => ((¬ l3 = 43 → vX5_readSum_68 re k7 Q l0 l1 l2 (-9) l0 σ9) ∧ (l3 = 43 → vX5_readSum_68 re k7 Q l0 l1 l2 (-8) l0 σ9))))
set_option maxRecDepth 100000 in
set_option maxHeartbeats 4000000 in
theorem jcX5_readSum_42 {re re' : Nat → Int32 → kx_S → (kx_S → Prop) → Prop} (hre : ∀ {P P' P'' : kx_S → Prop}, (∀ y0, P y0 → P' y0 → P'' y0) → ∀ (x0 : Nat) (x1 : Int32) (x2 : kx_S), re x0 x1 x2 P → re' x0 x1 x2 P' → re x0 x1 x2 P'') {k7 k7' k7'' : Nat → Int32 → Int32 → kx_S → Prop} (hk7 : ∀ y0 y1 y2 y3, k7 y0 y1 y2 y3 → k7' y0 y1 y2 y3 → k7'' y0 y1 y2 y3) {Q Q' Q'' : kx_S → Prop} (hQ : ∀ y0, Q y0 → Q' y0 → Q'' y0) : ∀ (l0 : Nat) (l1 : Int32) (l2 : Int32) (l3 : Int32) (σ : kx_S), wX5_readSum_42 re k7 Q l0 l1 l2 l3 σ → vX5_readSum_42 re' k7' Q' l0 l1 l2 l3 σ → wX5_readSum_42 re k7'' Q'' l0 l1 l2 l3 σ := by
  intro l0 l1 l2 l3 σ h v
  unfold wX5_readSum_42 at h
  unfold vX5_readSum_42 at v
  unfold wX5_readSum_42
  refine ⟨h.1, ?_⟩
  have v := v h.1
  have h := h.2
  obtain ⟨a5, e2, h⟩ := h
  refine ⟨a5, e2, ?_⟩
  have v := v a5 e2
  refine ⟨h.1, ?_⟩
  have v := v h.1
  have h := h.2
  refine jcX10_advance ?_ _ _ h v
  intro σ7 h v
  refine ⟨h.1, ?_⟩
  have v := v h.1
  have h := h.2
  refine jcX5_readTerm hre ?_ _ _ _ h v
  intro σ9 h v
  refine ⟨?_, ?_⟩
  · have h := h.1
    have v := v.1
    intro e5
    have h := h e5
    have v := v e5
    exact jcX5_readSum_68 hre hk7 hQ _ _ _ _ _ _ h v
  · have h := h.2
    have v := v.2
    intro e6
    have h := h e6
    have v := v e6
    exact jcX5_readSum_68 hre hk7 hQ _ _ _ _ _ _ h v
set_option maxRecDepth 100000 in
set_option maxHeartbeats 4000000 in
theorem jaX5_readSum_42 {re re' : Nat → Int32 → kx_S → (kx_S → Prop) → Prop} (hre : ∀ {P P' : kx_S → Prop}, (∀ y0, P y0 → P' y0) → ∀ (x0 : Nat) (x1 : Int32) (x2 : kx_S), re x0 x1 x2 P → re' x0 x1 x2 P') {k7 k7' : Nat → Int32 → Int32 → kx_S → Prop} (hk7 : ∀ y0 y1 y2 y3, k7 y0 y1 y2 y3 → k7' y0 y1 y2 y3) {Q Q' : kx_S → Prop} (hQ : ∀ y0, Q y0 → Q' y0) : ∀ (l0 : Nat) (l1 : Int32) (l2 : Int32) (l3 : Int32) (σ : kx_S), wX5_readSum_42 re k7 Q l0 l1 l2 l3 σ → vX5_readSum_42 re' k7' Q' l0 l1 l2 l3 σ := by
  intro l0 l1 l2 l3 σ h
  unfold wX5_readSum_42 at h
  unfold vX5_readSum_42
  intro e1
  have h := h.2
  obtain ⟨a5', e2, h⟩ := h
  intro a5 e3
  have x9 : a5' = a5 := Option.some.inj (e2.symm.trans e3)
  rw [x9] at h
  intro e4
  have h := h.2
  refine jaX10_advance ?_ _ _ h
  intro σ7 h
  intro e5
  have h := h.2
  refine jaX5_readTerm hre ?_ _ _ _ h
  intro σ9 h
  refine ⟨?_, ?_⟩
  · have h := h.1
    intro e6
    have h := h e6
    exact jaX5_readSum_68 hre hk7 hQ _ _ _ _ _ _ h
  · have h := h.2
    intro e7
    have h := h e7
    exact jaX5_readSum_68 hre hk7 hQ _ _ _ _ _ _ h
set_option maxRecDepth 100000 in
set_option maxHeartbeats 4000000 in
theorem jfX5_readSum_42 {I : kx_S → Prop} (W : fw_ I [114, 115, 116, 194, 195, 196, 1001]) {re : Nat → Int32 → kx_S → (kx_S → Prop) → Prop} (hre : ∀ {P : kx_S → Prop}, (∀ y0, I y0 → P y0) → ∀ (x0 : Nat) (x1 : Int32) (x2 : kx_S), I x2 → re x0 x1 x2 P) {k7 : Nat → Int32 → Int32 → kx_S → Prop} (hk7 : ∀ y0 y1 y2 y3, I y3 → k7 y0 y1 y2 y3) {Q : kx_S → Prop} (hQ : ∀ y0, I y0 → Q y0) : ∀ (l0 : Nat) (l1 : Int32) (l2 : Int32) (l3 : Int32) (σ : kx_S), I σ → vX5_readSum_42 re k7 Q l0 l1 l2 l3 σ := by
  intro l0 l1 l2 l3 σ i
  unfold vX5_readSum_42
  intro e1
  intro a5 e2
  intro e3
  refine jfX10_advance (I := I) (fw_sub W (by decide)) ?_ _ _ i
  intro σ7 iσ7
  intro e4
  refine jfX5_readTerm (I := I) (fw_sub W (by decide)) hre ?_ _ _ _ iσ7
  intro σ9 iσ9
  refine ⟨?_, ?_⟩
  · intro e5
    exact jfX5_readSum_68 (I := I) (fw_sub W (by decide)) hre hk7 hQ _ _ _ _ _ _ iσ9
  · intro e6
    exact jfX5_readSum_68 (I := I) (fw_sub W (by decide)) hre hk7 hQ _ _ _ _ _ _ iσ9
def vX5_readSum_7 (re : Nat → Int32 → kx_S → (kx_S → Prop) → Prop) (Q : kx_S → Prop) : Nat → Nat → Int32 → Int32 → kx_S → Prop
  | 0, _, _, _, _ => True
  | n + 1, l0, l1, l2, σ => ((500 ≤ l2 → Q σ) ∧ (¬ (500 ≤ l2) → xt σ l0 = 7 → ((¬ (xi σ 115 l0) = 0 → Q σ) ∧ ((xi σ 115 l0) = 0 → ∀ a15, xr σ 112 l0 = some a15 → xt σ a15 = 12 → ∀ v18, v18 = xi σ 196 a15 → ((v18 = 43 → vX5_readSum_42 re (vX5_readSum_7 re Q n) Q l0 l1 l2 v18 σ) ∧ (¬ (v18 = 43) → ((v18 = 45 → vX5_readSum_42 re (vX5_readSum_7 re Q n) Q l0 l1 l2 v18 σ) ∧ (¬ (v18 = 45) → Q σ))))))))
set_option maxRecDepth 100000 in
set_option maxHeartbeats 4000000 in
theorem jcX5_readSum_7 {re re' : Nat → Int32 → kx_S → (kx_S → Prop) → Prop} (hre : ∀ {P P' P'' : kx_S → Prop}, (∀ y0, P y0 → P' y0 → P'' y0) → ∀ (x0 : Nat) (x1 : Int32) (x2 : kx_S), re x0 x1 x2 P → re' x0 x1 x2 P' → re x0 x1 x2 P'') {Q Q' Q'' : kx_S → Prop} (hQ : ∀ y0, Q y0 → Q' y0 → Q'' y0) : ∀ (n : Nat) (l0 : Nat) (l1 : Int32) (l2 : Int32) (σ : kx_S), wX5_readSum_7 re Q n l0 l1 l2 σ → vX5_readSum_7 re' Q' n l0 l1 l2 σ → wX5_readSum_7 re Q'' n l0 l1 l2 σ := by
  intro n
  induction n with
  | zero => intro l0 l1 l2 σ h; exact h.elim
  | succ n ih =>
    intro l0 l1 l2 σ h v
    unfold wX5_readSum_7 at h
    unfold vX5_readSum_7 at v
    unfold wX5_readSum_7
    refine ⟨?_, ?_⟩
    · have h := h.1
      have v := v.1
      intro e1
      have h := h e1
      have v := v e1
      exact hQ _ h v
    · have h := h.2
      have v := v.2
      intro e2
      have h := h e2
      have v := v e2
      refine ⟨h.1, ?_⟩
      have v := v h.1
      have h := h.2
      refine ⟨?_, ?_⟩
      · have h := h.1
        have v := v.1
        intro e4
        have h := h e4
        have v := v e4
        exact hQ _ h v
      · have h := h.2
        have v := v.2
        intro e5
        have h := h e5
        have v := v e5
        obtain ⟨a15, e6, h⟩ := h
        refine ⟨a15, e6, ?_⟩
        have v := v a15 e6
        refine ⟨h.1, ?_⟩
        have v := v h.1
        have h := h.2
        intro v18 e8
        have h := h v18 e8
        have v := v v18 e8
        refine ⟨?_, ?_⟩
        · have h := h.1
          have v := v.1
          intro e9
          have h := h e9
          have v := v e9
          exact jcX5_readSum_42 hre (k7 := wX5_readSum_7 re Q n) (k7' := vX5_readSum_7 re' Q' n) (k7'' := wX5_readSum_7 re Q'' n) (fun _ _ _ _ h v => ih _ _ _ _ h v) hQ _ _ _ _ _ h v
        · have h := h.2
          have v := v.2
          intro e10
          have h := h e10
          have v := v e10
          refine ⟨?_, ?_⟩
          · have h := h.1
            have v := v.1
            intro e11
            have h := h e11
            have v := v e11
            exact jcX5_readSum_42 hre (k7 := wX5_readSum_7 re Q n) (k7' := vX5_readSum_7 re' Q' n) (k7'' := wX5_readSum_7 re Q'' n) (fun _ _ _ _ h v => ih _ _ _ _ h v) hQ _ _ _ _ _ h v
          · have h := h.2
            have v := v.2
            intro e12
            have h := h e12
            have v := v e12
            exact hQ _ h v
set_option maxRecDepth 100000 in
set_option maxHeartbeats 4000000 in
theorem jaX5_readSum_7 {re re' : Nat → Int32 → kx_S → (kx_S → Prop) → Prop} (hre : ∀ {P P' : kx_S → Prop}, (∀ y0, P y0 → P' y0) → ∀ (x0 : Nat) (x1 : Int32) (x2 : kx_S), re x0 x1 x2 P → re' x0 x1 x2 P') {Q Q' : kx_S → Prop} (hQ : ∀ y0, Q y0 → Q' y0) : ∀ (n m : Nat) (l0 : Nat) (l1 : Int32) (l2 : Int32) (σ : kx_S), wX5_readSum_7 re Q n l0 l1 l2 σ → vX5_readSum_7 re' Q' m l0 l1 l2 σ := by
  intro n
  induction n with
  | zero => intro m l0 l1 l2 σ h; exact h.elim
  | succ n ih =>
    intro m l0 l1 l2 σ h
    cases m with
    | zero => exact trivial
    | succ m =>
      unfold wX5_readSum_7 at h
      unfold vX5_readSum_7
      refine ⟨?_, ?_⟩
      · have h := h.1
        intro e1
        have h := h e1
        exact hQ _ h
      · have h := h.2
        intro e2
        have h := h e2
        intro e3
        have h := h.2
        refine ⟨?_, ?_⟩
        · have h := h.1
          intro e4
          have h := h e4
          exact hQ _ h
        · have h := h.2
          intro e5
          have h := h e5
          obtain ⟨a15', e6, h⟩ := h
          intro a15 e7
          have x9 : a15' = a15 := Option.some.inj (e6.symm.trans e7)
          rw [x9] at h
          intro e8
          have h := h.2
          intro v18 e9
          have h := h v18 e9
          refine ⟨?_, ?_⟩
          · have h := h.1
            intro e10
            have h := h e10
            exact jaX5_readSum_42 hre (k7 := wX5_readSum_7 re Q n) (k7' := vX5_readSum_7 re' Q' m) (fun _ _ _ _ h => ih m _ _ _ _ h) hQ _ _ _ _ _ h
          · have h := h.2
            intro e11
            have h := h e11
            refine ⟨?_, ?_⟩
            · have h := h.1
              intro e12
              have h := h e12
              exact jaX5_readSum_42 hre (k7 := wX5_readSum_7 re Q n) (k7' := vX5_readSum_7 re' Q' m) (fun _ _ _ _ h => ih m _ _ _ _ h) hQ _ _ _ _ _ h
            · have h := h.2
              intro e13
              have h := h e13
              exact hQ _ h
set_option maxRecDepth 100000 in
set_option maxHeartbeats 4000000 in
theorem jfX5_readSum_7 {I : kx_S → Prop} (W : fw_ I [114, 115, 116, 194, 195, 196, 1001]) {re : Nat → Int32 → kx_S → (kx_S → Prop) → Prop} (hre : ∀ {P : kx_S → Prop}, (∀ y0, I y0 → P y0) → ∀ (x0 : Nat) (x1 : Int32) (x2 : kx_S), I x2 → re x0 x1 x2 P) {Q : kx_S → Prop} (hQ : ∀ y0, I y0 → Q y0) : ∀ (n : Nat) (l0 : Nat) (l1 : Int32) (l2 : Int32) (σ : kx_S), I σ → vX5_readSum_7 re Q n l0 l1 l2 σ := by
  intro n
  induction n with
  | zero => intro l0 l1 l2 σ i; exact trivial
  | succ n ih =>
    intro l0 l1 l2 σ i
    unfold vX5_readSum_7
    refine ⟨?_, ?_⟩
    · intro e1
      exact hQ _ i
    · intro e2
      intro e3
      refine ⟨?_, ?_⟩
      · intro e4
        exact hQ _ i
      · intro e5
        intro a15 e6
        intro e7
        intro v18 e8
        refine ⟨?_, ?_⟩
        · intro e9
          exact jfX5_readSum_42 (I := I) (fw_sub W (by decide)) hre (k7 := vX5_readSum_7 re Q n) (fun _ _ _ _ i => ih _ _ _ _ i) hQ _ _ _ _ _ i
        · intro e10
          refine ⟨?_, ?_⟩
          · intro e11
            exact jfX5_readSum_42 (I := I) (fw_sub W (by decide)) hre (k7 := vX5_readSum_7 re Q n) (fun _ _ _ _ i => ih _ _ _ _ i) hQ _ _ _ _ _ i
          · intro e12
            exact hQ _ i
def vX5_readSum (re : Nat → Int32 → kx_S → (kx_S → Prop) → Prop) (l0 : Nat) (l1 : Int32) (σ : kx_S) (Q : kx_S → Prop) : Prop := xt σ l0 = 7 → vX5_readTerm re l0 l1 σ (fun σ21 => ∀ j, vX5_readSum_7 re Q j l0 l1 0 σ21)
set_option maxRecDepth 100000 in
set_option maxHeartbeats 4000000 in
theorem jcX5_readSum {re re' : Nat → Int32 → kx_S → (kx_S → Prop) → Prop} (hre : ∀ {P P' P'' : kx_S → Prop}, (∀ y0, P y0 → P' y0 → P'' y0) → ∀ (x0 : Nat) (x1 : Int32) (x2 : kx_S), re x0 x1 x2 P → re' x0 x1 x2 P' → re x0 x1 x2 P'') {Q Q' Q'' : kx_S → Prop} (hQ : ∀ y0, Q y0 → Q' y0 → Q'' y0) : ∀ (l0 : Nat) (l1 : Int32) (σ : kx_S), wX5_readSum re l0 l1 σ Q → vX5_readSum re' l0 l1 σ Q' → wX5_readSum re l0 l1 σ Q'' := by
  intro l0 l1 σ h v
  unfold wX5_readSum at h
  unfold vX5_readSum at v
  unfold wX5_readSum
  refine ⟨h.1, ?_⟩
  have v := v h.1
  have h := h.2
  refine jcX5_readTerm hre ?_ _ _ _ h v
  intro σ21 h v
  obtain ⟨j, h⟩ := h
  refine ⟨j, ?_⟩
  have v := v j
  exact jcX5_readSum_7 hre hQ _ _ _ _ _ h v
set_option maxRecDepth 100000 in
set_option maxHeartbeats 4000000 in
theorem jaX5_readSum {re re' : Nat → Int32 → kx_S → (kx_S → Prop) → Prop} (hre : ∀ {P P' : kx_S → Prop}, (∀ y0, P y0 → P' y0) → ∀ (x0 : Nat) (x1 : Int32) (x2 : kx_S), re x0 x1 x2 P → re' x0 x1 x2 P') {Q Q' : kx_S → Prop} (hQ : ∀ y0, Q y0 → Q' y0) : ∀ (l0 : Nat) (l1 : Int32) (σ : kx_S), wX5_readSum re l0 l1 σ Q → vX5_readSum re' l0 l1 σ Q' := by
  intro l0 l1 σ h
  unfold wX5_readSum at h
  unfold vX5_readSum
  intro e1
  have h := h.2
  refine jaX5_readTerm hre ?_ _ _ _ h
  intro σ21 h
  obtain ⟨j, h⟩ := h
  intro j9
  exact jaX5_readSum_7 hre hQ _ j9 _ _ _ _ h
set_option maxRecDepth 100000 in
set_option maxHeartbeats 4000000 in
theorem jfX5_readSum {I : kx_S → Prop} (W : fw_ I [114, 115, 116, 194, 195, 196, 1001]) {re : Nat → Int32 → kx_S → (kx_S → Prop) → Prop} (hre : ∀ {P : kx_S → Prop}, (∀ y0, I y0 → P y0) → ∀ (x0 : Nat) (x1 : Int32) (x2 : kx_S), I x2 → re x0 x1 x2 P) {Q : kx_S → Prop} (hQ : ∀ y0, I y0 → Q y0) : ∀ (l0 : Nat) (l1 : Int32) (σ : kx_S), I σ → vX5_readSum re l0 l1 σ Q := by
  intro l0 l1 σ i
  unfold vX5_readSum
  intro e1
  refine jfX5_readTerm (I := I) (fw_sub W (by decide)) hre ?_ _ _ _ i
  intro σ21 iσ21
  intro j
  exact jfX5_readSum_7 (I := I) (fw_sub W (by decide)) hre hQ _ _ _ _ _ iσ21
def vX5_readTest_79 (re : Nat → Int32 → kx_S → (kx_S → Prop) → Prop) (k82 : Nat → Int32 → kx_S → Prop) (Q : kx_S → Prop) (l0 : Nat) (l2 : Int32) (s0 : Int32) (s1 : Nat) (σ : kx_S) : Prop := xt σ s1 = 7 → vX5_put s1 s0 σ (fun σ1 => k82 l0 l2 σ1)
set_option maxRecDepth 100000 in
set_option maxHeartbeats 4000000 in
theorem jcX5_readTest_79 {re re' : Nat → Int32 → kx_S → (kx_S → Prop) → Prop} (hre : ∀ {P P' P'' : kx_S → Prop}, (∀ y0, P y0 → P' y0 → P'' y0) → ∀ (x0 : Nat) (x1 : Int32) (x2 : kx_S), re x0 x1 x2 P → re' x0 x1 x2 P' → re x0 x1 x2 P'') {k82 k82' k82'' : Nat → Int32 → kx_S → Prop} (hk82 : ∀ y0 y1 y2, k82 y0 y1 y2 → k82' y0 y1 y2 → k82'' y0 y1 y2) {Q Q' Q'' : kx_S → Prop} (hQ : ∀ y0, Q y0 → Q' y0 → Q'' y0) : ∀ (l0 : Nat) (l2 : Int32) (s0 : Int32) (s1 : Nat) (σ : kx_S), wX5_readTest_79 re k82 Q l0 l2 s0 s1 σ → vX5_readTest_79 re' k82' Q' l0 l2 s0 s1 σ → wX5_readTest_79 re k82'' Q'' l0 l2 s0 s1 σ := by
  intro l0 l2 s0 s1 σ h v
  unfold wX5_readTest_79 at h
  unfold vX5_readTest_79 at v
  unfold wX5_readTest_79
  refine ⟨h.1, ?_⟩
  have v := v h.1
  have h := h.2
  refine jcX5_put ?_ _ _ _ h v
  intro σ1 h v
  exact hk82 _ _ _ h v
set_option maxRecDepth 100000 in
set_option maxHeartbeats 4000000 in
theorem jaX5_readTest_79 {re re' : Nat → Int32 → kx_S → (kx_S → Prop) → Prop} (hre : ∀ {P P' : kx_S → Prop}, (∀ y0, P y0 → P' y0) → ∀ (x0 : Nat) (x1 : Int32) (x2 : kx_S), re x0 x1 x2 P → re' x0 x1 x2 P') {k82 k82' : Nat → Int32 → kx_S → Prop} (hk82 : ∀ y0 y1 y2, k82 y0 y1 y2 → k82' y0 y1 y2) {Q Q' : kx_S → Prop} (hQ : ∀ y0, Q y0 → Q' y0) : ∀ (l0 : Nat) (l2 : Int32) (s0 : Int32) (s1 : Nat) (σ : kx_S), wX5_readTest_79 re k82 Q l0 l2 s0 s1 σ → vX5_readTest_79 re' k82' Q' l0 l2 s0 s1 σ := by
  intro l0 l2 s0 s1 σ h
  unfold wX5_readTest_79 at h
  unfold vX5_readTest_79
  intro e1
  have h := h.2
  refine jaX5_put ?_ _ _ _ h
  intro σ1 h
  exact hk82 _ _ _ h
set_option maxRecDepth 100000 in
set_option maxHeartbeats 4000000 in
theorem jfX5_readTest_79 {I : kx_S → Prop} (W : fw_ I [114, 115, 116, 194, 195, 196, 1001]) {re : Nat → Int32 → kx_S → (kx_S → Prop) → Prop} (hre : ∀ {P : kx_S → Prop}, (∀ y0, I y0 → P y0) → ∀ (x0 : Nat) (x1 : Int32) (x2 : kx_S), I x2 → re x0 x1 x2 P) {k82 : Nat → Int32 → kx_S → Prop} (hk82 : ∀ y0 y1 y2, I y2 → k82 y0 y1 y2) {Q : kx_S → Prop} (hQ : ∀ y0, I y0 → Q y0) : ∀ (l0 : Nat) (l2 : Int32) (s0 : Int32) (s1 : Nat) (σ : kx_S), I σ → vX5_readTest_79 re k82 Q l0 l2 s0 s1 σ := by
  intro l0 l2 s0 s1 σ i
  unfold vX5_readTest_79
  intro e1
  refine jfX5_put (I := I) (fw_sub W (by decide)) ?_ _ _ _ i
  intro σ1 iσ1
  exact hk82 _ _ _ iσ1
def vX5_readTest_82 (re : Nat → Int32 → kx_S → (kx_S → Prop) → Prop) (Q : kx_S → Prop) (l0 : Nat) (l2 : Int32) (σ : kx_S) : Prop := ((l2 = 0 → Q σ) ∧ (¬ (l2 = 0) → xt σ l0 = 7 → vX5_put l0 (-16) σ (fun σ4 => Q σ4)))
set_option maxRecDepth 100000 in
set_option maxHeartbeats 4000000 in
theorem jcX5_readTest_82 {re re' : Nat → Int32 → kx_S → (kx_S → Prop) → Prop} (hre : ∀ {P P' P'' : kx_S → Prop}, (∀ y0, P y0 → P' y0 → P'' y0) → ∀ (x0 : Nat) (x1 : Int32) (x2 : kx_S), re x0 x1 x2 P → re' x0 x1 x2 P' → re x0 x1 x2 P'') {Q Q' Q'' : kx_S → Prop} (hQ : ∀ y0, Q y0 → Q' y0 → Q'' y0) : ∀ (l0 : Nat) (l2 : Int32) (σ : kx_S), wX5_readTest_82 re Q l0 l2 σ → vX5_readTest_82 re' Q' l0 l2 σ → wX5_readTest_82 re Q'' l0 l2 σ := by
  intro l0 l2 σ h v
  unfold wX5_readTest_82 at h
  unfold vX5_readTest_82 at v
  unfold wX5_readTest_82
  refine ⟨?_, ?_⟩
  · have h := h.1
    have v := v.1
    intro e1
    have h := h e1
    have v := v e1
    exact hQ _ h v
  · have h := h.2
    have v := v.2
    intro e2
    have h := h e2
    have v := v e2
    refine ⟨h.1, ?_⟩
    have v := v h.1
    have h := h.2
    refine jcX5_put ?_ _ _ _ h v
    intro σ4 h v
    exact hQ _ h v
set_option maxRecDepth 100000 in
set_option maxHeartbeats 4000000 in
theorem jaX5_readTest_82 {re re' : Nat → Int32 → kx_S → (kx_S → Prop) → Prop} (hre : ∀ {P P' : kx_S → Prop}, (∀ y0, P y0 → P' y0) → ∀ (x0 : Nat) (x1 : Int32) (x2 : kx_S), re x0 x1 x2 P → re' x0 x1 x2 P') {Q Q' : kx_S → Prop} (hQ : ∀ y0, Q y0 → Q' y0) : ∀ (l0 : Nat) (l2 : Int32) (σ : kx_S), wX5_readTest_82 re Q l0 l2 σ → vX5_readTest_82 re' Q' l0 l2 σ := by
  intro l0 l2 σ h
  unfold wX5_readTest_82 at h
  unfold vX5_readTest_82
  refine ⟨?_, ?_⟩
  · have h := h.1
    intro e1
    have h := h e1
    exact hQ _ h
  · have h := h.2
    intro e2
    have h := h e2
    intro e3
    have h := h.2
    refine jaX5_put ?_ _ _ _ h
    intro σ4 h
    exact hQ _ h
set_option maxRecDepth 100000 in
set_option maxHeartbeats 4000000 in
theorem jfX5_readTest_82 {I : kx_S → Prop} (W : fw_ I [114, 115, 116, 194, 195, 196, 1001]) {re : Nat → Int32 → kx_S → (kx_S → Prop) → Prop} (hre : ∀ {P : kx_S → Prop}, (∀ y0, I y0 → P y0) → ∀ (x0 : Nat) (x1 : Int32) (x2 : kx_S), I x2 → re x0 x1 x2 P) {Q : kx_S → Prop} (hQ : ∀ y0, I y0 → Q y0) : ∀ (l0 : Nat) (l2 : Int32) (σ : kx_S), I σ → vX5_readTest_82 re Q l0 l2 σ := by
  intro l0 l2 σ i
  unfold vX5_readTest_82
  refine ⟨?_, ?_⟩
  · intro e1
    exact hQ _ i
  · intro e2
    intro e3
    refine jfX5_put (I := I) (fw_sub W (by decide)) ?_ _ _ _ i
    intro σ4 iσ4
    exact hQ _ iσ4
def vX5_readTest_53 (re : Nat → Int32 → kx_S → (kx_S → Prop) → Prop) (k82 : Nat → Int32 → kx_S → Prop) (Q : kx_S → Prop) (l0 : Nat) (l1 : Int32) (l2 : Int32) (l3 : Int32) (σ : kx_S) : Prop := xt σ l0 = 7 → ∀ a7, xr σ 112 l0 = some a7 → xt σ a7 = 12 → vX10_advance a7 σ (fun σ9 => xt σ9 l0 = 7 → vX5_readSum re l0 l1 σ9 (fun σ11 => ((¬ l3 = 60 → vX5_readTest_79 re k82 Q l0 l2 (-13) l0 σ11) ∧ (l3 = 60 → vX5_readTest_79 re k82 Q l0 l2 (-12) l0 σ11))))
set_option maxRecDepth 100000 in
set_option maxHeartbeats 4000000 in
theorem jcX5_readTest_53 {re re' : Nat → Int32 → kx_S → (kx_S → Prop) → Prop} (hre : ∀ {P P' P'' : kx_S → Prop}, (∀ y0, P y0 → P' y0 → P'' y0) → ∀ (x0 : Nat) (x1 : Int32) (x2 : kx_S), re x0 x1 x2 P → re' x0 x1 x2 P' → re x0 x1 x2 P'') {k82 k82' k82'' : Nat → Int32 → kx_S → Prop} (hk82 : ∀ y0 y1 y2, k82 y0 y1 y2 → k82' y0 y1 y2 → k82'' y0 y1 y2) {Q Q' Q'' : kx_S → Prop} (hQ : ∀ y0, Q y0 → Q' y0 → Q'' y0) : ∀ (l0 : Nat) (l1 : Int32) (l2 : Int32) (l3 : Int32) (σ : kx_S), wX5_readTest_53 re k82 Q l0 l1 l2 l3 σ → vX5_readTest_53 re' k82' Q' l0 l1 l2 l3 σ → wX5_readTest_53 re k82'' Q'' l0 l1 l2 l3 σ := by
  intro l0 l1 l2 l3 σ h v
  unfold wX5_readTest_53 at h
  unfold vX5_readTest_53 at v
  unfold wX5_readTest_53
  refine ⟨h.1, ?_⟩
  have v := v h.1
  have h := h.2
  obtain ⟨a7, e2, h⟩ := h
  refine ⟨a7, e2, ?_⟩
  have v := v a7 e2
  refine ⟨h.1, ?_⟩
  have v := v h.1
  have h := h.2
  refine jcX10_advance ?_ _ _ h v
  intro σ9 h v
  refine ⟨h.1, ?_⟩
  have v := v h.1
  have h := h.2
  refine jcX5_readSum hre ?_ _ _ _ h v
  intro σ11 h v
  refine ⟨?_, ?_⟩
  · have h := h.1
    have v := v.1
    intro e5
    have h := h e5
    have v := v e5
    exact jcX5_readTest_79 hre hk82 hQ _ _ _ _ _ h v
  · have h := h.2
    have v := v.2
    intro e6
    have h := h e6
    have v := v e6
    exact jcX5_readTest_79 hre hk82 hQ _ _ _ _ _ h v
set_option maxRecDepth 100000 in
set_option maxHeartbeats 4000000 in
theorem jaX5_readTest_53 {re re' : Nat → Int32 → kx_S → (kx_S → Prop) → Prop} (hre : ∀ {P P' : kx_S → Prop}, (∀ y0, P y0 → P' y0) → ∀ (x0 : Nat) (x1 : Int32) (x2 : kx_S), re x0 x1 x2 P → re' x0 x1 x2 P') {k82 k82' : Nat → Int32 → kx_S → Prop} (hk82 : ∀ y0 y1 y2, k82 y0 y1 y2 → k82' y0 y1 y2) {Q Q' : kx_S → Prop} (hQ : ∀ y0, Q y0 → Q' y0) : ∀ (l0 : Nat) (l1 : Int32) (l2 : Int32) (l3 : Int32) (σ : kx_S), wX5_readTest_53 re k82 Q l0 l1 l2 l3 σ → vX5_readTest_53 re' k82' Q' l0 l1 l2 l3 σ := by
  intro l0 l1 l2 l3 σ h
  unfold wX5_readTest_53 at h
  unfold vX5_readTest_53
  intro e1
  have h := h.2
  obtain ⟨a7', e2, h⟩ := h
  intro a7 e3
  have x9 : a7' = a7 := Option.some.inj (e2.symm.trans e3)
  rw [x9] at h
  intro e4
  have h := h.2
  refine jaX10_advance ?_ _ _ h
  intro σ9 h
  intro e5
  have h := h.2
  refine jaX5_readSum hre ?_ _ _ _ h
  intro σ11 h
  refine ⟨?_, ?_⟩
  · have h := h.1
    intro e6
    have h := h e6
    exact jaX5_readTest_79 hre hk82 hQ _ _ _ _ _ h
  · have h := h.2
    intro e7
    have h := h e7
    exact jaX5_readTest_79 hre hk82 hQ _ _ _ _ _ h
set_option maxRecDepth 100000 in
set_option maxHeartbeats 4000000 in
theorem jfX5_readTest_53 {I : kx_S → Prop} (W : fw_ I [114, 115, 116, 194, 195, 196, 1001]) {re : Nat → Int32 → kx_S → (kx_S → Prop) → Prop} (hre : ∀ {P : kx_S → Prop}, (∀ y0, I y0 → P y0) → ∀ (x0 : Nat) (x1 : Int32) (x2 : kx_S), I x2 → re x0 x1 x2 P) {k82 : Nat → Int32 → kx_S → Prop} (hk82 : ∀ y0 y1 y2, I y2 → k82 y0 y1 y2) {Q : kx_S → Prop} (hQ : ∀ y0, I y0 → Q y0) : ∀ (l0 : Nat) (l1 : Int32) (l2 : Int32) (l3 : Int32) (σ : kx_S), I σ → vX5_readTest_53 re k82 Q l0 l1 l2 l3 σ := by
  intro l0 l1 l2 l3 σ i
  unfold vX5_readTest_53
  intro e1
  intro a7 e2
  intro e3
  refine jfX10_advance (I := I) (fw_sub W (by decide)) ?_ _ _ i
  intro σ9 iσ9
  intro e4
  refine jfX5_readSum (I := I) (fw_sub W (by decide)) hre ?_ _ _ _ iσ9
  intro σ11 iσ11
  refine ⟨?_, ?_⟩
  · intro e5
    exact jfX5_readTest_79 (I := I) (fw_sub W (by decide)) hre hk82 hQ _ _ _ _ _ iσ11
  · intro e6
    exact jfX5_readTest_79 (I := I) (fw_sub W (by decide)) hre hk82 hQ _ _ _ _ _ iσ11
def vX5_readTest_21 (re : Nat → Int32 → kx_S → (kx_S → Prop) → Prop) (Q : kx_S → Prop) (l0 : Nat) (l1 : Int32) (l2 : Int32) (σ : kx_S) : Prop := xt σ l0 = 7 → vX5_readSum re l0 l1 σ (fun σ14 => xt σ14 l0 = 7 → ∀ a17, xr σ14 112 l0 = some a17 → xt σ14 a17 = 12 → ∀ v20, v20 = xi σ14 196 a17 → ((¬ (xi σ14 115 l0) = 0 → vX5_readTest_82 re Q l0 l2 σ14) ∧ ((xi σ14 115 l0) = 0 → ((v20 = 60 → vX5_readTest_53 re (vX5_readTest_82 re Q) Q l0 l1 l2 v20 σ14) ∧ (¬ (v20 = 60) → ((¬ v20 = 61 → vX5_readTest_82 re Q l0 l2 σ14) ∧ (v20 = 61 → vX5_readTest_53 re (vX5_readTest_82 re Q) Q l0 l1 l2 v20 σ14)))))))
set_option maxRecDepth 100000 in
set_option maxHeartbeats 4000000 in
theorem jcX5_readTest_21 {re re' : Nat → Int32 → kx_S → (kx_S → Prop) → Prop} (hre : ∀ {P P' P'' : kx_S → Prop}, (∀ y0, P y0 → P' y0 → P'' y0) → ∀ (x0 : Nat) (x1 : Int32) (x2 : kx_S), re x0 x1 x2 P → re' x0 x1 x2 P' → re x0 x1 x2 P'') {Q Q' Q'' : kx_S → Prop} (hQ : ∀ y0, Q y0 → Q' y0 → Q'' y0) : ∀ (l0 : Nat) (l1 : Int32) (l2 : Int32) (σ : kx_S), wX5_readTest_21 re Q l0 l1 l2 σ → vX5_readTest_21 re' Q' l0 l1 l2 σ → wX5_readTest_21 re Q'' l0 l1 l2 σ := by
  intro l0 l1 l2 σ h v
  unfold wX5_readTest_21 at h
  unfold vX5_readTest_21 at v
  unfold wX5_readTest_21
  refine ⟨h.1, ?_⟩
  have v := v h.1
  have h := h.2
  refine jcX5_readSum hre ?_ _ _ _ h v
  intro σ14 h v
  refine ⟨h.1, ?_⟩
  have v := v h.1
  have h := h.2
  obtain ⟨a17, e3, h⟩ := h
  refine ⟨a17, e3, ?_⟩
  have v := v a17 e3
  refine ⟨h.1, ?_⟩
  have v := v h.1
  have h := h.2
  intro v20 e5
  have h := h v20 e5
  have v := v v20 e5
  refine ⟨?_, ?_⟩
  · have h := h.1
    have v := v.1
    intro e6
    have h := h e6
    have v := v e6
    exact jcX5_readTest_82 hre hQ _ _ _ h v
  · have h := h.2
    have v := v.2
    intro e7
    have h := h e7
    have v := v e7
    refine ⟨?_, ?_⟩
    · have h := h.1
      have v := v.1
      intro e8
      have h := h e8
      have v := v e8
      exact jcX5_readTest_53 hre (k82 := wX5_readTest_82 re Q) (k82' := vX5_readTest_82 re' Q') (k82'' := wX5_readTest_82 re Q'') (fun _ _ _ h v => jcX5_readTest_82 hre hQ _ _ _ h v) hQ _ _ _ _ _ h v
    · have h := h.2
      have v := v.2
      intro e9
      have h := h e9
      have v := v e9
      refine ⟨?_, ?_⟩
      · have h := h.1
        have v := v.1
        intro e10
        have h := h e10
        have v := v e10
        exact jcX5_readTest_82 hre hQ _ _ _ h v
      · have h := h.2
        have v := v.2
        intro e11
        have h := h e11
        have v := v e11
        exact jcX5_readTest_53 hre (k82 := wX5_readTest_82 re Q) (k82' := vX5_readTest_82 re' Q') (k82'' := wX5_readTest_82 re Q'') (fun _ _ _ h v => jcX5_readTest_82 hre hQ _ _ _ h v) hQ _ _ _ _ _ h v
set_option maxRecDepth 100000 in
set_option maxHeartbeats 4000000 in
theorem jaX5_readTest_21 {re re' : Nat → Int32 → kx_S → (kx_S → Prop) → Prop} (hre : ∀ {P P' : kx_S → Prop}, (∀ y0, P y0 → P' y0) → ∀ (x0 : Nat) (x1 : Int32) (x2 : kx_S), re x0 x1 x2 P → re' x0 x1 x2 P') {Q Q' : kx_S → Prop} (hQ : ∀ y0, Q y0 → Q' y0) : ∀ (l0 : Nat) (l1 : Int32) (l2 : Int32) (σ : kx_S), wX5_readTest_21 re Q l0 l1 l2 σ → vX5_readTest_21 re' Q' l0 l1 l2 σ := by
  intro l0 l1 l2 σ h
  unfold wX5_readTest_21 at h
  unfold vX5_readTest_21
  intro e1
  have h := h.2
  refine jaX5_readSum hre ?_ _ _ _ h
  intro σ14 h
  intro e2
  have h := h.2
  obtain ⟨a17', e3, h⟩ := h
  intro a17 e4
  have x9 : a17' = a17 := Option.some.inj (e3.symm.trans e4)
  rw [x9] at h
  intro e5
  have h := h.2
  intro v20 e6
  have h := h v20 e6
  refine ⟨?_, ?_⟩
  · have h := h.1
    intro e7
    have h := h e7
    exact jaX5_readTest_82 hre hQ _ _ _ h
  · have h := h.2
    intro e8
    have h := h e8
    refine ⟨?_, ?_⟩
    · have h := h.1
      intro e9
      have h := h e9
      exact jaX5_readTest_53 hre (k82 := wX5_readTest_82 re Q) (k82' := vX5_readTest_82 re' Q') (fun _ _ _ h => jaX5_readTest_82 hre hQ _ _ _ h) hQ _ _ _ _ _ h
    · have h := h.2
      intro e10
      have h := h e10
      refine ⟨?_, ?_⟩
      · have h := h.1
        intro e11
        have h := h e11
        exact jaX5_readTest_82 hre hQ _ _ _ h
      · have h := h.2
        intro e12
        have h := h e12
        exact jaX5_readTest_53 hre (k82 := wX5_readTest_82 re Q) (k82' := vX5_readTest_82 re' Q') (fun _ _ _ h => jaX5_readTest_82 hre hQ _ _ _ h) hQ _ _ _ _ _ h
set_option maxRecDepth 100000 in
set_option maxHeartbeats 4000000 in
theorem jfX5_readTest_21 {I : kx_S → Prop} (W : fw_ I [114, 115, 116, 194, 195, 196, 1001]) {re : Nat → Int32 → kx_S → (kx_S → Prop) → Prop} (hre : ∀ {P : kx_S → Prop}, (∀ y0, I y0 → P y0) → ∀ (x0 : Nat) (x1 : Int32) (x2 : kx_S), I x2 → re x0 x1 x2 P) {Q : kx_S → Prop} (hQ : ∀ y0, I y0 → Q y0) : ∀ (l0 : Nat) (l1 : Int32) (l2 : Int32) (σ : kx_S), I σ → vX5_readTest_21 re Q l0 l1 l2 σ := by
  intro l0 l1 l2 σ i
  unfold vX5_readTest_21
  intro e1
  refine jfX5_readSum (I := I) (fw_sub W (by decide)) hre ?_ _ _ _ i
  intro σ14 iσ14
  intro e2
  intro a17 e3
  intro e4
  intro v20 e5
  refine ⟨?_, ?_⟩
  · intro e6
    exact jfX5_readTest_82 (I := I) (fw_sub W (by decide)) hre hQ _ _ _ iσ14
  · intro e7
    refine ⟨?_, ?_⟩
    · intro e8
      exact jfX5_readTest_53 (I := I) (fw_sub W (by decide)) hre (k82 := vX5_readTest_82 re Q) (fun _ _ _ i => jfX5_readTest_82 (I := I) (fw_sub W (by decide)) hre hQ _ _ _ i) hQ _ _ _ _ _ iσ14
    · intro e9
      refine ⟨?_, ?_⟩
      · intro e10
        exact jfX5_readTest_82 (I := I) (fw_sub W (by decide)) hre hQ _ _ _ iσ14
      · intro e11
        exact jfX5_readTest_53 (I := I) (fw_sub W (by decide)) hre (k82 := vX5_readTest_82 re Q) (fun _ _ _ i => jfX5_readTest_82 (I := I) (fw_sub W (by decide)) hre hQ _ _ _ i) hQ _ _ _ _ _ iσ14
def vX5_readTest (re : Nat → Int32 → kx_S → (kx_S → Prop) → Prop) (l0 : Nat) (l1 : Int32) (σ : kx_S) (Q : kx_S → Prop) : Prop := xt σ l0 = 7 → ∀ a25, xr σ 112 l0 = some a25 → xt σ a25 = 12 → vX10_isWord a25 11 σ (fun r28 σ27 => ((r28 = 0 → vX5_readTest_21 re Q l0 l1 r28 σ27) ∧ (¬ (r28 = 0) → xt σ27 l0 = 7 → ∀ a32, xr σ27 112 l0 = some a32 → xt σ27 a32 = 12 → vX10_advance a32 σ27 (fun σ34 => vX5_readTest_21 re Q l0 l1 r28 σ34))))
set_option maxRecDepth 100000 in
set_option maxHeartbeats 4000000 in
theorem jcX5_readTest {re re' : Nat → Int32 → kx_S → (kx_S → Prop) → Prop} (hre : ∀ {P P' P'' : kx_S → Prop}, (∀ y0, P y0 → P' y0 → P'' y0) → ∀ (x0 : Nat) (x1 : Int32) (x2 : kx_S), re x0 x1 x2 P → re' x0 x1 x2 P' → re x0 x1 x2 P'') {Q Q' Q'' : kx_S → Prop} (hQ : ∀ y0, Q y0 → Q' y0 → Q'' y0) : ∀ (l0 : Nat) (l1 : Int32) (σ : kx_S), wX5_readTest re l0 l1 σ Q → vX5_readTest re' l0 l1 σ Q' → wX5_readTest re l0 l1 σ Q'' := by
  intro l0 l1 σ h v
  unfold wX5_readTest at h
  unfold vX5_readTest at v
  unfold wX5_readTest
  refine ⟨h.1, ?_⟩
  have v := v h.1
  have h := h.2
  obtain ⟨a25, e2, h⟩ := h
  refine ⟨a25, e2, ?_⟩
  have v := v a25 e2
  refine ⟨h.1, ?_⟩
  have v := v h.1
  have h := h.2
  refine jcX10_isWord ?_ _ _ _ h v
  intro r28 σ27 h v
  refine ⟨?_, ?_⟩
  · have h := h.1
    have v := v.1
    intro e4
    have h := h e4
    have v := v e4
    exact jcX5_readTest_21 hre hQ _ _ _ _ h v
  · have h := h.2
    have v := v.2
    intro e5
    have h := h e5
    have v := v e5
    refine ⟨h.1, ?_⟩
    have v := v h.1
    have h := h.2
    obtain ⟨a32, e7, h⟩ := h
    refine ⟨a32, e7, ?_⟩
    have v := v a32 e7
    refine ⟨h.1, ?_⟩
    have v := v h.1
    have h := h.2
    refine jcX10_advance ?_ _ _ h v
    intro σ34 h v
    exact jcX5_readTest_21 hre hQ _ _ _ _ h v
set_option maxRecDepth 100000 in
set_option maxHeartbeats 4000000 in
theorem jaX5_readTest {re re' : Nat → Int32 → kx_S → (kx_S → Prop) → Prop} (hre : ∀ {P P' : kx_S → Prop}, (∀ y0, P y0 → P' y0) → ∀ (x0 : Nat) (x1 : Int32) (x2 : kx_S), re x0 x1 x2 P → re' x0 x1 x2 P') {Q Q' : kx_S → Prop} (hQ : ∀ y0, Q y0 → Q' y0) : ∀ (l0 : Nat) (l1 : Int32) (σ : kx_S), wX5_readTest re l0 l1 σ Q → vX5_readTest re' l0 l1 σ Q' := by
  intro l0 l1 σ h
  unfold wX5_readTest at h
  unfold vX5_readTest
  intro e1
  have h := h.2
  obtain ⟨a25', e2, h⟩ := h
  intro a25 e3
  have x9 : a25' = a25 := Option.some.inj (e2.symm.trans e3)
  rw [x9] at h
  intro e4
  have h := h.2
  refine jaX10_isWord ?_ _ _ _ h
  intro r28 σ27 h
  refine ⟨?_, ?_⟩
  · have h := h.1
    intro e5
    have h := h e5
    exact jaX5_readTest_21 hre hQ _ _ _ _ h
  · have h := h.2
    intro e6
    have h := h e6
    intro e7
    have h := h.2
    obtain ⟨a32', e8, h⟩ := h
    intro a32 e9
    have x9 : a32' = a32 := Option.some.inj (e8.symm.trans e9)
    rw [x9] at h
    intro e10
    have h := h.2
    refine jaX10_advance ?_ _ _ h
    intro σ34 h
    exact jaX5_readTest_21 hre hQ _ _ _ _ h
set_option maxRecDepth 100000 in
set_option maxHeartbeats 4000000 in
theorem jfX5_readTest {I : kx_S → Prop} (W : fw_ I [114, 115, 116, 194, 195, 196, 1001]) {re : Nat → Int32 → kx_S → (kx_S → Prop) → Prop} (hre : ∀ {P : kx_S → Prop}, (∀ y0, I y0 → P y0) → ∀ (x0 : Nat) (x1 : Int32) (x2 : kx_S), I x2 → re x0 x1 x2 P) {Q : kx_S → Prop} (hQ : ∀ y0, I y0 → Q y0) : ∀ (l0 : Nat) (l1 : Int32) (σ : kx_S), I σ → vX5_readTest re l0 l1 σ Q := by
  intro l0 l1 σ i
  unfold vX5_readTest
  intro e1
  intro a25 e2
  intro e3
  refine jfX10_isWord (I := I) (fw_sub W (by decide)) ?_ _ _ _ i
  intro r28 σ27 iσ27
  refine ⟨?_, ?_⟩
  · intro e4
    exact jfX5_readTest_21 (I := I) (fw_sub W (by decide)) hre hQ _ _ _ _ iσ27
  · intro e5
    intro e6
    intro a32 e7
    intro e8
    refine jfX10_advance (I := I) (fw_sub W (by decide)) ?_ _ _ iσ27
    intro σ34 iσ34
    exact jfX5_readTest_21 (I := I) (fw_sub W (by decide)) hre hQ _ _ _ _ iσ34
