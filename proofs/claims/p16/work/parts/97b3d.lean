def vX5_readExpr_37 (re : Nat → Int32 → kx_S → (kx_S → Prop) → Prop) (Q : kx_S → Prop) (s0 : Int32) (s1 : Nat) (σ : kx_S) : Prop := xt σ s1 = 7 → vX5_fail s1 s0 σ (fun σ1 => Q σ1)
set_option maxRecDepth 100000 in
set_option maxHeartbeats 4000000 in
theorem jcX5_readExpr_37 {re re' : Nat → Int32 → kx_S → (kx_S → Prop) → Prop} (hre : ∀ {P P' P'' : kx_S → Prop}, (∀ y0, P y0 → P' y0 → P'' y0) → ∀ (x0 : Nat) (x1 : Int32) (x2 : kx_S), re x0 x1 x2 P → re' x0 x1 x2 P' → re x0 x1 x2 P'') {Q Q' Q'' : kx_S → Prop} (hQ : ∀ y0, Q y0 → Q' y0 → Q'' y0) : ∀ (s0 : Int32) (s1 : Nat) (σ : kx_S), wX5_readExpr_37 re Q s0 s1 σ → vX5_readExpr_37 re' Q' s0 s1 σ → wX5_readExpr_37 re Q'' s0 s1 σ := by
  intro s0 s1 σ h v
  unfold wX5_readExpr_37 at h
  unfold vX5_readExpr_37 at v
  unfold wX5_readExpr_37
  refine ⟨h.1, ?_⟩
  have v := v h.1
  have h := h.2
  refine jcX5_fail ?_ _ _ _ h v
  intro σ1 h v
  exact hQ _ h v
set_option maxRecDepth 100000 in
set_option maxHeartbeats 4000000 in
theorem jaX5_readExpr_37 {re re' : Nat → Int32 → kx_S → (kx_S → Prop) → Prop} (hre : ∀ {P P' : kx_S → Prop}, (∀ y0, P y0 → P' y0) → ∀ (x0 : Nat) (x1 : Int32) (x2 : kx_S), re x0 x1 x2 P → re' x0 x1 x2 P') {Q Q' : kx_S → Prop} (hQ : ∀ y0, Q y0 → Q' y0) : ∀ (s0 : Int32) (s1 : Nat) (σ : kx_S), wX5_readExpr_37 re Q s0 s1 σ → vX5_readExpr_37 re' Q' s0 s1 σ := by
  intro s0 s1 σ h
  unfold wX5_readExpr_37 at h
  unfold vX5_readExpr_37
  intro e1
  have h := h.2
  refine jaX5_fail ?_ _ _ _ h
  intro σ1 h
  exact hQ _ h
set_option maxRecDepth 100000 in
set_option maxHeartbeats 4000000 in
theorem jfX5_readExpr_37 {I : kx_S → Prop} (W : fw_ I [114, 115, 116, 194, 195, 196, 1001]) {re : Nat → Int32 → kx_S → (kx_S → Prop) → Prop} (hre : ∀ {P : kx_S → Prop}, (∀ y0, I y0 → P y0) → ∀ (x0 : Nat) (x1 : Int32) (x2 : kx_S), I x2 → re x0 x1 x2 P) {Q : kx_S → Prop} (hQ : ∀ y0, I y0 → Q y0) : ∀ (s0 : Int32) (s1 : Nat) (σ : kx_S), I σ → vX5_readExpr_37 re Q s0 s1 σ := by
  intro s0 s1 σ i
  unfold vX5_readExpr_37
  intro e1
  refine jfX5_fail (I := I) (fw_sub W (by decide)) ?_ _ _ _ i
  intro σ1 iσ1
  exact hQ _ iσ1
def vX5_readExpr_113 (re : Nat → Int32 → kx_S → (kx_S → Prop) → Prop) (k48 : Nat → Int32 → Int32 → kx_S → Prop) (Q : kx_S → Prop) (l0 : Nat) (l1 : Int32) (l2 : Int32) (s0 : Int32) (s1 : Nat) (σ : kx_S) : Prop := xt σ s1 = 7 → vX5_put s1 s0 σ (fun σ3 => ∀ v5 : Int32, v5 = l2 + 1 → k48 l0 l1 v5 σ3)
set_option maxRecDepth 100000 in
set_option maxHeartbeats 4000000 in
theorem jcX5_readExpr_113 {re re' : Nat → Int32 → kx_S → (kx_S → Prop) → Prop} (hre : ∀ {P P' P'' : kx_S → Prop}, (∀ y0, P y0 → P' y0 → P'' y0) → ∀ (x0 : Nat) (x1 : Int32) (x2 : kx_S), re x0 x1 x2 P → re' x0 x1 x2 P' → re x0 x1 x2 P'') {k48 k48' k48'' : Nat → Int32 → Int32 → kx_S → Prop} (hk48 : ∀ y0 y1 y2 y3, k48 y0 y1 y2 y3 → k48' y0 y1 y2 y3 → k48'' y0 y1 y2 y3) {Q Q' Q'' : kx_S → Prop} (hQ : ∀ y0, Q y0 → Q' y0 → Q'' y0) : ∀ (l0 : Nat) (l1 : Int32) (l2 : Int32) (s0 : Int32) (s1 : Nat) (σ : kx_S), wX5_readExpr_113 re k48 Q l0 l1 l2 s0 s1 σ → vX5_readExpr_113 re' k48' Q' l0 l1 l2 s0 s1 σ → wX5_readExpr_113 re k48'' Q'' l0 l1 l2 s0 s1 σ := by
  intro l0 l1 l2 s0 s1 σ h v
  unfold wX5_readExpr_113 at h
  unfold vX5_readExpr_113 at v
  unfold wX5_readExpr_113
  refine ⟨h.1, ?_⟩
  have v := v h.1
  have h := h.2
  refine jcX5_put ?_ _ _ _ h v
  intro σ3 h v
  intro v5 e2
  have h := h v5 e2
  have v := v v5 e2
  exact hk48 _ _ _ _ h v
set_option maxRecDepth 100000 in
set_option maxHeartbeats 4000000 in
theorem jaX5_readExpr_113 {re re' : Nat → Int32 → kx_S → (kx_S → Prop) → Prop} (hre : ∀ {P P' : kx_S → Prop}, (∀ y0, P y0 → P' y0) → ∀ (x0 : Nat) (x1 : Int32) (x2 : kx_S), re x0 x1 x2 P → re' x0 x1 x2 P') {k48 k48' : Nat → Int32 → Int32 → kx_S → Prop} (hk48 : ∀ y0 y1 y2 y3, k48 y0 y1 y2 y3 → k48' y0 y1 y2 y3) {Q Q' : kx_S → Prop} (hQ : ∀ y0, Q y0 → Q' y0) : ∀ (l0 : Nat) (l1 : Int32) (l2 : Int32) (s0 : Int32) (s1 : Nat) (σ : kx_S), wX5_readExpr_113 re k48 Q l0 l1 l2 s0 s1 σ → vX5_readExpr_113 re' k48' Q' l0 l1 l2 s0 s1 σ := by
  intro l0 l1 l2 s0 s1 σ h
  unfold wX5_readExpr_113 at h
  unfold vX5_readExpr_113
  intro e1
  have h := h.2
  refine jaX5_put ?_ _ _ _ h
  intro σ3 h
  intro v5 e2
  have h := h v5 e2
  exact hk48 _ _ _ _ h
set_option maxRecDepth 100000 in
set_option maxHeartbeats 4000000 in
theorem jfX5_readExpr_113 {I : kx_S → Prop} (W : fw_ I [114, 115, 116, 194, 195, 196, 1001]) {re : Nat → Int32 → kx_S → (kx_S → Prop) → Prop} (hre : ∀ {P : kx_S → Prop}, (∀ y0, I y0 → P y0) → ∀ (x0 : Nat) (x1 : Int32) (x2 : kx_S), I x2 → re x0 x1 x2 P) {k48 : Nat → Int32 → Int32 → kx_S → Prop} (hk48 : ∀ y0 y1 y2 y3, I y3 → k48 y0 y1 y2 y3) {Q : kx_S → Prop} (hQ : ∀ y0, I y0 → Q y0) : ∀ (l0 : Nat) (l1 : Int32) (l2 : Int32) (s0 : Int32) (s1 : Nat) (σ : kx_S), I σ → vX5_readExpr_113 re k48 Q l0 l1 l2 s0 s1 σ := by
  intro l0 l1 l2 s0 s1 σ i
  unfold vX5_readExpr_113
  intro e1
  refine jfX5_put (I := I) (fw_sub W (by decide)) ?_ _ _ _ i
  intro σ3 iσ3
  intro v5 e2
  exact hk48 _ _ _ _ iσ3
def vX5_readExpr_26 (re : Nat → Int32 → kx_S → (kx_S → Prop) → Prop) (Q : kx_S → Prop) (l0 : Nat) (s0 : Int32) (σ : kx_S) : Prop := ((¬ s0 = 0 → vX5_readExpr_37 re Q s0 l0 σ) ∧ (s0 = 0 → vX5_readExpr_37 re Q 2 l0 σ))
set_option maxRecDepth 100000 in
set_option maxHeartbeats 4000000 in
theorem jcX5_readExpr_26 {re re' : Nat → Int32 → kx_S → (kx_S → Prop) → Prop} (hre : ∀ {P P' P'' : kx_S → Prop}, (∀ y0, P y0 → P' y0 → P'' y0) → ∀ (x0 : Nat) (x1 : Int32) (x2 : kx_S), re x0 x1 x2 P → re' x0 x1 x2 P' → re x0 x1 x2 P'') {Q Q' Q'' : kx_S → Prop} (hQ : ∀ y0, Q y0 → Q' y0 → Q'' y0) : ∀ (l0 : Nat) (s0 : Int32) (σ : kx_S), wX5_readExpr_26 re Q l0 s0 σ → vX5_readExpr_26 re' Q' l0 s0 σ → wX5_readExpr_26 re Q'' l0 s0 σ := by
  intro l0 s0 σ h v
  unfold wX5_readExpr_26 at h
  unfold vX5_readExpr_26 at v
  unfold wX5_readExpr_26
  refine ⟨?_, ?_⟩
  · have h := h.1
    have v := v.1
    intro e1
    have h := h e1
    have v := v e1
    exact jcX5_readExpr_37 hre hQ _ _ _ h v
  · have h := h.2
    have v := v.2
    intro e2
    have h := h e2
    have v := v e2
    exact jcX5_readExpr_37 hre hQ _ _ _ h v
set_option maxRecDepth 100000 in
set_option maxHeartbeats 4000000 in
theorem jaX5_readExpr_26 {re re' : Nat → Int32 → kx_S → (kx_S → Prop) → Prop} (hre : ∀ {P P' : kx_S → Prop}, (∀ y0, P y0 → P' y0) → ∀ (x0 : Nat) (x1 : Int32) (x2 : kx_S), re x0 x1 x2 P → re' x0 x1 x2 P') {Q Q' : kx_S → Prop} (hQ : ∀ y0, Q y0 → Q' y0) : ∀ (l0 : Nat) (s0 : Int32) (σ : kx_S), wX5_readExpr_26 re Q l0 s0 σ → vX5_readExpr_26 re' Q' l0 s0 σ := by
  intro l0 s0 σ h
  unfold wX5_readExpr_26 at h
  unfold vX5_readExpr_26
  refine ⟨?_, ?_⟩
  · have h := h.1
    intro e1
    have h := h e1
    exact jaX5_readExpr_37 hre hQ _ _ _ h
  · have h := h.2
    intro e2
    have h := h e2
    exact jaX5_readExpr_37 hre hQ _ _ _ h
set_option maxRecDepth 100000 in
set_option maxHeartbeats 4000000 in
theorem jfX5_readExpr_26 {I : kx_S → Prop} (W : fw_ I [114, 115, 116, 194, 195, 196, 1001]) {re : Nat → Int32 → kx_S → (kx_S → Prop) → Prop} (hre : ∀ {P : kx_S → Prop}, (∀ y0, I y0 → P y0) → ∀ (x0 : Nat) (x1 : Int32) (x2 : kx_S), I x2 → re x0 x1 x2 P) {Q : kx_S → Prop} (hQ : ∀ y0, I y0 → Q y0) : ∀ (l0 : Nat) (s0 : Int32) (σ : kx_S), I σ → vX5_readExpr_26 re Q l0 s0 σ := by
  intro l0 s0 σ i
  unfold vX5_readExpr_26
  refine ⟨?_, ?_⟩
  · intro e1
    exact jfX5_readExpr_37 (I := I) (fw_sub W (by decide)) hre hQ _ _ _ i
  · intro e2
    exact jfX5_readExpr_37 (I := I) (fw_sub W (by decide)) hre hQ _ _ _ i
def vX5_readExpr_89 (re : Nat → Int32 → kx_S → (kx_S → Prop) → Prop) (k48 : Nat → Int32 → Int32 → kx_S → Prop) (Q : kx_S → Prop) (l0 : Nat) (l1 : Int32) (l2 : Int32) (l3 : Int32) (σ : kx_S) : Prop := xt σ l0 = 7 → ∀ a8, xr σ 112 l0 = some a8 → xt σ a8 = 12 → vX10_advance a8 σ (fun σ10 => xt σ10 l0 = 7 → vX5_readTest re l0 l1 σ10 (fun σ12 => ((l3 = 0 → vX5_readExpr_113 re k48 Q l0 l1 l2 (-15) l0 σ12) ∧ (¬ (l3 = 0) → vX5_readExpr_113 re k48 Q l0 l1 l2 (-14) l0 σ12))))
set_option maxRecDepth 100000 in
set_option maxHeartbeats 4000000 in
theorem jcX5_readExpr_89 {re re' : Nat → Int32 → kx_S → (kx_S → Prop) → Prop} (hre : ∀ {P P' P'' : kx_S → Prop}, (∀ y0, P y0 → P' y0 → P'' y0) → ∀ (x0 : Nat) (x1 : Int32) (x2 : kx_S), re x0 x1 x2 P → re' x0 x1 x2 P' → re x0 x1 x2 P'') {k48 k48' k48'' : Nat → Int32 → Int32 → kx_S → Prop} (hk48 : ∀ y0 y1 y2 y3, k48 y0 y1 y2 y3 → k48' y0 y1 y2 y3 → k48'' y0 y1 y2 y3) {Q Q' Q'' : kx_S → Prop} (hQ : ∀ y0, Q y0 → Q' y0 → Q'' y0) : ∀ (l0 : Nat) (l1 : Int32) (l2 : Int32) (l3 : Int32) (σ : kx_S), wX5_readExpr_89 re k48 Q l0 l1 l2 l3 σ → vX5_readExpr_89 re' k48' Q' l0 l1 l2 l3 σ → wX5_readExpr_89 re k48'' Q'' l0 l1 l2 l3 σ := by
  intro l0 l1 l2 l3 σ h v
  unfold wX5_readExpr_89 at h
  unfold vX5_readExpr_89 at v
  unfold wX5_readExpr_89
  refine ⟨h.1, ?_⟩
  have v := v h.1
  have h := h.2
  obtain ⟨a8, e2, h⟩ := h
  refine ⟨a8, e2, ?_⟩
  have v := v a8 e2
  refine ⟨h.1, ?_⟩
  have v := v h.1
  have h := h.2
  refine jcX10_advance ?_ _ _ h v
  intro σ10 h v
  refine ⟨h.1, ?_⟩
  have v := v h.1
  have h := h.2
  refine jcX5_readTest hre ?_ _ _ _ h v
  intro σ12 h v
  refine ⟨?_, ?_⟩
  · have h := h.1
    have v := v.1
    intro e5
    have h := h e5
    have v := v e5
    exact jcX5_readExpr_113 hre hk48 hQ _ _ _ _ _ _ h v
  · have h := h.2
    have v := v.2
    intro e6
    have h := h e6
    have v := v e6
    exact jcX5_readExpr_113 hre hk48 hQ _ _ _ _ _ _ h v
set_option maxRecDepth 100000 in
set_option maxHeartbeats 4000000 in
theorem jaX5_readExpr_89 {re re' : Nat → Int32 → kx_S → (kx_S → Prop) → Prop} (hre : ∀ {P P' : kx_S → Prop}, (∀ y0, P y0 → P' y0) → ∀ (x0 : Nat) (x1 : Int32) (x2 : kx_S), re x0 x1 x2 P → re' x0 x1 x2 P') {k48 k48' : Nat → Int32 → Int32 → kx_S → Prop} (hk48 : ∀ y0 y1 y2 y3, k48 y0 y1 y2 y3 → k48' y0 y1 y2 y3) {Q Q' : kx_S → Prop} (hQ : ∀ y0, Q y0 → Q' y0) : ∀ (l0 : Nat) (l1 : Int32) (l2 : Int32) (l3 : Int32) (σ : kx_S), wX5_readExpr_89 re k48 Q l0 l1 l2 l3 σ → vX5_readExpr_89 re' k48' Q' l0 l1 l2 l3 σ := by
  intro l0 l1 l2 l3 σ h
  unfold wX5_readExpr_89 at h
  unfold vX5_readExpr_89
  intro e1
  have h := h.2
  obtain ⟨a8', e2, h⟩ := h
  intro a8 e3
  have x9 : a8' = a8 := Option.some.inj (e2.symm.trans e3)
  rw [x9] at h
  intro e4
  have h := h.2
  refine jaX10_advance ?_ _ _ h
  intro σ10 h
  intro e5
  have h := h.2
  refine jaX5_readTest hre ?_ _ _ _ h
  intro σ12 h
  refine ⟨?_, ?_⟩
  · have h := h.1
    intro e6
    have h := h e6
    exact jaX5_readExpr_113 hre hk48 hQ _ _ _ _ _ _ h
  · have h := h.2
    intro e7
    have h := h e7
    exact jaX5_readExpr_113 hre hk48 hQ _ _ _ _ _ _ h
set_option maxRecDepth 100000 in
set_option maxHeartbeats 4000000 in
theorem jfX5_readExpr_89 {I : kx_S → Prop} (W : fw_ I [114, 115, 116, 194, 195, 196, 1001]) {re : Nat → Int32 → kx_S → (kx_S → Prop) → Prop} (hre : ∀ {P : kx_S → Prop}, (∀ y0, I y0 → P y0) → ∀ (x0 : Nat) (x1 : Int32) (x2 : kx_S), I x2 → re x0 x1 x2 P) {k48 : Nat → Int32 → Int32 → kx_S → Prop} (hk48 : ∀ y0 y1 y2 y3, I y3 → k48 y0 y1 y2 y3) {Q : kx_S → Prop} (hQ : ∀ y0, I y0 → Q y0) : ∀ (l0 : Nat) (l1 : Int32) (l2 : Int32) (l3 : Int32) (σ : kx_S), I σ → vX5_readExpr_89 re k48 Q l0 l1 l2 l3 σ := by
  intro l0 l1 l2 l3 σ i
  unfold vX5_readExpr_89
  intro e1
  intro a8 e2
  intro e3
  refine jfX10_advance (I := I) (fw_sub W (by decide)) ?_ _ _ i
  intro σ10 iσ10
  intro e4
  refine jfX5_readTest (I := I) (fw_sub W (by decide)) hre ?_ _ _ _ iσ10
  intro σ12 iσ12
  refine ⟨?_, ?_⟩
  · intro e5
    exact jfX5_readExpr_113 (I := I) (fw_sub W (by decide)) hre hk48 hQ _ _ _ _ _ _ iσ12
  · intro e6
    exact jfX5_readExpr_113 (I := I) (fw_sub W (by decide)) hre hk48 hQ _ _ _ _ _ _ iσ12
def vX5_readExpr_48 (re : Nat → Int32 → kx_S → (kx_S → Prop) → Prop) (Q : kx_S → Prop) : Nat → Nat → Int32 → Int32 → kx_S → Prop
  | 0, _, _, _, _ => True
  | n + 1, l0, l1, l2, σ => ((500 ≤ l2 → Q σ) ∧ (¬ (500 ≤ l2) → xt σ l0 = 7 → ((¬ (xi σ 115 l0) = 0 → Q σ) ∧ ((xi σ 115 l0) = 0 → ∀ a18, xr σ 112 l0 = some a18 → xt σ a18 = 12 → vX10_isWord a18 9 σ (fun r21 σ20 => ((¬ r21 = 0 → vX5_readExpr_89 re (vX5_readExpr_48 re Q n) Q l0 l1 l2 r21 σ20) ∧ (r21 = 0 → xt σ20 l0 = 7 → ∀ a25, xr σ20 112 l0 = some a25 → xt σ20 a25 = 12 → vX10_isWord a25 10 σ20 (fun r28 σ27 => ((¬ r28 = 0 → vX5_readExpr_89 re (vX5_readExpr_48 re Q n) Q l0 l1 l2 r21 σ27) ∧ (r28 = 0 → Q σ27))))))))))
set_option maxRecDepth 100000 in
set_option maxHeartbeats 4000000 in
theorem jcX5_readExpr_48 {re re' : Nat → Int32 → kx_S → (kx_S → Prop) → Prop} (hre : ∀ {P P' P'' : kx_S → Prop}, (∀ y0, P y0 → P' y0 → P'' y0) → ∀ (x0 : Nat) (x1 : Int32) (x2 : kx_S), re x0 x1 x2 P → re' x0 x1 x2 P' → re x0 x1 x2 P'') {Q Q' Q'' : kx_S → Prop} (hQ : ∀ y0, Q y0 → Q' y0 → Q'' y0) : ∀ (n : Nat) (l0 : Nat) (l1 : Int32) (l2 : Int32) (σ : kx_S), wX5_readExpr_48 re Q n l0 l1 l2 σ → vX5_readExpr_48 re' Q' n l0 l1 l2 σ → wX5_readExpr_48 re Q'' n l0 l1 l2 σ := by
  intro n
  induction n with
  | zero => intro l0 l1 l2 σ h; exact h.elim
  | succ n ih =>
    intro l0 l1 l2 σ h v
    unfold wX5_readExpr_48 at h
    unfold vX5_readExpr_48 at v
    unfold wX5_readExpr_48
    refine ⟨?_, ?_⟩
    · have h := h.1
      have v := v.1
      intro e1
      have h := h e1
      have v := v e1
      exact hQ _ h v
    · have h := h.2
      have v := v.2
      intro e2
      have h := h e2
      have v := v e2
      refine ⟨h.1, ?_⟩
      have v := v h.1
      have h := h.2
      refine ⟨?_, ?_⟩
      · have h := h.1
        have v := v.1
        intro e4
        have h := h e4
        have v := v e4
        exact hQ _ h v
      · have h := h.2
        have v := v.2
        intro e5
        have h := h e5
        have v := v e5
        obtain ⟨a18, e6, h⟩ := h
        refine ⟨a18, e6, ?_⟩
        have v := v a18 e6
        refine ⟨h.1, ?_⟩
        have v := v h.1
        have h := h.2
        refine jcX10_isWord ?_ _ _ _ h v
        intro r21 σ20 h v
        refine ⟨?_, ?_⟩
        · have h := h.1
          have v := v.1
          intro e8
          have h := h e8
          have v := v e8
          exact jcX5_readExpr_89 hre (k48 := wX5_readExpr_48 re Q n) (k48' := vX5_readExpr_48 re' Q' n) (k48'' := wX5_readExpr_48 re Q'' n) (fun _ _ _ _ h v => ih _ _ _ _ h v) hQ _ _ _ _ _ h v
        · have h := h.2
          have v := v.2
          intro e9
          have h := h e9
          have v := v e9
          refine ⟨h.1, ?_⟩
          have v := v h.1
          have h := h.2
          obtain ⟨a25, e11, h⟩ := h
          refine ⟨a25, e11, ?_⟩
          have v := v a25 e11
          refine ⟨h.1, ?_⟩
          have v := v h.1
          have h := h.2
          refine jcX10_isWord ?_ _ _ _ h v
          intro r28 σ27 h v
          refine ⟨?_, ?_⟩
          · have h := h.1
            have v := v.1
            intro e13
            have h := h e13
            have v := v e13
            exact jcX5_readExpr_89 hre (k48 := wX5_readExpr_48 re Q n) (k48' := vX5_readExpr_48 re' Q' n) (k48'' := wX5_readExpr_48 re Q'' n) (fun _ _ _ _ h v => ih _ _ _ _ h v) hQ _ _ _ _ _ h v
          · have h := h.2
            have v := v.2
            intro e14
            have h := h e14
            have v := v e14
            exact hQ _ h v
set_option maxRecDepth 100000 in
set_option maxHeartbeats 4000000 in
theorem jaX5_readExpr_48 {re re' : Nat → Int32 → kx_S → (kx_S → Prop) → Prop} (hre : ∀ {P P' : kx_S → Prop}, (∀ y0, P y0 → P' y0) → ∀ (x0 : Nat) (x1 : Int32) (x2 : kx_S), re x0 x1 x2 P → re' x0 x1 x2 P') {Q Q' : kx_S → Prop} (hQ : ∀ y0, Q y0 → Q' y0) : ∀ (n m : Nat) (l0 : Nat) (l1 : Int32) (l2 : Int32) (σ : kx_S), wX5_readExpr_48 re Q n l0 l1 l2 σ → vX5_readExpr_48 re' Q' m l0 l1 l2 σ := by
  intro n
  induction n with
  | zero => intro m l0 l1 l2 σ h; exact h.elim
  | succ n ih =>
    intro m l0 l1 l2 σ h
    cases m with
    | zero => exact trivial
    | succ m =>
      unfold wX5_readExpr_48 at h
      unfold vX5_readExpr_48
      refine ⟨?_, ?_⟩
      · have h := h.1
        intro e1
        have h := h e1
        exact hQ _ h
      · have h := h.2
        intro e2
        have h := h e2
        intro e3
        have h := h.2
        refine ⟨?_, ?_⟩
        · have h := h.1
          intro e4
          have h := h e4
          exact hQ _ h
        · have h := h.2
          intro e5
          have h := h e5
          obtain ⟨a18', e6, h⟩ := h
          intro a18 e7
          have x9 : a18' = a18 := Option.some.inj (e6.symm.trans e7)
          rw [x9] at h
          intro e8
          have h := h.2
          refine jaX10_isWord ?_ _ _ _ h
          intro r21 σ20 h
          refine ⟨?_, ?_⟩
          · have h := h.1
            intro e9
            have h := h e9
            exact jaX5_readExpr_89 hre (k48 := wX5_readExpr_48 re Q n) (k48' := vX5_readExpr_48 re' Q' m) (fun _ _ _ _ h => ih m _ _ _ _ h) hQ _ _ _ _ _ h
          · have h := h.2
            intro e10
            have h := h e10
            intro e11
            have h := h.2
            obtain ⟨a25', e12, h⟩ := h
            intro a25 e13
            have x9 : a25' = a25 := Option.some.inj (e12.symm.trans e13)
            rw [x9] at h
            intro e14
            have h := h.2
            refine jaX10_isWord ?_ _ _ _ h
            intro r28 σ27 h
            refine ⟨?_, ?_⟩
            · have h := h.1
              intro e15
              have h := h e15
              exact jaX5_readExpr_89 hre (k48 := wX5_readExpr_48 re Q n) (k48' := vX5_readExpr_48 re' Q' m) (fun _ _ _ _ h => ih m _ _ _ _ h) hQ _ _ _ _ _ h
            · have h := h.2
              intro e16
              have h := h e16
              exact hQ _ h
set_option maxRecDepth 100000 in
set_option maxHeartbeats 4000000 in
theorem jfX5_readExpr_48 {I : kx_S → Prop} (W : fw_ I [114, 115, 116, 194, 195, 196, 1001]) {re : Nat → Int32 → kx_S → (kx_S → Prop) → Prop} (hre : ∀ {P : kx_S → Prop}, (∀ y0, I y0 → P y0) → ∀ (x0 : Nat) (x1 : Int32) (x2 : kx_S), I x2 → re x0 x1 x2 P) {Q : kx_S → Prop} (hQ : ∀ y0, I y0 → Q y0) : ∀ (n : Nat) (l0 : Nat) (l1 : Int32) (l2 : Int32) (σ : kx_S), I σ → vX5_readExpr_48 re Q n l0 l1 l2 σ := by
  intro n
  induction n with
  | zero => intro l0 l1 l2 σ i; exact trivial
  | succ n ih =>
    intro l0 l1 l2 σ i
    unfold vX5_readExpr_48
    refine ⟨?_, ?_⟩
    · intro e1
      exact hQ _ i
    · intro e2
      intro e3
      refine ⟨?_, ?_⟩
      · intro e4
        exact hQ _ i
      · intro e5
        intro a18 e6
        intro e7
        refine jfX10_isWord (I := I) (fw_sub W (by decide)) ?_ _ _ _ i
        intro r21 σ20 iσ20
        refine ⟨?_, ?_⟩
        · intro e8
          exact jfX5_readExpr_89 (I := I) (fw_sub W (by decide)) hre (k48 := vX5_readExpr_48 re Q n) (fun _ _ _ _ i => ih _ _ _ _ i) hQ _ _ _ _ _ iσ20
        · intro e9
          intro e10
          intro a25 e11
          intro e12
          refine jfX10_isWord (I := I) (fw_sub W (by decide)) ?_ _ _ _ iσ20
          intro r28 σ27 iσ27
          refine ⟨?_, ?_⟩
          · intro e13
            exact jfX5_readExpr_89 (I := I) (fw_sub W (by decide)) hre (k48 := vX5_readExpr_48 re Q n) (fun _ _ _ _ i => ih _ _ _ _ i) hQ _ _ _ _ _ iσ27
          · intro e14
            exact hQ _ iσ27
def vX5_readExpr_b (re : Nat → Int32 → kx_S → (kx_S → Prop) → Prop) (l0 : Nat) (l1 : Int32) (σ : kx_S) (Q : kx_S → Prop) : Prop := ((l1 < 8 → xt σ l0 = 7 → vX5_readTest re l0 l1 σ (fun σ32 => ∀ j, vX5_readExpr_48 re Q j l0 l1 0 σ32)) ∧ (¬ (l1 < 8) → xt σ l0 = 7 → ∀ a36, xr σ 112 l0 = some a36 → xt σ a36 = 12 → vX10_isWord a36 11 σ (fun r39 σ38 => ((r39 = 0 → xt σ38 l0 = 7 → vX5_faultOfPart l0 σ38 (fun r43 σ42 => vX5_readExpr_26 re Q l0 r43 σ42)) ∧ (¬ (r39 = 0) → vX5_readExpr_26 re Q l0 0 σ38)))))
set_option maxRecDepth 100000 in
set_option maxHeartbeats 4000000 in
theorem jcX5_readExpr_b {re re' : Nat → Int32 → kx_S → (kx_S → Prop) → Prop} (hre : ∀ {P P' P'' : kx_S → Prop}, (∀ y0, P y0 → P' y0 → P'' y0) → ∀ (x0 : Nat) (x1 : Int32) (x2 : kx_S), re x0 x1 x2 P → re' x0 x1 x2 P' → re x0 x1 x2 P'') {Q Q' Q'' : kx_S → Prop} (hQ : ∀ y0, Q y0 → Q' y0 → Q'' y0) : ∀ (l0 : Nat) (l1 : Int32) (σ : kx_S), wX5_readExpr_b re l0 l1 σ Q → vX5_readExpr_b re' l0 l1 σ Q' → wX5_readExpr_b re l0 l1 σ Q'' := by
  intro l0 l1 σ h v
  unfold wX5_readExpr_b at h
  unfold vX5_readExpr_b at v
  unfold wX5_readExpr_b
  refine ⟨?_, ?_⟩
  · have h := h.1
    have v := v.1
    intro e1
    have h := h e1
    have v := v e1
    refine ⟨h.1, ?_⟩
    have v := v h.1
    have h := h.2
    refine jcX5_readTest hre ?_ _ _ _ h v
    intro σ32 h v
    obtain ⟨j, h⟩ := h
    refine ⟨j, ?_⟩
    have v := v j
    exact jcX5_readExpr_48 hre hQ _ _ _ _ _ h v
  · have h := h.2
    have v := v.2
    intro e3
    have h := h e3
    have v := v e3
    refine ⟨h.1, ?_⟩
    have v := v h.1
    have h := h.2
    obtain ⟨a36, e5, h⟩ := h
    refine ⟨a36, e5, ?_⟩
    have v := v a36 e5
    refine ⟨h.1, ?_⟩
    have v := v h.1
    have h := h.2
    refine jcX10_isWord ?_ _ _ _ h v
    intro r39 σ38 h v
    refine ⟨?_, ?_⟩
    · have h := h.1
      have v := v.1
      intro e7
      have h := h e7
      have v := v e7
      refine ⟨h.1, ?_⟩
      have v := v h.1
      have h := h.2
      refine jcX5_faultOfPart ?_ _ _ h v
      intro r43 σ42 h v
      exact jcX5_readExpr_26 hre hQ _ _ _ h v
    · have h := h.2
      have v := v.2
      intro e9
      have h := h e9
      have v := v e9
      exact jcX5_readExpr_26 hre hQ _ _ _ h v
set_option maxRecDepth 100000 in
set_option maxHeartbeats 4000000 in
theorem jaX5_readExpr_b {re re' : Nat → Int32 → kx_S → (kx_S → Prop) → Prop} (hre : ∀ {P P' : kx_S → Prop}, (∀ y0, P y0 → P' y0) → ∀ (x0 : Nat) (x1 : Int32) (x2 : kx_S), re x0 x1 x2 P → re' x0 x1 x2 P') {Q Q' : kx_S → Prop} (hQ : ∀ y0, Q y0 → Q' y0) : ∀ (l0 : Nat) (l1 : Int32) (σ : kx_S), wX5_readExpr_b re l0 l1 σ Q → vX5_readExpr_b re' l0 l1 σ Q' := by
  intro l0 l1 σ h
  unfold wX5_readExpr_b at h
  unfold vX5_readExpr_b
  refine ⟨?_, ?_⟩
  · have h := h.1
    intro e1
    have h := h e1
    intro e2
    have h := h.2
    refine jaX5_readTest hre ?_ _ _ _ h
    intro σ32 h
    obtain ⟨j, h⟩ := h
    intro j9
    exact jaX5_readExpr_48 hre hQ _ j9 _ _ _ _ h
  · have h := h.2
    intro e3
    have h := h e3
    intro e4
    have h := h.2
    obtain ⟨a36', e5, h⟩ := h
    intro a36 e6
    have x9 : a36' = a36 := Option.some.inj (e5.symm.trans e6)
    rw [x9] at h
    intro e7
    have h := h.2
    refine jaX10_isWord ?_ _ _ _ h
    intro r39 σ38 h
    refine ⟨?_, ?_⟩
    · have h := h.1
      intro e8
      have h := h e8
      intro e9
      have h := h.2
      refine jaX5_faultOfPart ?_ _ _ h
      intro r43 σ42 h
      exact jaX5_readExpr_26 hre hQ _ _ _ h
    · have h := h.2
      intro e10
      have h := h e10
      exact jaX5_readExpr_26 hre hQ _ _ _ h
set_option maxRecDepth 100000 in
set_option maxHeartbeats 4000000 in
theorem jfX5_readExpr_b {I : kx_S → Prop} (W : fw_ I [114, 115, 116, 194, 195, 196, 1001]) {re : Nat → Int32 → kx_S → (kx_S → Prop) → Prop} (hre : ∀ {P : kx_S → Prop}, (∀ y0, I y0 → P y0) → ∀ (x0 : Nat) (x1 : Int32) (x2 : kx_S), I x2 → re x0 x1 x2 P) {Q : kx_S → Prop} (hQ : ∀ y0, I y0 → Q y0) : ∀ (l0 : Nat) (l1 : Int32) (σ : kx_S), I σ → vX5_readExpr_b re l0 l1 σ Q := by
  intro l0 l1 σ i
  unfold vX5_readExpr_b
  refine ⟨?_, ?_⟩
  · intro e1
    intro e2
    refine jfX5_readTest (I := I) (fw_sub W (by decide)) hre ?_ _ _ _ i
    intro σ32 iσ32
    intro j
    exact jfX5_readExpr_48 (I := I) (fw_sub W (by decide)) hre hQ _ _ _ _ _ iσ32
  · intro e3
    intro e4
    intro a36 e5
    intro e6
    refine jfX10_isWord (I := I) (fw_sub W (by decide)) ?_ _ _ _ i
    intro r39 σ38 iσ38
    refine ⟨?_, ?_⟩
    · intro e7
      intro e8
      refine jfX5_faultOfPart (I := I) (fw_sub W (by decide)) ?_ _ _ iσ38
      intro r43 σ42 iσ42
      exact jfX5_readExpr_26 (I := I) (fw_sub W (by decide)) hre hQ _ _ _ iσ42
    · intro e9
      exact jfX5_readExpr_26 (I := I) (fw_sub W (by decide)) hre hQ _ _ _ iσ38
def vX5_readExpr : Nat → Nat → Int32 → kx_S → (kx_S → Prop) → Prop
  | 0, _, _, _, _ => True
  | D + 1, b, a, σ, Q => vX5_readExpr_b (vX5_readExpr D) b a σ Q
theorem jcX5_readExpr : ∀ {P P' P'' : kx_S → Prop}, (∀ u, P u → P' u → P'' u) → ∀ (D : Nat) (b : Nat) (a : Int32) (σ : kx_S), wX5_readExpr D b a σ P → vX5_readExpr D b a σ P' → wX5_readExpr D b a σ P'' := by
  intro P P' P'' hP D
  induction D generalizing P P' P'' with
  | zero => intro b a σ h; exact h.elim
  | succ D ih => intro b a σ h v; exact jcX5_readExpr_b (re := wX5_readExpr D) (re' := vX5_readExpr D) (fun h9 => ih h9) hP _ _ _ h v
theorem jaX5_readExpr : ∀ {P P' : kx_S → Prop}, (∀ u, P u → P' u) → ∀ (D : Nat) (b : Nat) (a : Int32) (σ : kx_S), wX5_readExpr D b a σ P → vX5_readExpr D b a σ P' := by
  intro P P' hP D
  induction D generalizing P P' with
  | zero => intro b a σ h; exact h.elim
  | succ D ih => intro b a σ h; exact jaX5_readExpr_b (re := wX5_readExpr D) (re' := vX5_readExpr D) (fun h9 => ih h9) hP _ _ _ h
theorem jfX5_readExpr {I : kx_S → Prop} (W : fw_ I [114, 115, 116, 194, 195, 196, 1001]) : ∀ {P : kx_S → Prop}, (∀ u, I u → P u) → ∀ (D : Nat) (b : Nat) (a : Int32) (σ : kx_S), I σ → vX5_readExpr D b a σ P := by
  intro P hP D
  induction D generalizing P with
  | zero => intro b a σ i; exact trivial
  | succ D ih => intro b a σ i; exact jfX5_readExpr_b (I := I) (fw_sub W (by decide)) (re := vX5_readExpr D) (fun h9 => ih h9) hP _ _ _ i
def vX5_readRule_74 (Q : kx_S → Prop) (s0 : Int32) (s1 : Nat) (σ : kx_S) : Prop := xt σ s1 = 7 → vX5_put s1 s0 σ (fun σ1 => Q σ1)
set_option maxRecDepth 100000 in
set_option maxHeartbeats 4000000 in
theorem jcX5_readRule_74 {Q Q' Q'' : kx_S → Prop} (hQ : ∀ y0, Q y0 → Q' y0 → Q'' y0) : ∀ (s0 : Int32) (s1 : Nat) (σ : kx_S), wX5_readRule_74 Q s0 s1 σ → vX5_readRule_74 Q' s0 s1 σ → wX5_readRule_74 Q'' s0 s1 σ := by
  intro s0 s1 σ h v
  unfold wX5_readRule_74 at h
  unfold vX5_readRule_74 at v
  unfold wX5_readRule_74
  refine ⟨h.1, ?_⟩
  have v := v h.1
  have h := h.2
  refine jcX5_put ?_ _ _ _ h v
  intro σ1 h v
  exact hQ _ h v
set_option maxRecDepth 100000 in
set_option maxHeartbeats 4000000 in
theorem jaX5_readRule_74 {Q Q' : kx_S → Prop} (hQ : ∀ y0, Q y0 → Q' y0) : ∀ (s0 : Int32) (s1 : Nat) (σ : kx_S), wX5_readRule_74 Q s0 s1 σ → vX5_readRule_74 Q' s0 s1 σ := by
  intro s0 s1 σ h
  unfold wX5_readRule_74 at h
  unfold vX5_readRule_74
  intro e1
  have h := h.2
  refine jaX5_put ?_ _ _ _ h
  intro σ1 h
  exact hQ _ h
set_option maxRecDepth 100000 in
set_option maxHeartbeats 4000000 in
theorem jfX5_readRule_74 {I : kx_S → Prop} (W : fw_ I [114, 1001]) {Q : kx_S → Prop} (hQ : ∀ y0, I y0 → Q y0) : ∀ (s0 : Int32) (s1 : Nat) (σ : kx_S), I σ → vX5_readRule_74 Q s0 s1 σ := by
  intro s0 s1 σ i
  unfold vX5_readRule_74
  intro e1
  refine jfX5_put (I := I) (fw_sub W (by decide)) ?_ _ _ _ i
  intro σ1 iσ1
  exact hQ _ iσ1
def vX5_readRule_32 (Q : kx_S → Prop) (l0 : Nat) (l1 : Int32) (l2 : Int32) (σ : kx_S) : Prop := ((¬ l1 = 12 → xt σ l0 = 7 → ∀ a5, xr σ 112 l0 = some a5 → xt σ a5 = 12 → vX10_advance a5 σ (fun σ7 => xt σ7 l0 = 7 → vX5_readExpr 10 l0 0 σ7 (fun σ9 => xt σ9 l0 = 7 → vX5_pass l0 59 σ9 (fun σ11 => ((l2 = 0 → vX5_readRule_74 Q (-18) l0 σ11) ∧ (¬ (l2 = 0) → vX5_readRule_74 Q (-17) l0 σ11)))))) ∧ (l1 = 12 → xt σ l0 = 7 → vX5_fail l0 2 σ (fun σ14 => Q σ14)))
set_option maxRecDepth 100000 in
set_option maxHeartbeats 4000000 in
theorem jcX5_readRule_32 {Q Q' Q'' : kx_S → Prop} (hQ : ∀ y0, Q y0 → Q' y0 → Q'' y0) : ∀ (l0 : Nat) (l1 : Int32) (l2 : Int32) (σ : kx_S), wX5_readRule_32 Q l0 l1 l2 σ → vX5_readRule_32 Q' l0 l1 l2 σ → wX5_readRule_32 Q'' l0 l1 l2 σ := by
  intro l0 l1 l2 σ h v
  unfold wX5_readRule_32 at h
  unfold vX5_readRule_32 at v
  unfold wX5_readRule_32
  refine ⟨?_, ?_⟩
  · have h := h.1
    have v := v.1
    intro e1
    have h := h e1
    have v := v e1
    refine ⟨h.1, ?_⟩
    have v := v h.1
    have h := h.2
    obtain ⟨a5, e3, h⟩ := h
    refine ⟨a5, e3, ?_⟩
    have v := v a5 e3
    refine ⟨h.1, ?_⟩
    have v := v h.1
    have h := h.2
    refine jcX10_advance ?_ _ _ h v
    intro σ7 h v
    refine ⟨h.1, ?_⟩
    have v := v h.1
    have h := h.2
    refine jcX5_readExpr ?_ _ _ _ _ h v
    intro σ9 h v
    refine ⟨h.1, ?_⟩
    have v := v h.1
    have h := h.2
    refine jcX5_pass ?_ _ _ _ h v
    intro σ11 h v
    refine ⟨?_, ?_⟩
    · have h := h.1
      have v := v.1
      intro e7
      have h := h e7
      have v := v e7
      exact jcX5_readRule_74 hQ _ _ _ h v
    · have h := h.2
      have v := v.2
      intro e8
      have h := h e8
      have v := v e8
      exact jcX5_readRule_74 hQ _ _ _ h v
  · have h := h.2
    have v := v.2
    intro e9
    have h := h e9
    have v := v e9
    refine ⟨h.1, ?_⟩
    have v := v h.1
    have h := h.2
    refine jcX5_fail ?_ _ _ _ h v
    intro σ14 h v
    exact hQ _ h v
set_option maxRecDepth 100000 in
set_option maxHeartbeats 4000000 in
theorem jaX5_readRule_32 {Q Q' : kx_S → Prop} (hQ : ∀ y0, Q y0 → Q' y0) : ∀ (l0 : Nat) (l1 : Int32) (l2 : Int32) (σ : kx_S), wX5_readRule_32 Q l0 l1 l2 σ → vX5_readRule_32 Q' l0 l1 l2 σ := by
  intro l0 l1 l2 σ h
  unfold wX5_readRule_32 at h
  unfold vX5_readRule_32
  refine ⟨?_, ?_⟩
  · have h := h.1
    intro e1
    have h := h e1
    intro e2
    have h := h.2
    obtain ⟨a5', e3, h⟩ := h
    intro a5 e4
    have x9 : a5' = a5 := Option.some.inj (e3.symm.trans e4)
    rw [x9] at h
    intro e5
    have h := h.2
    refine jaX10_advance ?_ _ _ h
    intro σ7 h
    intro e6
    have h := h.2
    refine jaX5_readExpr ?_ _ _ _ _ h
    intro σ9 h
    intro e7
    have h := h.2
    refine jaX5_pass ?_ _ _ _ h
    intro σ11 h
    refine ⟨?_, ?_⟩
    · have h := h.1
      intro e8
      have h := h e8
      exact jaX5_readRule_74 hQ _ _ _ h
    · have h := h.2
      intro e9
      have h := h e9
      exact jaX5_readRule_74 hQ _ _ _ h
  · have h := h.2
    intro e10
    have h := h e10
    intro e11
    have h := h.2
    refine jaX5_fail ?_ _ _ _ h
    intro σ14 h
    exact hQ _ h
set_option maxRecDepth 100000 in
set_option maxHeartbeats 4000000 in
theorem jfX5_readRule_32 {I : kx_S → Prop} (W : fw_ I [114, 115, 116, 194, 195, 196, 1001]) {Q : kx_S → Prop} (hQ : ∀ y0, I y0 → Q y0) : ∀ (l0 : Nat) (l1 : Int32) (l2 : Int32) (σ : kx_S), I σ → vX5_readRule_32 Q l0 l1 l2 σ := by
  intro l0 l1 l2 σ i
  unfold vX5_readRule_32
  refine ⟨?_, ?_⟩
  · intro e1
    intro e2
    intro a5 e3
    intro e4
    refine jfX10_advance (I := I) (fw_sub W (by decide)) ?_ _ _ i
    intro σ7 iσ7
    intro e5
    refine jfX5_readExpr (I := I) (fw_sub W (by decide)) ?_ _ _ _ _ iσ7
    intro σ9 iσ9
    intro e6
    refine jfX5_pass (I := I) (fw_sub W (by decide)) ?_ _ _ _ iσ9
    intro σ11 iσ11
    refine ⟨?_, ?_⟩
    · intro e7
      exact jfX5_readRule_74 (I := I) (fw_sub W (by decide)) hQ _ _ _ iσ11
    · intro e8
      exact jfX5_readRule_74 (I := I) (fw_sub W (by decide)) hQ _ _ _ iσ11
  · intro e9
    intro e10
    refine jfX5_fail (I := I) (fw_sub W (by decide)) ?_ _ _ _ i
    intro σ14 iσ14
    exact hQ _ iσ14
def vX5_readRule (l0 : Nat) (l1 : Int32) (σ : kx_S) (Q : kx_S → Prop) : Prop := xt σ l0 = 7 → ∀ a17, xr σ 112 l0 = some a17 → xt σ a17 = 12 → vX10_isWord a17 8 σ (fun r20 σ19 => ((¬ r20 = 0 → vX5_readRule_32 Q l0 l1 r20 σ19) ∧ (r20 = 0 → xt σ19 l0 = 7 → ∀ a24, xr σ19 112 l0 = some a24 → xt σ19 a24 = 12 → vX10_isWord a24 7 σ19 (fun r27 σ26 => ((¬ r27 = 0 → vX5_readRule_32 Q l0 l1 r20 σ26) ∧ (r27 = 0 → xt σ26 l0 = 7 → vX5_fail l0 1 σ26 (fun σ30 => Q σ30)))))))
set_option maxRecDepth 100000 in
set_option maxHeartbeats 4000000 in
theorem jcX5_readRule {Q Q' Q'' : kx_S → Prop} (hQ : ∀ y0, Q y0 → Q' y0 → Q'' y0) : ∀ (l0 : Nat) (l1 : Int32) (σ : kx_S), wX5_readRule l0 l1 σ Q → vX5_readRule l0 l1 σ Q' → wX5_readRule l0 l1 σ Q'' := by
  intro l0 l1 σ h v
  unfold wX5_readRule at h
  unfold vX5_readRule at v
  unfold wX5_readRule
  refine ⟨h.1, ?_⟩
  have v := v h.1
  have h := h.2
  obtain ⟨a17, e2, h⟩ := h
  refine ⟨a17, e2, ?_⟩
  have v := v a17 e2
  refine ⟨h.1, ?_⟩
  have v := v h.1
  have h := h.2
  refine jcX10_isWord ?_ _ _ _ h v
  intro r20 σ19 h v
  refine ⟨?_, ?_⟩
  · have h := h.1
    have v := v.1
    intro e4
    have h := h e4
    have v := v e4
    exact jcX5_readRule_32 hQ _ _ _ _ h v
  · have h := h.2
    have v := v.2
    intro e5
    have h := h e5
    have v := v e5
    refine ⟨h.1, ?_⟩
    have v := v h.1
    have h := h.2
    obtain ⟨a24, e7, h⟩ := h
    refine ⟨a24, e7, ?_⟩
    have v := v a24 e7
    refine ⟨h.1, ?_⟩
    have v := v h.1
    have h := h.2
    refine jcX10_isWord ?_ _ _ _ h v
    intro r27 σ26 h v
    refine ⟨?_, ?_⟩
    · have h := h.1
      have v := v.1
      intro e9
      have h := h e9
      have v := v e9
      exact jcX5_readRule_32 hQ _ _ _ _ h v
    · have h := h.2
      have v := v.2
      intro e10
      have h := h e10
      have v := v e10
      refine ⟨h.1, ?_⟩
      have v := v h.1
      have h := h.2
      refine jcX5_fail ?_ _ _ _ h v
      intro σ30 h v
      exact hQ _ h v
set_option maxRecDepth 100000 in
set_option maxHeartbeats 4000000 in
theorem jaX5_readRule {Q Q' : kx_S → Prop} (hQ : ∀ y0, Q y0 → Q' y0) : ∀ (l0 : Nat) (l1 : Int32) (σ : kx_S), wX5_readRule l0 l1 σ Q → vX5_readRule l0 l1 σ Q' := by
  intro l0 l1 σ h
  unfold wX5_readRule at h
  unfold vX5_readRule
  intro e1
  have h := h.2
  obtain ⟨a17', e2, h⟩ := h
  intro a17 e3
  have x9 : a17' = a17 := Option.some.inj (e2.symm.trans e3)
  rw [x9] at h
  intro e4
  have h := h.2
  refine jaX10_isWord ?_ _ _ _ h
  intro r20 σ19 h
  refine ⟨?_, ?_⟩
  · have h := h.1
    intro e5
    have h := h e5
    exact jaX5_readRule_32 hQ _ _ _ _ h
  · have h := h.2
    intro e6
    have h := h e6
    intro e7
    have h := h.2
    obtain ⟨a24', e8, h⟩ := h
    intro a24 e9
    have x9 : a24' = a24 := Option.some.inj (e8.symm.trans e9)
    rw [x9] at h
    intro e10
    have h := h.2
    refine jaX10_isWord ?_ _ _ _ h
    intro r27 σ26 h
    refine ⟨?_, ?_⟩
    · have h := h.1
      intro e11
      have h := h e11
      exact jaX5_readRule_32 hQ _ _ _ _ h
    · have h := h.2
      intro e12
      have h := h e12
      intro e13
      have h := h.2
      refine jaX5_fail ?_ _ _ _ h
      intro σ30 h
      exact hQ _ h
set_option maxRecDepth 100000 in
set_option maxHeartbeats 4000000 in
theorem jfX5_readRule {I : kx_S → Prop} (W : fw_ I [114, 115, 116, 194, 195, 196, 1001]) {Q : kx_S → Prop} (hQ : ∀ y0, I y0 → Q y0) : ∀ (l0 : Nat) (l1 : Int32) (σ : kx_S), I σ → vX5_readRule l0 l1 σ Q := by
  intro l0 l1 σ i
  unfold vX5_readRule
  intro e1
  intro a17 e2
  intro e3
  refine jfX10_isWord (I := I) (fw_sub W (by decide)) ?_ _ _ _ i
  intro r20 σ19 iσ19
  refine ⟨?_, ?_⟩
  · intro e4
    exact jfX5_readRule_32 (I := I) (fw_sub W (by decide)) hQ _ _ _ _ iσ19
  · intro e5
    intro e6
    intro a24 e7
    intro e8
    refine jfX10_isWord (I := I) (fw_sub W (by decide)) ?_ _ _ _ iσ19
    intro r27 σ26 iσ26
    refine ⟨?_, ?_⟩
    · intro e9
      exact jfX5_readRule_32 (I := I) (fw_sub W (by decide)) hQ _ _ _ _ iσ26
    · intro e10
      intro e11
      refine jfX5_fail (I := I) (fw_sub W (by decide)) ?_ _ _ _ iσ26
      intro σ30 iσ30
      exact hQ _ iσ30
def vX5_readText_25 (Q : kx_S → Prop) : Nat → Nat → Int32 → kx_S → Prop
  | 0, _, _, _ => True
  | n + 1, l0, l2, σ => ((12 < l2 → Q σ) ∧ (¬ (12 < l2) → xt σ l0 = 7 → ∀ a3, xr σ 112 l0 = some a3 → xt σ a3 = 12 → (((xi σ 196 a3) = 0 → Q σ) ∧ (¬ ((xi σ 196 a3) = 0) → ((¬ (xi σ 115 l0) = 0 → Q σ) ∧ ((xi σ 115 l0) = 0 → vX5_readRule l0 l2 σ (fun σ8 => ∀ v9 : Int32, v9 = l2 + 1 → vX5_readText_25 Q n l0 v9 σ8)))))))
set_option maxRecDepth 100000 in
set_option maxHeartbeats 4000000 in
theorem jcX5_readText_25 {Q Q' Q'' : kx_S → Prop} (hQ : ∀ y0, Q y0 → Q' y0 → Q'' y0) : ∀ (n : Nat) (l0 : Nat) (l2 : Int32) (σ : kx_S), wX5_readText_25 Q n l0 l2 σ → vX5_readText_25 Q' n l0 l2 σ → wX5_readText_25 Q'' n l0 l2 σ := by
  intro n
  induction n with
  | zero => intro l0 l2 σ h; exact h.elim
  | succ n ih =>
    intro l0 l2 σ h v
    unfold wX5_readText_25 at h
    unfold vX5_readText_25 at v
    unfold wX5_readText_25
    refine ⟨?_, ?_⟩
    · have h := h.1
      have v := v.1
      intro e1
      have h := h e1
      have v := v e1
      exact hQ _ h v
    · have h := h.2
      have v := v.2
      intro e2
      have h := h e2
      have v := v e2
      refine ⟨h.1, ?_⟩
      have v := v h.1
      have h := h.2
      obtain ⟨a3, e4, h⟩ := h
      refine ⟨a3, e4, ?_⟩
      have v := v a3 e4
      refine ⟨h.1, ?_⟩
      have v := v h.1
      have h := h.2
      refine ⟨?_, ?_⟩
      · have h := h.1
        have v := v.1
        intro e6
        have h := h e6
        have v := v e6
        exact hQ _ h v
      · have h := h.2
        have v := v.2
        intro e7
        have h := h e7
        have v := v e7
        refine ⟨?_, ?_⟩
        · have h := h.1
          have v := v.1
          intro e8
          have h := h e8
          have v := v e8
          exact hQ _ h v
        · have h := h.2
          have v := v.2
          intro e9
          have h := h e9
          have v := v e9
          refine jcX5_readRule ?_ _ _ _ h v
          intro σ8 h v
          intro v9 e10
          have h := h v9 e10
          have v := v v9 e10
          exact ih _ _ _ h v
set_option maxRecDepth 100000 in
set_option maxHeartbeats 4000000 in
theorem jaX5_readText_25 {Q Q' : kx_S → Prop} (hQ : ∀ y0, Q y0 → Q' y0) : ∀ (n m : Nat) (l0 : Nat) (l2 : Int32) (σ : kx_S), wX5_readText_25 Q n l0 l2 σ → vX5_readText_25 Q' m l0 l2 σ := by
  intro n
  induction n with
  | zero => intro m l0 l2 σ h; exact h.elim
  | succ n ih =>
    intro m l0 l2 σ h
    cases m with
    | zero => exact trivial
    | succ m =>
      unfold wX5_readText_25 at h
      unfold vX5_readText_25
      refine ⟨?_, ?_⟩
      · have h := h.1
        intro e1
        have h := h e1
        exact hQ _ h
      · have h := h.2
        intro e2
        have h := h e2
        intro e3
        have h := h.2
        obtain ⟨a3', e4, h⟩ := h
        intro a3 e5
        have x9 : a3' = a3 := Option.some.inj (e4.symm.trans e5)
        rw [x9] at h
        intro e6
        have h := h.2
        refine ⟨?_, ?_⟩
        · have h := h.1
          intro e7
          have h := h e7
          exact hQ _ h
        · have h := h.2
          intro e8
          have h := h e8
          refine ⟨?_, ?_⟩
          · have h := h.1
            intro e9
            have h := h e9
            exact hQ _ h
          · have h := h.2
            intro e10
            have h := h e10
            refine jaX5_readRule ?_ _ _ _ h
            intro σ8 h
            intro v9 e11
            have h := h v9 e11
            exact ih m _ _ _ h
set_option maxRecDepth 100000 in
set_option maxHeartbeats 4000000 in
theorem jfX5_readText_25 {I : kx_S → Prop} (W : fw_ I [114, 115, 116, 194, 195, 196, 1001]) {Q : kx_S → Prop} (hQ : ∀ y0, I y0 → Q y0) : ∀ (n : Nat) (l0 : Nat) (l2 : Int32) (σ : kx_S), I σ → vX5_readText_25 Q n l0 l2 σ := by
  intro n
  induction n with
  | zero => intro l0 l2 σ i; exact trivial
  | succ n ih =>
    intro l0 l2 σ i
    unfold vX5_readText_25
    refine ⟨?_, ?_⟩
    · intro e1
      exact hQ _ i
    · intro e2
      intro e3
      intro a3 e4
      intro e5
      refine ⟨?_, ?_⟩
      · intro e6
        exact hQ _ i
      · intro e7
        refine ⟨?_, ?_⟩
        · intro e8
          exact hQ _ i
        · intro e9
          refine jfX5_readRule (I := I) (fw_sub W (by decide)) ?_ _ _ _ i
          intro σ8 iσ8
          intro v9 e10
          exact ih _ _ _ iσ8
def vX5_readText (l0 : Nat) (l1 : Int32) (σ : kx_S) (Q : kx_S → Prop) : Prop := xt σ l0 = 7 → ∀ σ11, σ11 = xsi σ 114 l0 0 → ∀ σ13, σ13 = xsi σ11 115 l0 0 → ∀ σ15, σ15 = xsi σ13 116 l0 (-1) → ∀ a17, xr σ15 112 l0 = some a17 → xt σ15 a17 = 12 → vX10_openText a17 l1 σ15 (fun σ19 => ∀ j, vX5_readText_25 Q j l0 0 σ19)
set_option maxRecDepth 100000 in
set_option maxHeartbeats 4000000 in
theorem jcX5_readText {Q Q' Q'' : kx_S → Prop} (hQ : ∀ y0, Q y0 → Q' y0 → Q'' y0) : ∀ (l0 : Nat) (l1 : Int32) (σ : kx_S), wX5_readText l0 l1 σ Q → vX5_readText l0 l1 σ Q' → wX5_readText l0 l1 σ Q'' := by
  intro l0 l1 σ h v
  unfold wX5_readText at h
  unfold vX5_readText at v
  unfold wX5_readText
  refine ⟨h.1, ?_⟩
  have v := v h.1
  have h := h.2
  intro σ11 e2
  have h := h σ11 e2
  have v := v σ11 e2
  intro σ13 e3
  have h := h σ13 e3
  have v := v σ13 e3
  intro σ15 e4
  have h := h σ15 e4
  have v := v σ15 e4
  obtain ⟨a17, e5, h⟩ := h
  refine ⟨a17, e5, ?_⟩
  have v := v a17 e5
  refine ⟨h.1, ?_⟩
  have v := v h.1
  have h := h.2
  refine jcX10_openText ?_ _ _ _ h v
  intro σ19 h v
  obtain ⟨j, h⟩ := h
  refine ⟨j, ?_⟩
  have v := v j
  exact jcX5_readText_25 hQ _ _ _ _ h v
set_option maxRecDepth 100000 in
set_option maxHeartbeats 4000000 in
theorem jaX5_readText {Q Q' : kx_S → Prop} (hQ : ∀ y0, Q y0 → Q' y0) : ∀ (l0 : Nat) (l1 : Int32) (σ : kx_S), wX5_readText l0 l1 σ Q → vX5_readText l0 l1 σ Q' := by
  intro l0 l1 σ h
  unfold wX5_readText at h
  unfold vX5_readText
  intro e1
  have h := h.2
  intro σ11 e2
  have h := h σ11 e2
  intro σ13 e3
  have h := h σ13 e3
  intro σ15 e4
  have h := h σ15 e4
  obtain ⟨a17', e5, h⟩ := h
  intro a17 e6
  have x9 : a17' = a17 := Option.some.inj (e5.symm.trans e6)
  rw [x9] at h
  intro e7
  have h := h.2
  refine jaX10_openText ?_ _ _ _ h
  intro σ19 h
  obtain ⟨j, h⟩ := h
  intro j9
  exact jaX5_readText_25 hQ _ j9 _ _ _ h
set_option maxRecDepth 100000 in
set_option maxHeartbeats 4000000 in
theorem jfX5_readText {I : kx_S → Prop} (W : fw_ I [114, 115, 116, 193, 194, 195, 196, 1001]) {Q : kx_S → Prop} (hQ : ∀ y0, I y0 → Q y0) : ∀ (l0 : Nat) (l1 : Int32) (σ : kx_S), I σ → vX5_readText l0 l1 σ Q := by
  intro l0 l1 σ i
  unfold vX5_readText
  intro e1
  intro σ11 e2
  have iσ11 : I σ11 := by rw [e2]; exact ((W _ i).1 114 (by decide)).1 _ _
  intro σ13 e3
  have iσ13 : I σ13 := by rw [e3]; exact ((W _ iσ11).1 115 (by decide)).1 _ _
  intro σ15 e4
  have iσ15 : I σ15 := by rw [e4]; exact ((W _ iσ13).1 116 (by decide)).1 _ _
  intro a17 e5
  intro e6
  refine jfX10_openText (I := I) (fw_sub W (by decide)) ?_ _ _ _ iσ15
  intro σ19 iσ19
  intro j
  exact jfX5_readText_25 (I := I) (fw_sub W (by decide)) hQ _ _ _ _ iσ19
