/-! (g) mills -/
def mt_b (a : ra_T) (o x : Nat) : Bool := decide (a.1 35 x = a.1 48 o) && decide (a.1 49 o ≤ a.1 36 x)
theorem mt_T {a : ra_T} {o x : Nat} : mt_b a o x = true ↔ a.1 35 x = a.1 48 o ∧ a.1 49 o ≤ a.1 36 x := by
  unfold mt_b
  rw [Bool.and_eq_true, decide_eq_true_iff, decide_eq_true_iff]
def a_sawn (a : ra_T) (r o x : Nat) : ra_T := fs_ (fs_ (fs_ (fs_ (a_drop a x (120 + r)) 38 x 3) 42 x (a.1 6 0)) 6 0 (a.1 6 0 + a.1 36 x)) 50 o (a.1 50 o - 1)
def a_saw1 (a : ra_T) (r o : Nat) : Option ra_T := if a.1 50 o ≤ 0 then none else ((a.2 (120 + r)).find? (mt_b a o)).map (a_sawn a r o)
def a_saws (r o : Nat) : Nat → ra_T → ra_T × Nat
  | 0, a => (a, 0)
  | l + 1, a => match a_saw1 a r o with
    | none => (a, l + 1)
    | some b => a_saws r o l b
def a_millL (r : Nat) : List Nat → Nat → ra_T → ra_T
  | [], _, a => a
  | o :: L, l, a => a_millL r L (a_saws r o l a).2 (a_saws r o l a).1
/-- a boom's orders, in the order in which they came -/
def od_ (a : ra_T) (r : Nat) : Nat → Nat → List Nat
  | 0, _ => []
  | m + 1, o => if (a.1 47 o).toInt = (r : Int) then o :: od_ a r m (o + 1) else od_ a r m (o + 1)
def a_mill (no : Nat) (a : ra_T) (r : Nat) : ra_T := a_millL r (od_ a r no 0) 3 a
def a_mills (no : Nat) : Nat → Nat → ra_T → ra_T
  | 0, _, a => a
  | m + 1, r, a => a_mills no m (r + 1) (a_mill no a r)
/-- what sawing leaves -/
def qm_ (a b : ra_T) : Prop := (∀ f, f ≠ 38 → f ≠ 42 → f ≠ 6 → f ≠ 50 → b.1 f = a.1 f) ∧ ∀ k, k < 120 → b.2 k = a.2 k
theorem qm_refl {a : ra_T} : qm_ a a := ⟨fun _ _ _ _ _ => rfl, fun _ _ => rfl⟩
theorem qm_trans {a b c : ra_T} (h : qm_ a b) (k : qm_ b c) : qm_ a c := ⟨fun f h1 h2 h3 h4 => (k.1 f h1 h2 h3 h4).trans (h.1 f h1 h2 h3 h4), fun j hj => (k.2 j hj).trans (h.2 j hj)⟩
theorem qm_sawn {a : ra_T} {r o x : Nat} : qm_ a (a_sawn a r o x) := ⟨fun f h1 h2 h3 h4 => (fs_n h4).trans ((fs_n h3).trans ((fs_n h2).trans (fs_n h1))), fun k hk => ks_n (by omega)⟩
theorem qm_saw1 {a b : ra_T} {r o : Nat} (h : a_saw1 a r o = some b) : qm_ a b := by
  unfold a_saw1 at h
  split at h
  · exact absurd h (by simp)
  · cases e : (a.2 (120 + r)).find? (mt_b a o) with
    | none => rw [e] at h; exact absurd h (by simp)
    | some x =>
      rw [e] at h
      have h : some (a_sawn a r o x) = some b := h
      rw [← Option.some.inj h]
      exact qm_sawn
theorem qm_saws {r o : Nat} : ∀ (l : Nat) (a : ra_T), qm_ a (a_saws r o l a).1 ∧ (a_saws r o l a).2 ≤ l := by
  intro l
  induction l with
  | zero => intro a; exact ⟨qm_refl, Nat.le_refl 0⟩
  | succ l ih =>
    intro a
    unfold a_saws
    split
    · exact ⟨qm_refl, Nat.le_refl _⟩
    · next b e => exact ⟨qm_trans (qm_saw1 e) (ih b).1, by have := (ih b).2; omega⟩
theorem qm_millL {r : Nat} : ∀ (L : List Nat) (l : Nat) (a : ra_T), qm_ a (a_millL r L l a) := by
  intro L
  induction L with
  | nil => intro l a; exact qm_refl
  | cons o L ih => intro l a; exact qm_trans (qm_saws l a).1 (ih _ _)
theorem od_qm {a b : ra_T} (h : b.1 47 = a.1 47) {r : Nat} : ∀ m o, od_ b r m o = od_ a r m o := by
  intro m
  induction m with
  | zero => intro o; rfl
  | succ m ih =>
    intro o
    unfold od_
    rw [h, ih]
theorem mt_qm {a b : ra_T} (h : qm_ a b) {o x : Nat} : mt_b b o x = mt_b a o x := by
  unfold mt_b
  rw [h.1 35 (by decide) (by decide) (by decide) (by decide), h.1 48 (by decide) (by decide) (by decide) (by decide), h.1 49 (by decide) (by decide) (by decide) (by decide), h.1 36 (by decide) (by decide) (by decide) (by decide)]
theorem find_skip {P : List Nat} {R : List Nat} {p : Nat → Bool} (h : ∀ y ∈ P, p y = false) : (P ++ R).find? p = R.find? p := by
  induction P with
  | nil => rfl
  | cons y P ih =>
    show (y :: (P ++ R)).find? p = _
    rw [List.find?_cons_of_neg (by rw [h y (List.mem_cons_self)]; decide)]
    exact ih (fun z hz => h z (List.mem_cons_of_mem y hz))
theorem sa_n {u : km_S} {f e i : Nat} {v : Int32} (h : e ≠ f) : km_a (km_sa u f i v) e = km_a u e := by
  show (if e = f then upd (u.2.1 f) i v else u.2.1 e) = u.2.1 e
  exact if_neg h
/-- the heap closes up -/
theorem vr_close {a : ra_T} {u0 : km_S} {r x : Nat} {P R : List Nat} {ri l2 l3 l4 l5 : Int32} {K : Int32 → Int32 → Int32 → Int32 → Int32 → km_S → Prop} {Q : km_S → Prop} (h : rA_ a u0) (hri : ri.toInt = (r : Int)) (r10 : r < 10) (hL : a.2 (120 + r) = P ++ x :: R) (h100 : (a.2 (120 + r)).length ≤ 100)
    (kk : ∀ u, (∀ f, f ≠ 30 → km_a u f = km_a u0 f) → u.1 = u0.1 → (∀ q, (q < 100 * r ∨ 100 * r + 100 ≤ q) → km_a u 30 q = km_a u0 30 q) → (∀ (i y : Nat), (P ++ R)[i]? = some y → (km_a u 30 (100 * r + i)).toInt = (y : Int)) → K ri l2 l3 l4 l5 u) : ∀ (j : Nat) (p : Nat) (l6 : Int32) (u : km_S), l6.toInt = (p : Int) → P.length ≤ p → p + 1 ≤ (a.2 (120 + r)).length → (∀ f, f ≠ 30 → km_a u f = km_a u0 f) → u.1 = u0.1 → (∀ q, (q < 100 * r ∨ 100 * r + 100 ≤ q) → km_a u 30 q = km_a u0 30 q) → (∀ (i y : Nat), i < p → (P ++ R)[i]? = some y → (km_a u 30 (100 * r + i)).toInt = (y : Int)) → (∀ i, p < i → i < 100 → km_a u 30 (100 * r + i) = km_a u0 30 (100 * r + i)) → vX12_mills_119 K Q j ri l2 l3 l4 l5 l6 u := by
  have z100 : (100 : Int32).toInt = ((100 : Nat) : Int) := by decide
  obtain ⟨b1, b2⟩ := h.2.2.1 r r10
  have hlen : (a.2 (120 + r)).length = P.length + (R.length + 1) := by rw [hL, List.length_append, List.length_cons]
  have hR : ∀ (i y : Nat), P.length ≤ i → (P ++ R)[i]? = some y → (km_a u0 30 (100 * r + (i + 1))).toInt = (y : Int) := by
    intro i y hi hy
    refine b2 (i + 1) y ?_
    rw [List.getElem?_append_right hi] at hy
    rw [hL, List.getElem?_append_right (by omega), show i + 1 - P.length = (i - P.length) + 1 by omega, List.getElem?_cons_succ]
    exact hy
  intro j
  induction j with
  | zero => intro _ _ _ _ _ _ _ _ _ _ _; exact trivial
  | succ j ih =>
    intro p l6 u h6 hp hp2 u1 u2 u3 u4 u5
    obtain ⟨w1, ew1, hw1⟩ : ∃ w, w = l6 + 1 ∧ w.toInt = ((p + 1 : Nat) : Int) := ⟨_, rfl, ki_addN h6 ki_z1 (by omega)⟩
    obtain ⟨w2, ew2, hw2⟩ : ∃ w, w = 100 * ri + l6 ∧ w.toInt = ((100 * r + p : Nat) : Int) := ⟨_, rfl, ki_addN (ki_mulN z100 hri (by omega)) h6 (by omega)⟩
    have e29 : (km_a u 29 r).toInt = ((a.2 (120 + r)).length : Int) := by rw [u1 29 (by decide)]; exact b1
    unfold vX12_mills_119
    rw [← ew2, ← ew1, ki_toN hri, ki_le, e29, hw1]
    intro _
    refine ⟨fun q => kk u u1 u2 u3 (fun i y hy => u4 i y ?_ hy), fun q _ _ => ?_⟩
    · have := (List.getElem?_eq_some_iff.1 hy).1
      rw [List.length_append] at this
      omega
    · have e3 : (w2 + 1).toNatClampNeg = 100 * r + (p + 1) := (ki_toN (ki_addN (j := 100 * r + p) (k := 1) hw2 ki_z1 (by omega))).trans (Nat.add_assoc _ _ _)
      rw [e3, ki_toN hw2]
      rintro μ16 rfl v17 e17
      refine ih (p + 1) v17 _ (by rw [e17]; exact hw1) (by omega) (by omega) (fun f hf => ?_) u2 (fun q hq => ?_) (fun i y hi hy => ?_) (fun i h1 h2 => ?_)
      · rw [show km_a (km_sa u 30 (100 * r + p) (km_a u 30 (100 * r + (p + 1)))) f = km_a u f from if_neg hf]
        exact u1 f hf
      · show upd (u.2.1 30) (100 * r + p) _ q = _
        rw [w_updN (by omega)]
        exact u3 q hq
      · show (upd (u.2.1 30) (100 * r + p) (km_a u 30 (100 * r + (p + 1))) (100 * r + i)).toInt = _
        by_cases e : i = p
        · rw [e, w_updS, u5 (p + 1) (by omega) (by omega)]
          rw [e] at hy
          exact hR p y hp hy
        · rw [w_updN (by omega)]
          exact u4 i y (by omega) hy
      · show upd (u.2.1 30) (100 * r + p) _ (100 * r + i) = _
        rw [w_updN (by omega)]
        exact u5 i (by omega) h2
theorem vr_saw19 {x sz : Nat} {xi : Int32} {Q : km_S → Prop} {u0 : km_S} (hx : xi.toInt = (x : Int)) (hs : (km_a u0 36 x).toInt = (sz : Int)) (s9 : sz ≤ 9) (kk : ∀ u, (∀ f, f ≠ 43 → km_a u f = km_a u0 f) → km_i u 6 = km_i u0 6 + km_a u0 36 x → (km_i u 6).toInt = (km_i u0 6).toInt + (sz : Int) → (∀ j, j ≠ 6 → km_i u j = km_i u0 j) → (∀ q : Nat, (q : Int) < (km_i u0 6).toInt → km_a u 43 q = km_a u0 43 q) → (∀ q : Nat, (km_i u0 6).toInt ≤ (q : Int) → (q : Int) < (km_i u0 6).toInt + sz → (km_a u 43 q).toInt = (x : Int)) → Q u) : ∀ (j p : Nat) (l2 : Int32) (u : km_S), l2.toInt = (p : Int) → p ≤ sz → (∀ f, f ≠ 43 → km_a u f = km_a u0 f) → km_i u 6 = km_i u0 6 + l2 → (km_i u 6).toInt = (km_i u0 6).toInt + (p : Int) → (∀ j, j ≠ 6 → km_i u j = km_i u0 j) → (∀ q : Nat, (q : Int) < (km_i u0 6).toInt → km_a u 43 q = km_a u0 43 q) → (∀ q : Nat, (km_i u0 6).toInt ≤ (q : Int) → (q : Int) < (km_i u0 6).toInt + p → (km_a u 43 q).toInt = (x : Int)) → vX12_saw_19 Q j xi l2 u := by
  intro j
  induction j with
  | zero => intro _ _ _ _ _ _ _ _ _ _ _; exact trivial
  | succ j ih =>
    intro p l2 u h2 hp u1 u2 t6 u3 u4 u5
    have e36 : km_a u 36 x = km_a u0 36 x := congrFun (u1 36 (by decide)) x
    unfold vX12_saw_19
    rw [ki_toN hx, e36, ki_le, hs, h2]
    intro _
    refine ⟨fun q => ?_, fun q hv => ?_⟩
    · have e : p = sz := by omega
      have el : l2 = km_a u0 36 x := ki_eq.2 (by rw [h2, hs, e])
      rw [el] at u2
      rw [e] at u5 t6
      exact kk u u1 u2 t6 u3 u4 u5
    · rw [ki_in] at hv
      obtain ⟨bb, hbb⟩ : ∃ bb : Nat, (km_i u 6).toInt = (bb : Int) := ⟨(km_i u 6).toInt.toNat, by omega⟩
      have hlt : bb < 3600 := by have := hv.2; omega
      rw [ki_toN hbb]
      rintro μ4 rfl μ5 rfl v6 e6
      refine ih (p + 1) v6 _ (by rw [e6]; exact ki_addN h2 ki_z1 (by omega)) (by omega) (fun f hf => ?_) ?_ ?_ (fun j hj => ?_) (fun q hq => ?_) (fun q q1 q2 => ?_)
      · show (if f = 43 then _ else u.2.1 f) = _
        rw [if_neg hf]
        exact u1 f hf
      · show upd u.1 6 (km_i u 6 + 1) 6 = _
        rw [w_updS, u2, e6, Int32.add_assoc]
      · show (upd u.1 6 (km_i u 6 + 1) 6).toInt = _
        rw [w_updS, ki_addN (k := 1) hbb ki_z1 (by omega)]
        omega
      · show upd u.1 6 _ j = _
        rw [w_updN hj]
        exact u3 j hj
      · show upd (u.2.1 43) bb xi q = _
        rw [w_updN (by omega)]
        exact u4 q hq
      · show (upd (u.2.1 43) bb xi q).toInt = _
        by_cases e : q = bb
        · rw [e, w_updS]; exact hx
        · rw [w_updN e]
          exact u5 q q1 (by omega)
/-- boards: each is led back -/
def rB_ (nl : Nat) (a : ra_T) (u : km_S) : Prop := (∀ x, x < nl → (1 ≤ (a.1 36 x).toInt ∧ (a.1 36 x).toInt ≤ 9) ∧ (¬ a.1 38 x = 3 → a.1 42 x = -1)) ∧ 0 ≤ (a.1 6 0).toInt ∧ (∀ b : Nat, (b : Int) < (a.1 6 0).toInt → ∃ x, x < nl ∧ ¬ a.1 42 x = -1 ∧ (a.1 42 x).toInt ≤ (b : Int) ∧ (b : Int) < (a.1 42 x).toInt + (a.1 36 x).toInt) ∧ ∀ x, x < nl → ¬ a.1 42 x = -1 → 0 ≤ (a.1 42 x).toInt ∧ (a.1 42 x).toInt + (a.1 36 x).toInt ≤ (a.1 6 0).toInt ∧ ∀ b : Nat, (a.1 42 x).toInt ≤ (b : Int) → (b : Int) < (a.1 42 x).toInt + (a.1 36 x).toInt → (km_a u 43 b).toInt = (x : Int)
/-- a log that is sawn: the river keeps its order -/
theorem ao_sawn {a : ra_T} {r o x nr nl : Nat} (A : ao_ nr nl a) (hr : r < nr) (h10 : nr ≤ 10) (hx : x ∈ a.2 (120 + r)) : ao_ nr nl (a_sawn a r o x) := by
  obtain ⟨A1, A2, A3, A4, A5, A6⟩ := A
  have k := qm_sawn (a := a) (r := r) (o := o) (x := x)
  obtain ⟨x38, x39⟩ := (A5 r hr).2 x hx
  have row : ∀ j, (a_sawn a r o x).2 j = if j = 120 + r then (a.2 (120 + r)).filter (fun z => decide (¬ z = x)) else a.2 j := fun j => rfl
  have fil : ∀ {y : Nat} {L : List Nat}, y ∈ L.filter (fun z => decide (¬ z = x)) ↔ y ∈ L ∧ ¬ y = x := by
    intro y L
    rw [List.mem_filter, decide_eq_true_iff]
  have el : ∀ q, ln_ (a_sawn a r o x) q = ln_ a q := fun q => by
    unfold ln_
    rw [k.1 14 (by decide) (by decide) (by decide) (by decide)]
  have f38 : ∀ y, ¬ y = x → (a_sawn a r o x).1 38 y = a.1 38 y := fun y hy => w_updN hy
  have s38 : (a_sawn a r o x).1 38 x = 3 := w_updS
  have e39 := k.1 39 (by decide) (by decide) (by decide) (by decide)
  have e40 := k.1 40 (by decide) (by decide) (by decide) (by decide)
  refine ⟨fun q hq => ?_, fun j y hy => ?_, fun j => ?_, fun q c hq hc => ⟨?_, fun y hy => ?_⟩, fun q hq => ⟨?_, fun y hy => ?_⟩, fun y hy h38 => ?_⟩
  · rw [el, k.1 15 (by decide) (by decide) (by decide) (by decide), k.1 13 (by decide) (by decide) (by decide) (by decide)]
    exact A1 q hq
  · have : y ∈ a.2 j := by
      rw [row] at hy
      split at hy
      · next e => rw [e]; exact (fil.1 hy).1
      · exact hy
    refine ⟨(A2 j y this).1, ?_⟩
    have z := (A2 j y this).2
    unfold vk2_ at z ⊢
    simp only [el]
    exact z
  · rw [row]
    split
    · exact (A3 _).filter _
    · exact A3 j
  · rw [el] at hc
    have c12 : c < 12 := by have := (A1 q hq).1; omega
    rw [row, if_neg (by omega), k.1 15 (by decide) (by decide) (by decide) (by decide)]
    exact (A4 q c hq hc).1
  · rw [el] at hc
    have c12 : c < 12 := by have := (A1 q hq).1; omega
    rw [row, if_neg (by omega)] at hy
    obtain ⟨y1, y2, y3⟩ := (A4 q c hq hc).2 y hy
    have ne : ¬ y = x := fun e => by rw [e, x38] at y1; exact absurd y1 (by decide)
    rw [f38 y ne, e39, e40]
    exact ⟨y1, y2, y3⟩
  · rw [row]
    split
    · have := List.length_filter_le (fun z => decide (¬ z = x)) (a.2 (120 + r))
      have := (A5 r hr).1
      omega
    · exact (A5 q hq).1
  · rw [row] at hy
    have hh : ¬ y = x ∧ y ∈ a.2 (120 + q) := by
      split at hy
      · next e => obtain ⟨i1, i2⟩ := fil.1 hy; rw [e]; exact ⟨i2, i1⟩
      · next e =>
        refine ⟨fun z => e ?_, hy⟩
        have := ((A5 q hq).2 y hy).2
        rw [z, x39] at this
        omega
    rw [f38 y hh.1, e39]
    exact (A5 q hq).2 y hh.2
  · by_cases e : y = x
    · rw [e, s38] at h38
      exact absurd h38 (by decide)
    · rw [f38 y e] at h38
      obtain ⟨q, c, i1, i2, i3⟩ := A6 y hy h38
      have c12 : c < 12 := by have := (A1 q i1).1; omega
      exact ⟨q, c, i1, by rw [el]; exact i2, by rw [row, if_neg (by omega)]; exact i3⟩
theorem find_none {L : List Nat} {p : Nat → Bool} (h : ∀ y ∈ L, p y = false) : L.find? p = none := by
  rw [List.find?_eq_none]
  intro y hy
  rw [h y hy]
  decide
theorem vr_mill38 {nr nl r o : Nat} {ri oi : Int32} {K : Int32 → Int32 → Int32 → km_S → Prop} {Q : km_S → Prop} {μ : km_S} (h10 : nr ≤ 10) (hr : r < nr) (hri : ri.toInt = (r : Int)) (hoi : oi.toInt = (o : Int)) : ∀ (j l : Nat) (P R : List Nat) (a : ra_T) (l2 l4 : Int32) (u : km_S), l2.toInt = 3 - (l : Int) → l ≤ 3 → l4.toInt = (P.length : Int) → a.2 (120 + r) = P ++ R → (∀ y ∈ P, mt_b a o y = false) → ao_ nr nl a → rsz_ a → rB_ nl a u → rA_ a u → (∀ j, j ≠ 6 → km_i u j = km_i μ j) → (∀ v (l2' : Int32), l2'.toInt = 3 - ((a_saws r o l a).2 : Int) → ao_ nr nl (a_saws r o l a).1 → rsz_ (a_saws r o l a).1 → rB_ nl (a_saws r o l a).1 v → rA_ (a_saws r o l a).1 v → (∀ j, j ≠ 6 → km_i v j = km_i μ j) → K ri l2' oi v) → vX12_mills_38 K Q j ri l2 oi l4 u := by
  have z100 : (100 : Int32).toInt = ((100 : Nat) : Int) := by decide
  have z3 : (3 : Int32).toInt = 3 := by decide
  intro j
  induction j with
  | zero => intro _ _ _ _ _ _ _ _ _ _ _ _ _ _ _ _ _ _; exact trivial
  | succ j ih =>
    intro l P R a l2 l4 u h2 hl h4 hL hP A S Bd h g kk
    obtain ⟨b1, b2⟩ := h.2.2.1 r (by omega)
    have h100 := S.2 r (by omega)
    have hlen : (a.2 (120 + r)).length = P.length + R.length := by rw [hL, List.length_append]
    -- nothing more is sawn
    have stop : (l = 0 ∨ a_saw1 a r o = none) → K ri l2 oi u := by
      intro e
      have es : a_saws r o l a = (a, l) := by
        cases l with
        | zero => rfl
        | succ l =>
          rcases e with e | e
          · omega
          · unfold a_saws
            rw [e]
      rw [es] at kk
      exact kk u l2 h2 A S Bd h g
    unfold vX12_mills_38
    rw [ki_toN hri, ki_toN hoi, ki_le, b1, h4]
    intro _
    refine ⟨fun q => ?_, fun q _ => ?_⟩
    · have hR : R = [] := List.eq_nil_of_length_eq_zero (by omega)
      refine stop (.inr ?_)
      unfold a_saw1
      split
      · rfl
      · rw [hL, hR, List.append_nil, find_none hP]
        rfl
    · cases R with
      | nil => rw [List.length_nil] at hlen; omega
      | cons x R =>
        rw [List.length_cons] at hlen
        have e50 : km_a u 50 o = a.1 50 o := congrFun (h.1 50 (by decide)) o
        rw [e50]
        refine ⟨fun w => stop (.inr (if_pos w)), fun w => ?_⟩
        rw [ki_le, z3, h2]
        refine ⟨fun c => stop (.inl (by omega)), fun c _ => ?_⟩
        obtain ⟨l, rfl⟩ : ∃ q, l = q + 1 := ⟨l - 1, by omega⟩
        obtain ⟨wi, ewi, hwi⟩ : ∃ w, w = 100 * ri + l4 ∧ w.toInt = ((100 * r + P.length : Nat) : Int) := ⟨_, rfl, ki_addN (ki_mulN z100 hri (by omega)) h4 (by omega)⟩
        rw [← ewi, ki_toN hwi]
        have hx : (km_a u 30 (100 * r + P.length)).toInt = (x : Int) := b2 P.length x (by rw [hL, List.getElem?_append_right (Nat.le_refl _), Nat.sub_self]; rfl)
        intro v24 e24
        have h24 : v24.toInt = (x : Int) := by rw [e24]; exact hx
        rw [ki_toN h24, h.1 35 (by decide), h.1 48 (by decide), h.1 49 (by decide), h.1 36 (by decide)]
        have hxm : x ∈ a.2 (120 + r) := by rw [hL]; exact List.mem_append.2 (.inr (List.mem_cons_self))
        have hxl := (A.2.1 _ x hxm).1
        have skip : mt_b a o x = false → vX12_mills_109 (vX12_mills_38 K Q j) Q ri l2 oi l4 u := by
          intro e
          unfold vX12_mills_109
          intro v3 e3
          refine ih (l + 1) (P ++ [x]) R a l2 v3 u h2 hl ?_ (by rw [hL, List.append_assoc]; rfl) (fun y hy => ?_) A S Bd h g kk
          · rw [e3, List.length_append]
            show _ = ((P.length + 1 : Nat) : Int)
            exact ki_addN h4 ki_z1 (by omega)
          · rcases List.mem_append.1 hy with z | z
            · exact hP y z
            · rw [List.mem_singleton.1 z]; exact e
        have mf : ∀ (nC : ¬ (a.1 35 x = a.1 48 o ∧ a.1 49 o ≤ a.1 36 x)), mt_b a o x = false := by
          intro nC
          cases e : mt_b a o x
          · rfl
          · exact absurd (mt_T.1 e) nC
        intro _ _
        refine ⟨fun c1 => skip (mf (fun z => c1 z.1)), fun c1 _ _ => ⟨fun c2 => ?_, fun c2 => skip (mf (fun z => c2 z.2))⟩⟩
        have hm : mt_b a o x = true := mt_T.2 ⟨c1, c2⟩
        have es1 : a_saw1 a r o = some (a_sawn a r o x) := by
          unfold a_saw1
          rw [if_neg w, hL, find_skip hP, List.find?_cons_of_pos hm]
          rfl
        have es : a_saws r o (l + 1) a = a_saws r o l (a_sawn a r o x) := by
          show (match a_saw1 a r o with
            | none => (a, l + 1)
            | some b => a_saws r o l b) = _
          rw [es1]
        rw [es] at kk
        intro j2
        refine vr_close h hri (by omega) hL h100 (fun u1 v1 v2 v3 v4 => ?_) j2 P.length l4 u h4 (Nat.le_refl _) (by omega) (fun _ _ => rfl) rfl (fun _ _ => rfl) (fun i y hi hy => ?_) (fun _ _ _ => rfl)
        · obtain ⟨sz, hsz⟩ : ∃ sz : Nat, (a.1 36 x).toInt = (sz : Int) := ⟨(a.1 36 x).toInt.toNat, by have := (Bd.1 x hxl).1; omega⟩
          have s9 : sz ≤ 9 := by have := (Bd.1 x hxl).1; omega
          have x38 := ((A.2.2.2.2.1 r hr).2 x hxm).1
          have x42 : a.1 42 x = -1 := (Bd.1 x hxl).2 (by rw [x38]; decide)
          have e29 : km_a u1 29 r = km_a u 29 r := congrFun (v1 29 (by decide)) r
          unfold vX12_mills_164
          rw [ki_toN hri, e29]
          rintro _ _ μ6 rfl
          unfold vX12_saw
          rw [ki_toN h24]
          rintro _ μ8 rfl _ μ10 rfl j3
          have i6 : km_i (km_sa (km_sa u1 29 r (km_a u 29 r - 1)) 38 x 3) 6 = a.1 6 0 := by
            show u1.1 6 = _
            rw [v2]
            exact h.2.2.2
          rw [i6]
          have k36 : km_a (km_sa (km_sa (km_sa u1 29 r (km_a u 29 r - 1)) 38 x 3) 42 x (a.1 6 0)) 36 = a.1 36 := by
            show u1.2.1 36 = _
            have : km_a u1 36 = km_a u 36 := v1 36 (by decide)
            exact this.trans (h.1 36 (by decide))
          have j6 : km_i (km_sa (km_sa (km_sa u1 29 r (km_a u 29 r - 1)) 38 x 3) 42 x (a.1 6 0)) 6 = a.1 6 0 := i6
          refine vr_saw19 (sz := sz) h24 (by rw [k36]; exact hsz) s9 (fun v w1 w2 w3 w4 w5 w6 => ?_) j3 0 0 _ (by decide) (Nat.zero_le _) (fun _ _ => rfl) (by rw [Int32.add_zero]) (by simp) (fun _ _ => rfl) (fun _ _ => rfl) (fun q q1 q2 => by omega)
          rw [j6] at w2 w3 w5 w6
          rw [k36] at w2
          have u50 : km_a v 50 o = a.1 50 o := by
            rw [w1 50 (by decide)]
            show u1.2.1 50 o = _
            have : km_a u1 50 = km_a u 50 := v1 50 (by decide)
            exact (congrFun this o).trans e50
          rw [ki_toN hoi, u50]
          rintro _ _ μ10 rfl v11 e11
          have A' := ao_sawn (o := o) A hr h10 hxm
          have rowx : (a_sawn a r o x).2 (120 + r) = P ++ R := by
            show (if 120 + r = 120 + r then (a.2 (120 + r)).filter (fun z => decide (¬ z = x)) else _) = _
            rw [if_pos rfl, hL, fil_one (by rw [← hL]; exact A.2.2.1 _)]
          have row : ∀ k, k ≠ 120 + r → (a_sawn a r o x).2 k = a.2 k := fun k hk => ks_n hk
          have km : ∀ f, f ≠ 43 → f ≠ 42 → f ≠ 38 → f ≠ 29 → f ≠ 30 → f ≠ 50 → km_a (km_sa v 50 o (a.1 50 o - 1)) f = km_a u f := by
            intro f f1 f2 f3 f4 f5 f6
            rw [show km_a (km_sa v 50 o (a.1 50 o - 1)) f = km_a v f from if_neg f6, w1 f f1]
            rw [show km_a (km_sa (km_sa (km_sa u1 29 r (km_a u 29 r - 1)) 38 x 3) 42 x (a.1 6 0)) f = km_a u1 f from (if_neg f2).trans ((if_neg f3).trans (if_neg f4))]
            exact v1 f f5
          refine ih l P R (a_sawn a r o x) v11 l4 _ ?_ (by omega) h4 rowx (fun y hy => by rw [mt_qm qm_sawn]; exact hP y hy) A' ⟨fun k hk => ?_, fun q hq => ?_⟩ ?_ ⟨fun f hf => ?_, fun k hk => ?_, fun q hq => ?_, ?_⟩ (fun i hi => ?_) kk
          · rw [e11, ki_add (by rw [h2, ki_z1]; omega) (by rw [h2, ki_z1]; omega), h2, ki_z1]
            omega
          · rw [row k (by omega)]; exact S.1 k hk
          · by_cases e : q = r
            · rw [e, rowx, List.length_append]; omega
            · rw [row _ (by omega)]; exact S.2 q hq
          · -- boards
            obtain ⟨B1, B2, B3, B4⟩ := Bd
            have a6 : ((a_sawn a r o x).1 6 0).toInt = (a.1 6 0).toInt + (sz : Int) := by
              show (upd (a.1 6) 0 (a.1 6 0 + a.1 36 x) 0).toInt = _
              rw [w_updS, ← w2]
              exact w3
            have a36 : (a_sawn a r o x).1 36 = a.1 36 := rfl
            have a42 : ∀ y, ¬ y = x → (a_sawn a r o x).1 42 y = a.1 42 y := fun y hy => w_updN hy
            have a42x : (a_sawn a r o x).1 42 x = a.1 6 0 := w_updS
            have a38 : ∀ y, ¬ y = x → (a_sawn a r o x).1 38 y = a.1 38 y := fun y hy => w_updN hy
            have a38x : (a_sawn a r o x).1 38 x = 3 := w_updS
            have v43 : km_a (km_sa v 50 o (a.1 50 o - 1)) 43 = km_a v 43 := sa_n (by decide)
            have u43 : ∀ q : Nat, (q : Int) < (a.1 6 0).toInt → km_a v 43 q = km_a u 43 q := by
              intro q hq
              rw [w5 q hq]
              have : km_a u1 43 = km_a u 43 := v1 43 (by decide)
              exact congrFun this q
            refine ⟨fun y hy => ?_, by rw [a6]; omega, fun b hb => ?_, fun y hy hne => ?_⟩
            · rw [a36]
              refine ⟨(B1 y hy).1, fun q => ?_⟩
              by_cases e : y = x
              · rw [e, a38x] at q; exact absurd rfl q
              · rw [a38 y e] at q
                rw [a42 y e]
                exact (B1 y hy).2 q
            · rw [a6] at hb
              by_cases e : (b : Int) < (a.1 6 0).toInt
              · obtain ⟨y, y1, y2, y3, y4⟩ := B3 b e
                have ne : ¬ y = x := fun z => by rw [z, x42] at y2; exact y2 rfl
                exact ⟨y, y1, by rw [a42 y ne]; exact y2, by rw [a42 y ne]; exact y3, by rw [a42 y ne, a36]; exact y4⟩
              · refine ⟨x, hxl, ?_, by rw [a42x]; omega, by rw [a42x, a36, hsz]; omega⟩
                rw [a42x, ki_eq, ki_zm]
                omega
            · by_cases e : y = x
              · subst e
                rw [a42x, a36, a6, hsz]
                refine ⟨B2, by omega, fun b hb1 hb2 => ?_⟩
                rw [v43]
                exact w6 b hb1 hb2
              · rw [a42 y e] at hne ⊢
                obtain ⟨y1, y2, y3⟩ := B4 y hy hne
                rw [a36, a6]
                refine ⟨y1, by omega, fun b hb1 hb2 => ?_⟩
                rw [v43, u43 b (by omega)]
                exact y3 b hb1 hb2
          · by_cases f50 : f = 50
            · rw [f50]
              show upd (v.2.1 50) o (a.1 50 o - 1) = upd (a.1 50) o (a.1 50 o - 1)
              have e : v.2.1 50 = a.1 50 := by
                have z : km_a v 50 = km_a u1 50 := w1 50 (by decide)
                exact z.trans ((v1 50 (by decide)).trans (h.1 50 (by decide)))
              rw [e]
            · by_cases f42 : f = 42
              · rw [f42, show km_a (km_sa v 50 o (a.1 50 o - 1)) 42 = km_a v 42 from sa_n (by decide), w1 42 (by decide)]
                show upd (u1.2.1 42) x (a.1 6 0) = upd (a.1 42) x (a.1 6 0)
                have e : u1.2.1 42 = a.1 42 := by
                  have z : km_a u1 42 = km_a u 42 := v1 42 (by decide)
                  exact z.trans (h.1 42 (by decide))
                rw [e]
              · by_cases f38 : f = 38
                · rw [f38, show km_a (km_sa v 50 o (a.1 50 o - 1)) 38 = km_a v 38 from sa_n (by decide), w1 38 (by decide)]
                  show upd (u1.2.1 38) x 3 = upd (a.1 38) x 3
                  have e : u1.2.1 38 = a.1 38 := by
                    have z : km_a u1 38 = km_a u 38 := v1 38 (by decide)
                    exact z.trans (h.1 38 (by decide))
                  rw [e]
                · rw [km f (by intro e; rw [e] at hf; exact absurd hf (by decide)) f42 f38 (by intro e; rw [e] at hf; exact absurd hf (by decide)) (by intro e; rw [e] at hf; exact absurd hf (by decide)) f50, h.1 f hf]
                  exact (qm_sawn.1 f f38 f42 (by intro e; rw [e] at hf; exact absurd hf (by decide)) f50).symm
          · rw [km 32 (by decide) (by decide) (by decide) (by decide) (by decide) (by decide), km 31 (by decide) (by decide) (by decide) (by decide) (by decide) (by decide), row k (by omega)]
            exact h.2.1 k hk
          · have e30 : km_a (km_sa v 50 o (a.1 50 o - 1)) 30 = km_a u1 30 := by
              rw [show km_a (km_sa v 50 o (a.1 50 o - 1)) 30 = km_a v 30 from sa_n (by decide), w1 30 (by decide)]
              rfl
            have e29' : ∀ q, km_a (km_sa v 50 o (a.1 50 o - 1)) 29 q = upd (km_a u1 29) r (km_a u 29 r - 1) q := by
              intro q
              rw [show km_a (km_sa v 50 o (a.1 50 o - 1)) 29 = km_a v 29 from sa_n (by decide), w1 29 (by decide)]
              rfl
            rw [e30, e29']
            by_cases e : q = r
            · rw [e, rowx, w_updS]
              refine ⟨?_, v4⟩
              rw [ki_sub (by rw [b1, ki_z1]; omega) (by rw [b1, ki_z1]; omega), b1, ki_z1, List.length_append]
              omega
            · rw [w_updN e, row _ (by omega)]
              obtain ⟨p1, p2⟩ := h.2.2.1 q hq
              have e1 : km_a u1 29 q = km_a u 29 q := congrFun (v1 29 (by decide)) q
              refine ⟨by rw [e1]; exact p1, fun i y hy => ?_⟩
              have hlt := (List.getElem?_eq_some_iff.1 hy).1
              have := S.2 q hq
              rw [v3 _ (by omega)]
              exact p2 i y hy
          · show km_i v 6 = upd (a.1 6) 0 (a.1 6 0 + a.1 36 x) 0
            rw [w_updS]
            exact w2
          · show km_i v i = _
            rw [w4 i hi]
            show u1.1 i = _
            rw [v2]
            exact g i hi
        · rw [List.getElem?_append_left hi] at hy
          refine b2 i y ?_
          rw [hL, List.getElem?_append_left hi]
          exact hy
