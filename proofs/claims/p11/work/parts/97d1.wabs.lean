/-! water: what an hour does to it -/
/-- next, room, store, flow, out, melted, to the sea -/
abbrev wt_T : Type := (Nat → Int32) × (Nat → Int32) × (Nat → Int32) × (Nat → Int32) × (Nat → Int32) × Int64 × Int64
/-- flow (what came in), out, store, to the sea -/
abbrev wx_T : Type := (Nat → Int32) × (Nat → Int32) × (Nat → Int32) × Int64
def w_max (x : Int32) : Int32 := if x < 0 then 0 else x
def w_min (g x : Int32) : Int32 := if x < g then x else g
theorem w_max0 (x : Int32) : (if 0 < x then x else 0) = w_max x := by
  unfold w_max
  have z : (0 : Int32).toInt = 0 := by decide
  by_cases h : x < 0
  · rw [if_pos h, if_neg (by rw [ki_lt] at *; omega)]
  · rw [if_neg h]
    by_cases k : 0 < x
    · rw [if_pos k]
    · rw [if_neg k, ki_eq]
      rw [ki_lt] at *
      omega
def w_out (d rm gt i st : Int32) : Int32 := if d = 0 then i else w_max (st + i - rm) + w_min gt (st + i - w_max (st + i - rm))
def w_step (nx dm rm gt : Nat → Int32) (r : Nat) (x : wx_T) : wx_T :=
  (if nx r = -1 then x.1 else upd x.1 (nx r).toNatClampNeg (x.1 (nx r).toNatClampNeg + w_out (dm r) (rm r) (gt r) (x.1 r) (x.2.2.1 r)),
   upd x.2.1 r (w_out (dm r) (rm r) (gt r) (x.1 r) (x.2.2.1 r)),
   if dm r = 0 then x.2.2.1 else upd x.2.2.1 r (x.2.2.1 r + x.1 r - w_out (dm r) (rm r) (gt r) (x.1 r) (x.2.2.1 r)),
   if nx r = -1 then x.2.2.2 + (w_out (dm r) (rm r) (gt r) (x.1 r) (x.2.2.1 r)).toInt64 else x.2.2.2)
def w_run (nx dm rm gt : Nat → Int32) : Nat → wx_T → wx_T
  | 0, x => x
  | k + 1, x => w_run nx dm rm gt k (w_step nx dm rm gt k x)
def w_sum (ml : Nat → Int32) : Nat → Int64
  | 0 => 0
  | k + 1 => w_sum ml k + (ml k).toInt64
def w_from (n : Nat) (ml : Nat → Int32) (w : wt_T) : wx_T := (fun r => if r < n then ml r else w.2.2.2.1 r, w.2.2.2.2.1, w.2.2.1, w.2.2.2.2.2.2)
def w_to (n : Nat) (ml : Nat → Int32) (w : wt_T) (x : wx_T) : wt_T := (w.1, w.2.1, x.2.2.1, x.1, x.2.1, w.2.2.2.2.2.1 + w_sum ml n, x.2.2.2)
def w_hour (n : Nat) (dm gt ml : Nat → Int32) (w : wt_T) : wt_T := w_to n ml w (w_run w.1 dm w.2.1 gt n (w_from n ml w))
def w_hours (n : Nat) (dm gt ml : Nat → Int32) : Nat → wt_T → wt_T
  | 0, w => w
  | k + 1, w => w_hours n dm gt ml k (w_hour n dm gt ml w)
/-- a reach flows into one of a lesser number, and what isn't there is empty -/
def w_ok (n : Nat) (w : wt_T) : Prop := (∀ r, r < n → -1 ≤ (w.1 r).toInt ∧ (w.1 r).toInt < (r : Int)) ∧ ∀ r, n ≤ r → w.2.1 r = 0 ∧ w.2.2.1 r = 0 ∧ w.2.2.2.1 r = 0 ∧ w.2.2.2.2.1 r = 0
theorem w_run_hi {nx dm rm gt : Nat → Int32} : ∀ (k : Nat) (x : wx_T), (∀ r, r < k → -1 ≤ (nx r).toInt ∧ (nx r).toInt < (r : Int)) → ∀ r, k ≤ r → (w_run nx dm rm gt k x).1 r = x.1 r ∧ (w_run nx dm rm gt k x).2.1 r = x.2.1 r ∧ (w_run nx dm rm gt k x).2.2.1 r = x.2.2.1 r := by
  intro k
  induction k with
  | zero => intro x _ r _; exact ⟨rfl, rfl, rfl⟩
  | succ k ih =>
    intro x h r hr
    have hk := h k (by omega)
    obtain ⟨i1, i2, i3⟩ := ih (w_step nx dm rm gt k x) (fun r hr => h r (by omega)) r (by omega)
    show (w_run nx dm rm gt k (w_step nx dm rm gt k x)).1 r = _ ∧ (w_run nx dm rm gt k (w_step nx dm rm gt k x)).2.1 r = _ ∧ (w_run nx dm rm gt k (w_step nx dm rm gt k x)).2.2.1 r = _
    rw [i1, i2, i3]
    refine ⟨?_, ?_, ?_⟩
    · show (if nx k = -1 then x.1 else upd x.1 (nx k).toNatClampNeg _) r = _
      by_cases c : nx k = -1
      · rw [if_pos c]
      · rw [if_neg c]
        refine if_neg ?_
        rw [ki_nat]
        omega
    · exact if_neg (by omega)
    · show (if dm k = 0 then x.2.2.1 else upd x.2.2.1 k _) r = _
      by_cases c : dm k = 0
      · rw [if_pos c]
      · rw [if_neg c]
        exact if_neg (by omega)
theorem w_hour_ok {n : Nat} {dm gt ml : Nat → Int32} {w : wt_T} (h : w_ok n w) : w_ok n (w_hour n dm gt ml w) := by
  refine ⟨h.1, fun r hr => ?_⟩
  obtain ⟨i1, i2, i3⟩ := w_run_hi (dm := dm) (rm := w.2.1) (gt := gt) n (w_from n ml w) h.1 r hr
  obtain ⟨a, b, c, d⟩ := h.2 r hr
  refine ⟨a, i3.trans b, i1.trans ?_, i2.trans d⟩
  exact (if_neg (by omega)).trans c
theorem w_hours_ok {n : Nat} {dm gt ml : Nat → Int32} : ∀ (k : Nat) (w : wt_T), w_ok n w → w_ok n (w_hours n dm gt ml k w) := by
  intro k
  induction k with
  | zero => intro w h; exact h
  | succ k ih => intro w h; exact ih _ (w_hour_ok h)
theorem w_hours_snoc {n : Nat} {dm gt ml : Nat → Int32} : ∀ (k : Nat) (w : wt_T), w_hours n dm gt ml (k + 1) w = w_hour n dm gt ml (w_hours n dm gt ml k w) := by
  intro k
  induction k with
  | zero => intro w; rfl
  | succ k ih => intro w; exact ih (w_hour n dm gt ml w)
