/-! the river, told once for both: fields by the reference's numbers; rows of logs: cells 0 to 119 (12 r + c), heaps 120 + r -/
abbrev ra_T : Type := (Nat → Nat → Int32) × (Nat → List Nat)
def fs_ (a : ra_T) (f i : Nat) (v : Int32) : ra_T := (fun g => if g = f then upd (a.1 f) i v else a.1 g, a.2)
def ks_ (a : ra_T) (k : Nat) (L : List Nat) : ra_T := (a.1, fun j => if j = k then L else a.2 j)
def ln_ (a : ra_T) (r : Nat) : Nat := (a.1 14 r).toNatClampNeg
def a_open (a : ra_T) (r c : Nat) : Bool := decide (((a.2 (12 * r + c)).length : Int) < (a.1 15 r).toInt) && decide (a.1 33 (12 * r + c) = 0)
theorem a_openT {a : ra_T} {r c : Nat} : a_open a r c = true ↔ ((a.2 (12 * r + c)).length : Int) < (a.1 15 r).toInt ∧ a.1 33 (12 * r + c) = 0 := by
  unfold a_open
  rw [Bool.and_eq_true, decide_eq_true_iff, decide_eq_true_iff]
theorem a_openF {a : ra_T} {r c : Nat} (h : ¬ (((a.2 (12 * r + c)).length : Int) < (a.1 15 r).toInt ∧ a.1 33 (12 * r + c) = 0)) : a_open a r c = false := by
  cases e : a_open a r c
  · rfl
  · exact absurd (a_openT.1 e) h
def a_take (a : ra_T) (g r c : Nat) : ra_T := fs_ (fs_ (fs_ (ks_ a (12 * r + c) (a.2 (12 * r + c) ++ [g])) 38 g 1) 39 g (nI r)) 40 g (nI c)
def a_drop (a : ra_T) (g k : Nat) : ra_T := ks_ a k ((a.2 k).filter (fun x => decide (¬ x = g)))
def a_heap (a : ra_T) (g r : Nat) : ra_T := fs_ (fs_ (ks_ a (120 + r) (a.2 (120 + r) ++ [g])) 38 g 2) 40 g (-1)
def a_sea (a : ra_T) (g : Nat) : ra_T := fs_ (fs_ (fs_ a 38 g 4) 39 g (-1)) 40 g (-1)
/-- how far it goes in its reach: the cell, and the steps that are left -/
def a_jump (a : ra_T) (r : Nat) : Nat → Nat → Nat × Nat
  | 0, c => (c, 0)
  | s + 1, c => if c + 1 < ln_ a r ∧ a_open a r (c + 1) = true then a_jump a r s (c + 1) else (c, s + 1)
def a_exit (a : ra_T) (r g : Nat) : Option ra_T :=
  if ¬ a.1 22 r = 0 ∧ ((a.1 27 r >>> (a.1 35 g &&& 31)) &&& 1) = 1 then (if ((a.2 (120 + r)).length : Int) < (a.1 28 r).toInt then some (a_heap a g r) else none)
  else if ¬ a.1 21 r = 0 ∧ ¬ 50 ≤ a.1 19 r then none
  else if a.1 13 r = -1 then some (a_sea a g)
  else if a_open a (a.1 13 r).toNatClampNeg 0 = true then some (a_take a g (a.1 13 r).toNatClampNeg 0) else none
/-- whether it left its cell, and the river with it where it went (not yet out of the cell where it was) -/
def a_on (a : ra_T) (r c sp g : Nat) : Option ra_T :=
  match (if 0 < (a_jump a r sp c).2 ∧ (a_jump a r sp c).1 + 1 = ln_ a r then a_exit a r g else none) with
  | some b => some b
  | none => if (a_jump a r sp c).1 = c then none else some (a_take a g r (a_jump a r sp c).1)
def a_go (a : ra_T) (r c sp g : Nat) : ra_T := match a_on a r c sp g with
  | some b => a_drop b g (12 * r + c)
  | none => a
def a_logs (r c sp : Nat) : List Nat → ra_T → ra_T
  | [], a => a
  | g :: L, a => a_logs r c sp L (a_go a r c sp g)
def a_cell (a : ra_T) (r c sp : Nat) : ra_T := if a.1 33 (12 * r + c) = 0 then a_logs r c sp (a.2 (12 * r + c)) a else a
def a_cells (r sp : Nat) : Nat → ra_T → ra_T
  | 0, a => a
  | c + 1, a => a_cells r sp c (a_cell a r c sp)
def a_speed (a : ra_T) (r : Nat) : Int32 := if 6 < a.1 18 r / 100 then 6 else a.1 18 r / 100
def a_reach (a : ra_T) (r : Nat) : ra_T := if a_speed a r ≤ 0 then a else a_cells r (a_speed a r).toNatClampNeg (ln_ a r) a
def a_move : Nat → Nat → ra_T → ra_T
  | 0, _, a => a
  | m + 1, r, a => a_move m (r + 1) (a_reach a r)
theorem a_speed6 (a : ra_T) (r : Nat) : (a_speed a r).toInt ≤ 6 := by
  have z6 : (6 : Int32).toInt = 6 := by decide
  unfold a_speed
  split
  · rw [z6]; omega
  · next q => rw [ki_lt, z6] at q; omega
/-! what is written, what is read -/
theorem fs_s {a : ra_T} {f i : Nat} {v : Int32} : (fs_ a f i v).1 f = upd (a.1 f) i v := if_pos rfl
theorem fs_n {a : ra_T} {f g i : Nat} {v : Int32} (h : g ≠ f) : (fs_ a f i v).1 g = a.1 g := if_neg h
theorem ks_s {a : ra_T} {k : Nat} {L : List Nat} : (ks_ a k L).2 k = L := if_pos rfl
theorem ks_n {a : ra_T} {k j : Nat} {L : List Nat} (h : j ≠ k) : (ks_ a k L).2 j = a.2 j := if_neg h
/-- which rows there are -/
def vk_ (nr : Nat) (a : ra_T) (k : Nat) : Prop := (∃ r c, r < nr ∧ c < ln_ a r ∧ k = 12 * r + c) ∨ ∃ r, r < nr ∧ ¬ a.1 22 r = 0 ∧ k = 120 + r
/-- which rows may hold logs -/
def vk2_ (nr : Nat) (a : ra_T) (k : Nat) : Prop := (∃ r c, r < nr ∧ c < ln_ a r ∧ k = 12 * r + c) ∨ ∃ r, r < nr ∧ k = 120 + r
/-- what an hour keeps true -/
def ao_ (nr nl : Nat) (a : ra_T) : Prop :=
  (∀ r, r < nr → ln_ a r ≤ 12 ∧ 1 ≤ ln_ a r ∧ (1 ≤ (a.1 15 r).toInt ∧ (a.1 15 r).toInt ≤ 20) ∧ -1 ≤ (a.1 13 r).toInt ∧ (a.1 13 r).toInt < (r : Int)) ∧
  (∀ k g, g ∈ a.2 k → g < nl ∧ vk2_ nr a k) ∧ (∀ k, (a.2 k).Nodup) ∧
  (∀ r c, r < nr → c < ln_ a r → ((a.2 (12 * r + c)).length : Int) ≤ (a.1 15 r).toInt ∧ ∀ g, g ∈ a.2 (12 * r + c) → a.1 38 g = 1 ∧ (a.1 39 g).toInt = (r : Int) ∧ (a.1 40 g).toInt = (c : Int)) ∧
  (∀ r, r < nr → ((a.2 (120 + r)).length : Int) ≤ 100 ∧ ∀ g, g ∈ a.2 (120 + r) → a.1 38 g = 2 ∧ (a.1 39 g).toInt = (r : Int)) ∧
  (∀ g, g < nl → a.1 38 g = 1 → ∃ r c, r < nr ∧ c < ln_ a r ∧ g ∈ a.2 (12 * r + c))
