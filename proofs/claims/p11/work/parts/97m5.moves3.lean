/-! where a log can go -/
theorem a_exit_cases {a b : ra_T} {r x nr : Nat} (h : a_exit a r x = some b) (hq : ∀ q : Nat, (a.1 13 r).toInt = (q : Int) → q < r) (hm : -1 ≤ (a.1 13 r).toInt) : (∃ q, q < r ∧ a_open a q 0 = true ∧ b = a_take a x q 0) ∨ (¬ a.1 22 r = 0 ∧ ((a.2 (120 + r)).length : Int) < (a.1 28 r).toInt ∧ b = a_heap a x r) ∨ b = a_sea a x := by
  unfold a_exit at h
  split at h
  · next c =>
    split at h
    · next d => exact .inr (.inl ⟨c.1, d, (Option.some.inj h).symm⟩)
    · exact absurd h (by simp)
  · split at h
    · exact absurd h (by simp)
    · split at h
      · exact .inr (.inr (Option.some.inj h).symm)
      · next e =>
        split at h
        · next o =>
          refine .inl ⟨(a.1 13 r).toNatClampNeg, ?_, o, (Option.some.inj h).symm⟩
          refine hq _ ?_
          rw [ki_eq, ki_zm] at e
          rw [ki_nat]
          omega
        · exact absurd h (by simp)
theorem a_on_cases {a b : ra_T} {r c sp x nr nl : Nat} (A : ao_ nr nl a) (hr : r < nr) (hc : c < ln_ a r) (h : a_on a r c sp x = some b) : (∃ r1 c1, r1 < nr ∧ c1 < ln_ a r1 ∧ 12 * r1 + c1 ≠ 12 * r + c ∧ a_open a r1 c1 = true ∧ b = a_take a x r1 c1) ∨ (¬ a.1 22 r = 0 ∧ ((a.2 (120 + r)).length : Int) < (a.1 28 r).toInt ∧ b = a_heap a x r) ∨ b = a_sea a x := by
  unfold a_on at h
  obtain ⟨_, _, _, m1, m2⟩ := A.1 r hr
  split at h
  · next e =>
    split at e
    · rw [Option.some.inj h] at e
      rcases a_exit_cases (nr := nr) e (fun q hq => by omega) m1 with ⟨q, q1, q2, q3⟩ | z | z
      · exact .inl ⟨q, 0, by omega, (A.1 q (by omega)).2.1, by omega, q2, q3⟩
      · exact .inr (.inl z)
      · exact .inr (.inr z)
    · exact absurd e (by simp)
  · split at h
    · exact absurd h (by simp)
    · next e =>
      obtain ⟨j1, j2⟩ := a_jump_ge a r sp c
      obtain ⟨j3, j4⟩ := j2 e
      exact .inl ⟨r, _, hr, j3, by omega, j4, (Option.some.inj h).symm⟩
theorem cell_ne {r c r1 c1 : Nat} (h1 : c < 12) (h2 : c1 < 12) (h : 12 * r1 + c1 = 12 * r + c) : r1 = r ∧ c1 = c := by omega
/-- a log that goes: the river keeps its order -/
theorem ao_go {a b : ra_T} {r c sp x nr nl : Nat} (h10 : nr ≤ 10) (A : ao_ nr nl a) (hr : r < nr) (hc : c < ln_ a r) (hx : x ∈ a.2 (12 * r + c)) (hb : a_on a r c sp x = some b) (hroom : ∀ r, r < nr → ¬ a.1 22 r = 0 → (a.1 28 r).toInt ≤ 100) : b.2 (12 * r + c) = a.2 (12 * r + c) ∧ ao_ nr nl (a_drop b x (12 * r + c)) := by
  have A' := A
  obtain ⟨A1, A2, A3, A4, A5, A6⟩ := A'
  have k := qs_on hb
  have c12 : c < 12 := by have := (A1 r hr).1; omega
  obtain ⟨x1, x2, x3⟩ := (A4 r c hr hc).2 x hx
  have xl := (A2 _ x hx).1
  have tr : ∀ {j y : Nat}, y < nl ∧ vk2_ nr a j → y < nl ∧ vk2_ nr (a_drop b x (12 * r + c)) j := fun h => ⟨h.1, (qs_vk2 (qs_drop k)).2 h.2⟩
  have only : ∀ r1 c1, r1 < nr → c1 < ln_ a r1 → x ∈ a.2 (12 * r1 + c1) → 12 * r1 + c1 = 12 * r + c := by
    intro r1 c1 h1 h2 h3
    obtain ⟨_, y2, y3⟩ := (A4 r1 c1 h1 h2).2 x h3
    omega
  have noheap : ∀ r1, r1 < nr → ¬ x ∈ a.2 (120 + r1) := by
    intro r1 h1 h3
    have := ((A5 r1 h1).2 x h3).1
    rw [x1] at this
    exact absurd this (by decide)
  have s1 : ∀ r1, r1 < nr → ln_ (a_drop b x (12 * r + c)) r1 ≤ 12 ∧ 1 ≤ ln_ (a_drop b x (12 * r + c)) r1 ∧ (1 ≤ ((a_drop b x (12 * r + c)).1 15 r1).toInt ∧ ((a_drop b x (12 * r + c)).1 15 r1).toInt ≤ 20) ∧ -1 ≤ ((a_drop b x (12 * r + c)).1 13 r1).toInt ∧ ((a_drop b x (12 * r + c)).1 13 r1).toInt < (r1 : Int) := by
    intro r1 h1
    show ln_ b r1 ≤ 12 ∧ 1 ≤ ln_ b r1 ∧ (1 ≤ (b.1 15 r1).toInt ∧ (b.1 15 r1).toInt ≤ 20) ∧ -1 ≤ (b.1 13 r1).toInt ∧ (b.1 13 r1).toInt < (r1 : Int)
    rw [qs_ln k, k 15 (by decide) (by decide) (by decide), k 13 (by decide) (by decide) (by decide)]
    exact A1 r1 h1
  -- a row after: of those in it, x is none but where it went
  have fil : ∀ {y : Nat} {L : List Nat}, y ∈ L.filter (fun z => decide (¬ z = x)) ↔ y ∈ L ∧ ¬ y = x := by
    intro y L
    rw [List.mem_filter, decide_eq_true_iff]
  rcases a_on_cases A hr hc hb with ⟨r1, c1, g1, g2, g3, g4, g5⟩ | ⟨g1, g2, g5⟩ | g5
  · -- into a cell
    have c112 : c1 < 12 := by have := (A1 r1 g1).1; omega
    have row : ∀ j, (a_drop b x (12 * r + c)).2 j = if j = 12 * r + c then (a.2 (12 * r + c)).filter (fun z => decide (¬ z = x)) else if j = 12 * r1 + c1 then a.2 (12 * r1 + c1) ++ [x] else a.2 j := by
      intro j
      have e1 : b.2 (12 * r + c) = a.2 (12 * r + c) := by rw [g5]; exact ks_n (Ne.symm g3)
      show (if j = 12 * r + c then (b.2 (12 * r + c)).filter (fun z => decide (¬ z = x)) else b.2 j) = _
      rw [e1]
      by_cases e : j = 12 * r + c
      · rw [if_pos e, if_pos e]
      · rw [if_neg e, if_neg e, g5]
        rfl
    have nin : ¬ x ∈ a.2 (12 * r1 + c1) := fun q => g3 (only r1 c1 g1 g2 q)
    have fld : ∀ y, ¬ y = x → b.1 38 y = a.1 38 y ∧ b.1 39 y = a.1 39 y ∧ b.1 40 y = a.1 40 y := by
      intro y hy
      rw [g5]
      exact ⟨w_updN hy, w_updN hy, w_updN hy⟩
    have f38 : b.1 38 x = 1 := by rw [g5]; exact w_updS
    have f39 : b.1 39 x = nI r1 := by rw [g5]; exact w_updS
    have f40 : b.1 40 x = nI c1 := by rw [g5]; exact w_updS
    have mem : ∀ j y, y ∈ (a_drop b x (12 * r + c)).2 j → (y = x ∧ j = 12 * r1 + c1) ∨ (¬ y = x ∧ y ∈ a.2 j) ∨ (y = x ∧ y ∈ a.2 j ∧ j ≠ 12 * r + c ∧ j ≠ 12 * r1 + c1) := by
      intro j y hy
      rw [row] at hy
      by_cases e1 : j = 12 * r + c
      · rw [if_pos e1] at hy
        obtain ⟨h1, h2⟩ := fil.1 hy
        rw [e1]
        exact .inr (.inl ⟨h2, h1⟩)
      · rw [if_neg e1] at hy
        by_cases e2 : j = 12 * r1 + c1
        · rw [if_pos e2] at hy
          rcases List.mem_append.1 hy with q | q
          · exact .inr (.inl ⟨fun z => nin (by rw [← z]; exact q), by rw [e2]; exact q⟩)
          · exact .inl ⟨List.mem_singleton.1 q, e2⟩
        · rw [if_neg e2] at hy
          by_cases e3 : y = x
          · exact .inr (.inr ⟨e3, hy, e1, e2⟩)
          · exact .inr (.inl ⟨e3, hy⟩)
    refine ⟨by rw [g5]; exact ks_n (Ne.symm g3), s1, fun j y hy => ?_, fun j => ?_, fun r2 c2 h1 h2 => ⟨?_, fun y hy => ?_⟩, fun r2 h1 => ⟨?_, fun y hy => ?_⟩, fun y hy h38 => ?_⟩
    · rcases mem j y hy with ⟨e, e2⟩ | ⟨_, e⟩ | ⟨_, e, _⟩
      · exact tr ⟨by rw [e]; exact xl, .inl ⟨r1, c1, g1, g2, e2⟩⟩
      · exact tr (A2 j y e)
      · exact tr (A2 j y e)
    · rw [row]
      split
      · exact (A3 _).filter _
      · split
        · rw [List.nodup_append]
          refine ⟨A3 _, by simp, fun y hy z hz e => ?_⟩
          rw [List.mem_singleton.1 hz] at e
          exact nin (by rw [← e]; exact hy)
        · exact A3 j
    · have h2 : c2 < ln_ b r2 := h2
      rw [qs_ln k] at h2
      have bd := (A4 r2 c2 h1 h2).1
      have h212 : c2 < 12 := by have := (A1 r2 h1).1; omega
      rw [row]
      show ((if 12 * r2 + c2 = 12 * r + c then _ else if 12 * r2 + c2 = 12 * r1 + c1 then _ else _ : List Nat).length : Int) ≤ (b.1 15 r2).toInt
      rw [k 15 (by decide) (by decide) (by decide)]
      split
      · next e =>
        have := List.length_filter_le (fun z => decide (¬ z = x)) (a.2 (12 * r + c))
        rw [e] at bd
        omega
      · split
        · next e =>
          obtain ⟨e1, e2⟩ := cell_ne h212 c112 e.symm
          rw [List.length_append]
          have := (a_openT.1 g4).1
          rw [← e1]
          show ((a.2 (12 * r1 + c1)).length + 1 : Int) ≤ _
          omega
        · exact bd
    · have h2 : c2 < ln_ b r2 := h2
      rw [qs_ln k] at h2
      have h212 : c2 < 12 := by have := (A1 r2 h1).1; omega
      show b.1 38 y = 1 ∧ (b.1 39 y).toInt = (r2 : Int) ∧ (b.1 40 y).toInt = (c2 : Int)
      rcases mem _ y hy with ⟨e, e2⟩ | ⟨e, e2⟩ | ⟨e, e2, e3, e4⟩
      · obtain ⟨i1, i2⟩ := cell_ne c112 h212 e2
        rw [e, f38, f39, f40, t_nI (by omega), t_nI (by omega), i1, i2]
        exact ⟨rfl, rfl, rfl⟩
      · obtain ⟨i1, i2, i3⟩ := fld y e
        rw [i1, i2, i3]
        exact (A4 r2 c2 h1 h2).2 y e2
      · rw [e] at e2
        exact absurd (only r2 c2 h1 h2 e2) e3
    · rw [row, if_neg (by omega), if_neg (by omega)]
      exact (A5 r2 h1).1
    · rw [row, if_neg (by omega), if_neg (by omega)] at hy
      have ne : ¬ y = x := fun e => noheap r2 h1 (by rw [← e]; exact hy)
      obtain ⟨i1, i2, _⟩ := fld y ne
      show b.1 38 y = 2 ∧ (b.1 39 y).toInt = (r2 : Int)
      rw [i1, i2]
      exact (A5 r2 h1).2 y hy
    · by_cases e : y = x
      · refine ⟨r1, c1, g1, by show c1 < ln_ b r1; rw [qs_ln k]; exact g2, ?_⟩
        rw [row, if_neg g3, if_pos rfl, e]
        exact List.mem_append.2 (.inr (List.mem_singleton.2 rfl))
      · have h38 : b.1 38 y = 1 := h38
        rw [(fld y e).1] at h38
        obtain ⟨r2, c2, i1, i2, i3⟩ := A6 y hy h38
        refine ⟨r2, c2, i1, by show c2 < ln_ b r2; rw [qs_ln k]; exact i2, ?_⟩
        rw [row]
        split
        · next q => rw [q] at i3; exact fil.2 ⟨i3, e⟩
        · split
          · next q => rw [q] at i3; exact List.mem_append.2 (.inl i3)
          · exact i3
  · -- into the heap
    have row : ∀ j, (a_drop b x (12 * r + c)).2 j = if j = 12 * r + c then (a.2 (12 * r + c)).filter (fun z => decide (¬ z = x)) else if j = 120 + r then a.2 (120 + r) ++ [x] else a.2 j := by
      intro j
      have e1 : b.2 (12 * r + c) = a.2 (12 * r + c) := by rw [g5]; exact ks_n (by omega)
      show (if j = 12 * r + c then (b.2 (12 * r + c)).filter (fun z => decide (¬ z = x)) else b.2 j) = _
      rw [e1]
      by_cases e : j = 12 * r + c
      · rw [if_pos e, if_pos e]
      · rw [if_neg e, if_neg e, g5]
        rfl
    have nin := noheap r hr
    have fld : ∀ y, ¬ y = x → b.1 38 y = a.1 38 y ∧ b.1 39 y = a.1 39 y ∧ b.1 40 y = a.1 40 y := by
      intro y hy
      rw [g5]
      exact ⟨w_updN hy, rfl, w_updN hy⟩
    have f38 : b.1 38 x = 2 := by rw [g5]; exact w_updS
    have f39 : b.1 39 x = a.1 39 x := by rw [g5]; rfl
    have room := hroom r hr g1
    refine ⟨by rw [g5]; exact ks_n (by omega), s1, fun j y hy => ?_, fun j => ?_, fun r2 c2 h1 h2 => ⟨?_, fun y hy => ?_⟩, fun r2 h1 => ⟨?_, fun y hy => ?_⟩, fun y hy h38 => ?_⟩
    · refine tr ?_
      rw [row] at hy
      split at hy
      · next e => rw [e]; exact A2 _ y (fil.1 hy).1
      · split at hy
        · next e =>
          rcases List.mem_append.1 hy with q | q
          · rw [e]; exact A2 _ y q
          · exact ⟨by rw [List.mem_singleton.1 q]; exact xl, .inr ⟨r, hr, e⟩⟩
        · exact A2 j y hy
    · rw [row]
      split
      · exact (A3 _).filter _
      · split
        · rw [List.nodup_append]
          refine ⟨A3 _, by simp, fun y hy z hz e => ?_⟩
          rw [List.mem_singleton.1 hz] at e
          exact nin (by rw [← e]; exact hy)
        · exact A3 j
    · have h2 : c2 < ln_ b r2 := h2
      rw [qs_ln k] at h2
      have h212 : c2 < 12 := by have := (A1 r2 h1).1; omega
      have bd := (A4 r2 c2 h1 h2).1
      rw [row]
      show ((if 12 * r2 + c2 = 12 * r + c then _ else if 12 * r2 + c2 = 120 + r then _ else _ : List Nat).length : Int) ≤ (b.1 15 r2).toInt
      rw [k 15 (by decide) (by decide) (by decide)]
      split
      · next e =>
        have := List.length_filter_le (fun z => decide (¬ z = x)) (a.2 (12 * r + c))
        rw [e] at bd
        omega
      · rw [if_neg (by omega)]
        exact bd
    · have h2 : c2 < ln_ b r2 := h2
      rw [qs_ln k] at h2
      have h212 : c2 < 12 := by have := (A1 r2 h1).1; omega
      rw [row] at hy
      have hh : ¬ y = x ∧ y ∈ a.2 (12 * r2 + c2) := by
        split at hy
        · next e =>
          obtain ⟨i1, i2⟩ := fil.1 hy
          rw [e]
          exact ⟨i2, i1⟩
        · next e =>
          rw [if_neg (by omega)] at hy
          refine ⟨fun q => e (only r2 c2 h1 h2 (by rw [← q]; exact hy)), hy⟩
      obtain ⟨i1, i2, i3⟩ := fld y hh.1
      show b.1 38 y = 1 ∧ (b.1 39 y).toInt = (r2 : Int) ∧ (b.1 40 y).toInt = (c2 : Int)
      rw [i1, i2, i3]
      exact (A4 r2 c2 h1 h2).2 y hh.2
    · rw [row, if_neg (by omega)]
      split
      · rw [List.length_append]
        show ((a.2 (120 + r)).length + 1 : Int) ≤ 100
        omega
      · exact (A5 r2 h1).1
    · rw [row, if_neg (by omega)] at hy
      show b.1 38 y = 2 ∧ (b.1 39 y).toInt = (r2 : Int)
      have old : y ∈ a.2 (120 + r2) → b.1 38 y = 2 ∧ (b.1 39 y).toInt = (r2 : Int) := by
        intro hy
        have ne : ¬ y = x := fun e => noheap r2 h1 (by rw [← e]; exact hy)
        obtain ⟨i1, i2, _⟩ := fld y ne
        rw [i1, i2]
        exact (A5 r2 h1).2 y hy
      split at hy
      · next e =>
        have er : r2 = r := by omega
        rcases List.mem_append.1 hy with q | q
        · exact old (by rw [er]; exact q)
        · rw [List.mem_singleton.1 q, f38, f39, x2, er]
          exact ⟨rfl, rfl⟩
      · exact old hy
    · by_cases e : y = x
      · have h38 : b.1 38 y = 1 := h38
        rw [e, f38] at h38
        exact absurd h38 (by decide)
      · have h38 : b.1 38 y = 1 := h38
        rw [(fld y e).1] at h38
        obtain ⟨r2, c2, i1, i2, i3⟩ := A6 y hy h38
        refine ⟨r2, c2, i1, by show c2 < ln_ b r2; rw [qs_ln k]; exact i2, ?_⟩
        rw [row]
        split
        · next q => rw [q] at i3; exact fil.2 ⟨i3, e⟩
        · have h212 : c2 < 12 := by have := (A1 r2 i1).1; omega
          rw [if_neg (by omega)]
          exact i3
  · -- to sea
    have row : ∀ j, (a_drop b x (12 * r + c)).2 j = if j = 12 * r + c then (a.2 (12 * r + c)).filter (fun z => decide (¬ z = x)) else a.2 j := by
      intro j
      have e1 : b.2 = a.2 := by rw [g5]; rfl
      show (if j = 12 * r + c then (b.2 (12 * r + c)).filter (fun z => decide (¬ z = x)) else b.2 j) = _
      rw [e1]
    have fld : ∀ y, ¬ y = x → b.1 38 y = a.1 38 y ∧ b.1 39 y = a.1 39 y ∧ b.1 40 y = a.1 40 y := by
      intro y hy
      rw [g5]
      exact ⟨w_updN hy, w_updN hy, w_updN hy⟩
    have f38 : b.1 38 x = 4 := by rw [g5]; exact w_updS
    refine ⟨by rw [g5]; rfl, s1, fun j y hy => ?_, fun j => ?_, fun r2 c2 h1 h2 => ⟨?_, fun y hy => ?_⟩, fun r2 h1 => ⟨?_, fun y hy => ?_⟩, fun y hy h38 => ?_⟩
    · refine tr ?_
      rw [row] at hy
      split at hy
      · next e => rw [e]; exact A2 _ y (fil.1 hy).1
      · exact A2 j y hy
    · rw [row]
      split
      · exact (A3 _).filter _
      · exact A3 j
    · have h2 : c2 < ln_ b r2 := h2
      rw [qs_ln k] at h2
      have bd := (A4 r2 c2 h1 h2).1
      rw [row]
      show ((if 12 * r2 + c2 = 12 * r + c then _ else _ : List Nat).length : Int) ≤ (b.1 15 r2).toInt
      rw [k 15 (by decide) (by decide) (by decide)]
      split
      · next e =>
        have := List.length_filter_le (fun z => decide (¬ z = x)) (a.2 (12 * r + c))
        rw [e] at bd
        omega
      · exact bd
    · have h2 : c2 < ln_ b r2 := h2
      rw [qs_ln k] at h2
      rw [row] at hy
      have hh : ¬ y = x ∧ y ∈ a.2 (12 * r2 + c2) := by
        split at hy
        · next e =>
          obtain ⟨i1, i2⟩ := fil.1 hy
          rw [e]
          exact ⟨i2, i1⟩
        · next e => exact ⟨fun q => e (only r2 c2 h1 h2 (by rw [← q]; exact hy)), hy⟩
      obtain ⟨i1, i2, i3⟩ := fld y hh.1
      show b.1 38 y = 1 ∧ (b.1 39 y).toInt = (r2 : Int) ∧ (b.1 40 y).toInt = (c2 : Int)
      rw [i1, i2, i3]
      exact (A4 r2 c2 h1 h2).2 y hh.2
    · rw [row, if_neg (by omega)]
      exact (A5 r2 h1).1
    · rw [row, if_neg (by omega)] at hy
      have ne : ¬ y = x := fun e => noheap r2 h1 (by rw [← e]; exact hy)
      obtain ⟨i1, i2, _⟩ := fld y ne
      show b.1 38 y = 2 ∧ (b.1 39 y).toInt = (r2 : Int)
      rw [i1, i2]
      exact (A5 r2 h1).2 y hy
    · by_cases e : y = x
      · have h38 : b.1 38 y = 1 := h38
        rw [e, f38] at h38
        exact absurd h38 (by decide)
      · have h38 : b.1 38 y = 1 := h38
        rw [(fld y e).1] at h38
        obtain ⟨r2, c2, i1, i2, i3⟩ := A6 y hy h38
        refine ⟨r2, c2, i1, by show c2 < ln_ b r2; rw [qs_ln k]; exact i2, ?_⟩
        rw [row]
        split
        · next q => rw [q] at i3; exact fil.2 ⟨i3, e⟩
        · exact i3
