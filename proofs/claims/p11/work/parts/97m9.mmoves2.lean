/-! the reference: a log goes, all go -/
theorem a_mv_38 {a : ra_T} {x r c t : Nat} (h38 : a.1 38 x = 1) : (a_mv a x r c t).1 38 = a.1 38 := by
  unfold a_mv
  split
  · rfl
  · exact upd_id h38
theorem a_mv_39 {a : ra_T} {x r c t : Nat} (h39 : a.1 39 x = nI r) : (a_mv a x r c t).1 39 = a.1 39 := by
  unfold a_mv
  split
  · rfl
  · exact upd_id h39
theorem a_mv_40 {a : ra_T} {x r c t : Nat} (h40 : (a.1 40 x).toInt = (c : Int)) (ht : t ≤ 500) : ((a_mv a x r c t).1 40 x).toInt = (t : Int) := by
  unfold a_mv
  split
  · next e => rw [e]; exact h40
  · show (upd (a.1 40) x (nI t) x).toInt = _
    rw [w_updS, t_nI ht]
theorem a_mv_ek {a : ra_T} {x r c t : Nat} (r10 : r < 10) (c12 : c < 12) (t12 : t < 12) (hm : -1 ≤ (a.1 13 r).toInt ∧ (a.1 13 r).toInt < (r : Int)) : a_ek (a_mv a x r c t) r x = a_ek a r x := by
  have k := qs_mv (a := a) (x := x) (r := r) (c := c) (t := t)
  have row : ∀ j, j ≠ 12 * r + c → j ≠ 12 * r + t → (a_mv a x r c t).2 j = a.2 j := by
    intro j h1 h2
    rw [a_mv_row]
    by_cases e : t = c
    · rw [if_pos e]
    · rw [if_neg e, if_neg h1, if_neg h2]
  unfold a_ek
  rw [k 22 (by decide) (by decide) (by decide), k 27 (by decide) (by decide) (by decide), k 35 (by decide) (by decide) (by decide), k 28 (by decide) (by decide) (by decide), k 21 (by decide) (by decide) (by decide), k 19 (by decide) (by decide) (by decide), k 13 (by decide) (by decide) (by decide), row (120 + r) (by omega) (by omega)]
  by_cases e : a.1 13 r = -1
  · rw [if_pos e, if_pos e]
  · have e' := e
    rw [ki_eq, ki_zm] at e'
    obtain ⟨q, hq⟩ : ∃ q : Nat, (a.1 13 r).toInt = (q : Int) := ⟨(a.1 13 r).toInt.toNat, by omega⟩
    have eq : (a.1 13 r).toNatClampNeg = q := ki_toN hq
    have eo : a_open (a_mv a x r c t) q 0 = a_open a q 0 := by
      unfold a_open
      rw [row (12 * q + 0) (by omega) (by omega), k 15 (by decide) (by decide) (by decide), k 33 (by decide) (by decide) (by decide)]
    rw [eq, eo]
/-- from where it lies now it is as from where it lay -/
theorem a_mv_heap {a : ra_T} {x r c t : Nat} (r10 : r < 10) (c12 : c < 12) (t12 : t < 12) (h38 : a.1 38 x = 1) (h39 : a.1 39 x = nI r) (hx : t = c ∨ ¬ x ∈ a.2 (12 * r + t)) : a_drop (a_heap (a_mv a x r c t) x r) x (12 * r + t) = a_drop (a_heap a x r) x (12 * r + c) := by
  by_cases e : t = c
  · rw [e, a_mv_c]
  have nx := hx.resolve_left e
  have k := qs_mv (a := a) (x := x) (r := r) (c := c) (t := t)
  refine ra_ext ?_ (a_mv_39 h39) ?_ (fun f h1 h2 h3 => ?_) (fun j => ?_)
  · show upd ((a_mv a x r c t).1 38) x 2 = upd (a.1 38) x 2
    rw [a_mv_38 h38]
  · show upd ((a_mv a x r c t).1 40) x (-1) = upd (a.1 40) x (-1)
    rw [a_mv_n e]
    exact w_upd2
  · rw [qs_drop (qs_heap (a := a) (x := x) (r := r)) f h1 h2 h3, qs_drop (qs_heap (a := a_mv a x r c t) (x := x) (r := r)) f h1 h2 h3]
    exact k f h1 h2 h3
  · show (if j = 12 * r + t then ((if 12 * r + t = 120 + r then _ else (a_mv a x r c t).2 (12 * r + t)).filter (fun z => decide (¬ z = x))) else (if j = 120 + r then (a_mv a x r c t).2 (120 + r) ++ [x] else (a_mv a x r c t).2 j)) = (if j = 12 * r + c then ((if 12 * r + c = 120 + r then _ else a.2 (12 * r + c)).filter (fun z => decide (¬ z = x))) else (if j = 120 + r then a.2 (120 + r) ++ [x] else a.2 j))
    rw [if_neg (show ¬ 12 * r + t = 120 + r by omega), if_neg (show ¬ 12 * r + c = 120 + r by omega), a_mv_row, a_mv_row, a_mv_row, if_neg e, if_neg e, if_neg e, if_neg (show ¬ 12 * r + t = 12 * r + c by omega), if_pos rfl, fil_app nx, if_neg (show ¬ 120 + r = 12 * r + c by omega), if_neg (show ¬ 120 + r = 12 * r + t by omega)]
    by_cases j1 : j = 12 * r + t
    · rw [if_pos j1, if_neg (by omega), if_neg (by omega), j1]
    · rw [if_neg j1]
      by_cases j2 : j = 120 + r
      · rw [if_pos j2, if_neg (by omega), if_pos j2]
      · rw [if_neg j2, if_neg j1]
        by_cases j3 : j = 12 * r + c
        · rw [if_pos j3, if_pos j3]
        · rw [if_neg j3, if_neg j3, if_neg j2]
theorem a_mv_sea {a : ra_T} {x r c t : Nat} (h38 : a.1 38 x = 1) (h39 : a.1 39 x = nI r) (hx : t = c ∨ ¬ x ∈ a.2 (12 * r + t)) : a_drop (a_sea (a_mv a x r c t) x) x (12 * r + t) = a_drop (a_sea a x) x (12 * r + c) := by
  by_cases e : t = c
  · rw [e, a_mv_c]
  have nx := hx.resolve_left e
  have k := qs_mv (a := a) (x := x) (r := r) (c := c) (t := t)
  refine ra_ext ?_ ?_ ?_ (fun f h1 h2 h3 => ?_) (fun j => ?_)
  · show upd ((a_mv a x r c t).1 38) x 4 = upd (a.1 38) x 4
    rw [a_mv_38 h38]
  · show upd ((a_mv a x r c t).1 39) x (-1) = upd (a.1 39) x (-1)
    rw [a_mv_39 h39]
  · show upd ((a_mv a x r c t).1 40) x (-1) = upd (a.1 40) x (-1)
    rw [a_mv_n e]
    exact w_upd2
  · rw [qs_drop (qs_sea (a := a) (x := x)) f h1 h2 h3, qs_drop (qs_sea (a := a_mv a x r c t) (x := x)) f h1 h2 h3]
    exact k f h1 h2 h3
  · show (if j = 12 * r + t then ((a_mv a x r c t).2 (12 * r + t)).filter (fun z => decide (¬ z = x)) else (a_mv a x r c t).2 j) = (if j = 12 * r + c then (a.2 (12 * r + c)).filter (fun z => decide (¬ z = x)) else a.2 j)
    rw [a_mv_row, a_mv_row, if_neg e, if_neg e, if_neg (show ¬ 12 * r + t = 12 * r + c by omega), if_pos rfl, fil_app nx]
    by_cases j1 : j = 12 * r + t
    · rw [if_pos j1, if_neg (by omega), j1]
    · rw [if_neg j1]
      by_cases j3 : j = 12 * r + c
      · rw [if_pos j3, if_pos j3]
      · rw [if_neg j3, if_neg j3, if_neg j1]
theorem a_mv_take {a : ra_T} {x r c t q : Nat} (hq : q < r) (c12 : c < 12) (t12 : t < 12) (h38 : a.1 38 x = 1) (h39 : a.1 39 x = nI r) (hx : t = c ∨ ¬ x ∈ a.2 (12 * r + t)) : a_drop (a_take (a_mv a x r c t) x q 0) x (12 * r + t) = a_drop (a_take a x q 0) x (12 * r + c) := by
  by_cases e : t = c
  · rw [e, a_mv_c]
  have nx := hx.resolve_left e
  have k := qs_mv (a := a) (x := x) (r := r) (c := c) (t := t)
  refine ra_ext ?_ ?_ ?_ (fun f h1 h2 h3 => ?_) (fun j => ?_)
  · show upd ((a_mv a x r c t).1 38) x 1 = upd (a.1 38) x 1
    rw [a_mv_38 h38]
  · show upd ((a_mv a x r c t).1 39) x (nI q) = upd (a.1 39) x (nI q)
    rw [a_mv_39 h39]
  · show upd ((a_mv a x r c t).1 40) x (nI 0) = upd (a.1 40) x (nI 0)
    rw [a_mv_n e]
    exact w_upd2
  · rw [qs_drop (qs_take (a := a) (x := x) (r := q) (c := 0)) f h1 h2 h3, qs_drop (qs_take (a := a_mv a x r c t) (x := x) (r := q) (c := 0)) f h1 h2 h3]
    exact k f h1 h2 h3
  · show (if j = 12 * r + t then ((if 12 * r + t = 12 * q + 0 then _ else (a_mv a x r c t).2 (12 * r + t)).filter (fun z => decide (¬ z = x))) else (if j = 12 * q + 0 then (a_mv a x r c t).2 (12 * q + 0) ++ [x] else (a_mv a x r c t).2 j)) = (if j = 12 * r + c then ((if 12 * r + c = 12 * q + 0 then _ else a.2 (12 * r + c)).filter (fun z => decide (¬ z = x))) else (if j = 12 * q + 0 then a.2 (12 * q + 0) ++ [x] else a.2 j))
    rw [if_neg (show ¬ 12 * r + t = 12 * q + 0 by omega), if_neg (show ¬ 12 * r + c = 12 * q + 0 by omega), a_mv_row, a_mv_row, a_mv_row, if_neg e, if_neg e, if_neg e, if_neg (show ¬ 12 * r + t = 12 * r + c by omega), if_pos rfl, fil_app nx, if_neg (show ¬ 12 * q + 0 = 12 * r + c by omega), if_neg (show ¬ 12 * q + 0 = 12 * r + t by omega)]
    by_cases j1 : j = 12 * r + t
    · rw [if_pos j1, if_neg (by omega), if_neg (by omega), j1]
    · rw [if_neg j1]
      by_cases j2 : j = 12 * q + 0
      · rw [if_pos j2, if_neg (by omega), if_pos j2]
      · rw [if_neg j2, if_neg j1]
        by_cases j3 : j = 12 * r + c
        · rw [if_pos j3, if_pos j3]
        · rw [if_neg j3, if_neg j3, if_neg j2]
/-- what all rows keep to, wherever they are -/
def rsz_ (a : ra_T) : Prop := (∀ j, j < 120 → (a.2 j).length ≤ 20) ∧ ∀ q, q < 10 → (a.2 (120 + q)).length ≤ 100
theorem a_on_ek {a : ra_T} {r c sp x : Nat} : a_go a r c sp x = if 0 < (a_jump a r sp c).2 ∧ (a_jump a r sp c).1 + 1 = ln_ a r then (if a_ek a r x = 1 then a_drop (a_heap a x r) x (12 * r + c) else if a_ek a r x = 2 then a_drop (a_sea a x) x (12 * r + c) else if a_ek a r x = 3 then a_drop (a_take a x (a.1 13 r).toNatClampNeg 0) x (12 * r + c) else a_mv a x r c (a_jump a r sp c).1) else a_mv a x r c (a_jump a r sp c).1 := by
  have last : (match (if (a_jump a r sp c).1 = c then none else some (a_take a x r (a_jump a r sp c).1)) with
      | some b => a_drop b x (12 * r + c)
      | none => a) = a_mv a x r c (a_jump a r sp c).1 := by
    unfold a_mv
    split
    · next b e =>
      split at e
      · exact absurd e (by simp)
      · next h => rw [if_neg h, Option.some.inj e]
    · next e =>
      split at e
      · next h => rw [if_pos h]
      · exact absurd e (by simp)
  unfold a_go a_on
  rw [a_exit_ek]
  by_cases hh : 0 < (a_jump a r sp c).2 ∧ (a_jump a r sp c).1 + 1 = ln_ a r
  · rw [if_pos hh, if_pos hh]
    by_cases e1 : a_ek a r x = 1
    · (rw [if_pos e1, if_pos e1]) <;> rfl
    · rw [if_neg e1, if_neg e1]
      by_cases e2 : a_ek a r x = 2
      · (rw [if_pos e2, if_pos e2]) <;> rfl
      · rw [if_neg e2, if_neg e2]
        by_cases e3 : a_ek a r x = 3
        · (rw [if_pos e3, if_pos e3]) <;> rfl
        · rw [if_neg e3, if_neg e3]
          exact last
  · rw [if_neg hh, if_neg hh]
    exact last
theorem vr_go25 {a : ra_T} {x r c sp nr nl : Nat} {xi ri si : Int32} {Q : km_S → Prop} {μ : km_S} (h10 : nr ≤ 10) (A : ao_ nr nl a) (S : rsz_ a) (hr : r < nr) (hc : c < ln_ a r) (hxm : x ∈ a.2 (12 * r + c)) (hx : xi.toInt = (x : Int)) (hri : ri.toInt = (r : Int)) (hsi : si.toInt = (sp : Int)) (h6 : sp ≤ 6) (hroom : ¬ a.1 22 r = 0 → (a.1 28 r).toInt ≤ 100) (hjam : a.1 33 (12 * r + c) = 0) (kk : ∀ u, rA_ (a_go a r c sp x) u → rg_ μ u → Q u) : ∀ (j s t : Nat) (l4 : Int32) (u : km_S), l4.toInt = (sp : Int) - (s : Int) → s ≤ sp → c ≤ t → t < ln_ a r → (t = c ∨ a_open a r t = true) → a_jump a r s t = a_jump a r sp c → rA_ (a_mv a x r c t) u → rg_ μ u → vX12_go_25 (vX12_go_98 Q) Q j xi ri si l4 u := by
  obtain ⟨A1, A2, A3, A4, A5, A6⟩ := A
  obtain ⟨n1, n2, n3, n4, n5⟩ := A1 r hr
  obtain ⟨x38, x39, x40⟩ := (A4 r c hr hc).2 x hxm
  have x39' : a.1 39 x = nI r := nI_at x39 (by omega)
  have er : ri.toNatClampNeg = r := ki_toN hri
  have ex : xi.toNatClampNeg = x := ki_toN hx
  have z12 : (12 : Int32).toInt = ((12 : Nat) : Int) := by decide
  have nin : ∀ t, t < ln_ a r → t = c ∨ ¬ x ∈ a.2 (12 * r + t) := by
    intro t ht
    by_cases e : t = c
    · exact .inl e
    · refine .inr (fun q => e ?_)
      have := ((A4 r t hr ht).2 x q).2.2
      omega
  intro j
  induction j with
  | zero => intro _ _ _ _ _ _ _ _ _ _ _ _; exact trivial
  | succ j ih =>
    intro s t l4 u h4 hs hct ht hto hj h g
    have k := qs_mv (a := a) (x := x) (r := r) (c := c) (t := t)
    have m40 := a_mv_40 (r := r) (t := t) x40 (by omega)
    have S1 : ∀ q, q < 120 → ((a_mv a x r c t).2 q).length ≤ 20 := by
      intro q hq
      rw [a_mv_row]
      split
      · exact S.1 q hq
      · next e =>
        split
        · have := List.length_filter_le (fun z => decide (¬ z = x)) (a.2 (12 * r + c))
          have := S.1 (12 * r + c) (by omega)
          omega
        · split
          · have ho := (a_openT.1 (hto.resolve_left e)).1
            rw [List.length_append]
            show (a.2 (12 * r + t)).length + 1 ≤ 20
            omega
          · exact S.1 q hq
    have S2 : ∀ q, q < 10 → ((a_mv a x r c t).2 (120 + q)).length ≤ 100 := by
      intro q hq
      rw [a_mv_row]
      split
      · exact S.2 q hq
      · rw [if_neg (by omega), if_neg (by omega)]
        exact S.2 q hq
    have jam0 : a.1 33 (12 * r + t) = 0 := by
      rcases hto with e | e
      · rw [e]; exact hjam
      · exact (a_openT.1 e).2
    have u40 : km_a u 40 x = (a_mv a x r c t).1 40 x := congrFun (h.1 40 (by decide)) x
    obtain ⟨w4, ew4⟩ : ∃ w, w = km_a u 40 x := ⟨_, rfl⟩
    have hw4 : w4.toInt = (t : Int) := by rw [ew4, u40]; exact m40
    obtain ⟨w, ew, hw⟩ : ∃ w, w = 12 * ri + w4 ∧ w.toInt = ((12 * r + t : Nat) : Int) := ⟨_, rfl, ki_addN (ki_mulN z12 hri (by omega)) hw4 (by omega)⟩
    obtain ⟨w5, ew5, hw5⟩ : ∃ v, v = w4 + 1 ∧ v.toInt = ((t + 1 : Nat) : Int) := ⟨_, rfl, ki_addN hw4 ki_z1 (by omega)⟩
    have e33 : km_a u 33 (12 * r + t) = a.1 33 (12 * r + t) := by
      rw [h.1 33 (by decide), k 33 (by decide) (by decide) (by decide)]
    have e14 : (km_a u 14 r).toInt = (ln_ a r : Int) := by
      rw [h.1 14 (by decide), k 14 (by decide) (by decide) (by decide)]
      show (a.1 14 r).toInt = ((a.1 14 r).toNatClampNeg : Int)
      have : 1 ≤ (a.1 14 r).toNatClampNeg := n2
      rw [ki_nat] at this ⊢
      omega
    unfold vX12_go_25
    rw [ki_le, hsi, h4]
    refine ⟨fun c1 => ?_, fun c1 _ v4 e4 => ?_⟩
    · have s0 : s = 0 := by omega
      subst s0
      have ej : (t, 0) = a_jump a r sp c := hj
      refine kk u ?_ g
      rw [a_on_ek, if_neg (by rw [← ej]; exact fun q => absurd q.1 (Nat.lt_irrefl 0)), ← ej]
      exact h
    · obtain ⟨s, rfl⟩ : ∃ q, s = q + 1 := ⟨s - 1, by omega⟩
      have e4' : v4 = w4 := by rw [e4, ex, ew4]
      subst e4'
      unfold vX12_at0
      dsimp only
      rw [← ew, ki_toN hw, e33, jam0, er, ← ew5]
      intro _
      refine ⟨fun _ _ => ?_, fun q => absurd rfl q⟩
      rw [ki_le, e14, hw5]
      refine ⟨fun d => ?_, fun d => ?_⟩
      · have tl : t + 1 = ln_ a r := by omega
        have ej : a_jump a r (s + 1) t = (t, s + 1) := if_neg (fun q => by have := q.1; omega)
        rw [ej] at hj
        have cond : 0 < (a_jump a r sp c).2 ∧ (a_jump a r sp c).1 + 1 = ln_ a r := by
          rw [← hj]
          exact ⟨Nat.succ_pos s, tl⟩
        have ek := a_mv_ek (x := x) (t := t) (by omega : r < 10) (by omega : c < 12) (by omega) ⟨n4, n5⟩
        have eg := a_on_ek (a := a) (r := r) (c := c) (sp := sp) (x := x)
        rw [if_pos cond] at eg
        have e1 : (a_jump a r sp c).1 = t := by rw [← hj]
        rw [e1] at eg
        have nx := nin t ht
        unfold vX12_go_98
        refine vr_leave h hx hri (by omega) (t := t) (by omega) S1 S2 (by rw [a_mv_38 x38]; exact x38) (by rw [a_mv_39 x39']; exact x39) m40 (by rw [k 13 (by decide) (by decide) (by decide)]; exact ⟨n4, n5⟩) (fun q hq => by rw [k 15 (by decide) (by decide) (by decide)]; exact (A1 q (by omega)).2.2.1.2) (by rw [k 22 (by decide) (by decide) (by decide), k 28 (by decide) (by decide) (by decide)]; exact hroom) (fun e0 => ?_) (fun e0 v hv gv => ?_) (fun e0 v hv gv => ?_) (fun e0 v hv gv => ?_)
        · rw [ek] at e0
          refine kk u ?_ g
          rw [eg, e0]
          exact h
        · rw [ek] at e0
          rw [a_mv_heap (by omega) (by omega) (by omega) x38 x39' nx] at hv
          refine kk v ?_ (rg_trans g gv)
          rw [eg, e0]
          exact hv
        · rw [ek] at e0
          rw [a_mv_sea x38 x39' nx] at hv
          refine kk v ?_ (rg_trans g gv)
          rw [eg, e0]
          exact hv
        · rw [ek] at e0
          have nm : ¬ a.1 13 r = -1 := by
            intro q
            have e0 := e0
            unfold a_ek at e0
            split at e0
            · split at e0 <;> exact absurd e0 (by decide)
            · split at e0
              · exact absurd e0 (by decide)
              · first
                  | exact absurd e0 (by decide)
                  | (rw [if_pos q] at e0; exact absurd e0 (by decide))
          rw [ki_eq, ki_zm] at nm
          have hq : (a.1 13 r).toNatClampNeg < r := by rw [ki_nat]; omega
          rw [k 13 (by decide) (by decide) (by decide), a_mv_take hq (by omega) (by omega) x38 x39' nx] at hv
          refine kk v ?_ (rg_trans g gv)
          rw [eg, e0]
          exact hv
      · have tl : t + 1 < ln_ a r := by omega
        have eo : a_open (a_mv a x r c t) r (t + 1) = a_open a r (t + 1) := by
          unfold a_open
          rw [show (a_mv a x r c t).2 (12 * r + (t + 1)) = a.2 (12 * r + (t + 1)) by rw [a_mv_row]; split; rfl; rw [if_neg (by omega), if_neg (by omega)], k 15 (by decide) (by decide) (by decide), k 33 (by decide) (by decide) (by decide)]
        refine vr_isOpen h hri hw5 (by omega) (by omega) (fun o => ⟨fun _ => ?_, fun q => absurd q (by decide)⟩) (fun o => ⟨fun q => absurd rfl q, fun _ => ?_⟩)
        · rw [eo] at o
          have ho := (a_openT.1 o).1
          refine vr_lift h hx (by rw [a_mv_39 x39']; exact x39) m40 (by omega) (by omega) S1 (fun u1 h1 l1 => ?_)
          have S3 : ∀ q, q < 120 → ((a_drop (a_mv a x r c t) x (12 * r + t)).2 q).length ≤ 20 := by
            intro q hq
            show (if q = 12 * r + t then _ else (a_mv a x r c t).2 q : List Nat).length ≤ 20
            split
            · have := List.length_filter_le (fun z => decide (¬ z = x)) ((a_mv a x r c t).2 (12 * r + t))
              have := S1 (12 * r + t) (by omega)
              omega
            · exact S1 q hq
          have rowt : (a_drop (a_mv a x r c t) x (12 * r + t)).2 (12 * r + (t + 1)) = a.2 (12 * r + (t + 1)) := by
            show (if 12 * r + (t + 1) = 12 * r + t then _ else (a_mv a x r c t).2 (12 * r + (t + 1))) = _
            rw [if_neg (by omega), a_mv_row]
            split
            · rfl
            · rw [if_neg (by omega), if_neg (by omega)]
          refine vr_lay h1 hx hri hw5 (by omega) (by omega) S3 (by rw [rowt]; omega) (fun u2 h2 g1 g2 => ?_)
          rw [a_mv_step hct x38 x39' (nin t ht)] at h2
          intro v16 e16
          have ej : a_jump a r (s + 1) t = a_jump a r s (t + 1) := if_pos ⟨tl, o⟩
          refine ih s (t + 1) v16 u2 ?_ (by omega) (by omega) tl (.inr o) (by rw [← ej]; exact hj) h2 (rg_lay (rg_rl g l1) g1 g2)
          rw [e16, ki_add (by rw [h4, ki_z1]; omega) (by rw [h4, ki_z1]; omega), h4, ki_z1]
          omega
        · rw [eo] at o
          have ej : a_jump a r (s + 1) t = (t, s + 1) := if_neg (fun q => absurd q.2 (b_no o))
          rw [ej] at hj
          refine kk u ?_ g
          rw [a_on_ek, if_neg (by rw [← hj]; intro q; have := q.2; omega), ← hj]
          exact h
