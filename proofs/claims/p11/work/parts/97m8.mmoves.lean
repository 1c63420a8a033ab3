/-! the reference's moves -/
theorem upd_id {f : Nat → Int32} {i : Nat} {v : Int32} (h : f i = v) : upd f i v = f := by
  funext j
  by_cases c : j = i
  · rw [c, w_updS, h]
  · rw [w_updN c]
theorem ra_ext {a b : ra_T} (h38 : a.1 38 = b.1 38) (h39 : a.1 39 = b.1 39) (h40 : a.1 40 = b.1 40) (ho : ∀ f, f ≠ 38 → f ≠ 39 → f ≠ 40 → a.1 f = b.1 f) (h2 : ∀ j, a.2 j = b.2 j) : a = b := by
  refine Prod.ext (funext fun f => ?_) (funext h2)
  by_cases c1 : f = 38
  · rw [c1]; exact h38
  · by_cases c2 : f = 39
    · rw [c2]; exact h39
    · by_cases c3 : f = 40
      · rw [c3]; exact h40
      · exact ho f c1 c2 c3
theorem fil_non {L : List Nat} {x : Nat} (h : ¬ x ∈ L) : L.filter (fun z => decide (¬ z = x)) = L := by
  rw [List.filter_eq_self]
  intro y hy
  exact decide_eq_true (fun e => h (by rw [← e]; exact hy))
theorem fil_app {L : List Nat} {x : Nat} (h : ¬ x ∈ L) : (L ++ [x]).filter (fun z => decide (¬ z = x)) = L := by
  rw [List.filter_append, fil_non h, List.filter_cons_of_neg (by simp), List.filter_nil, List.append_nil]
/-- how a log leaves a reach: 0 not, 1 into the heap, 2 to sea, 3 into the next reach -/
def a_ek (a : ra_T) (r x : Nat) : Nat :=
  if ¬ a.1 22 r = 0 ∧ ((a.1 27 r >>> (a.1 35 x &&& 31)) &&& 1) = 1 then (if ((a.2 (120 + r)).length : Int) < (a.1 28 r).toInt then 1 else 0)
  else if ¬ a.1 21 r = 0 ∧ ¬ 50 ≤ a.1 19 r then 0
  else if a.1 13 r = -1 then 2 else if a_open a (a.1 13 r).toNatClampNeg 0 = true then 3 else 0
theorem a_exit_ek {a : ra_T} {r x : Nat} : a_exit a r x = if a_ek a r x = 1 then some (a_heap a x r) else if a_ek a r x = 2 then some (a_sea a x) else if a_ek a r x = 3 then some (a_take a x (a.1 13 r).toNatClampNeg 0) else none := by
  unfold a_exit a_ek
  repeat' split
  all_goals first
    | rfl
    | (exfalso; omega)
    | skip
/-- a log on its way within its reach -/
def a_mv (a : ra_T) (x r c t : Nat) : ra_T := if t = c then a else a_drop (a_take a x r t) x (12 * r + c)
theorem a_mv_c {a : ra_T} {x r c : Nat} : a_mv a x r c c = a := if_pos rfl
theorem a_mv_n {a : ra_T} {x r c t : Nat} (h : ¬ t = c) : a_mv a x r c t = a_drop (a_take a x r t) x (12 * r + c) := if_neg h
theorem qs_mv {a : ra_T} {x r c t : Nat} : qs_ a (a_mv a x r c t) := by
  unfold a_mv
  split
  · exact qs_refl
  · exact qs_drop qs_take
theorem a_mv_row {a : ra_T} {x r c t j : Nat} : (a_mv a x r c t).2 j = if t = c then a.2 j else if j = 12 * r + c then (a.2 (12 * r + c)).filter (fun z => decide (¬ z = x)) else if j = 12 * r + t then a.2 (12 * r + t) ++ [x] else a.2 j := by
  unfold a_mv
  split
  · rfl
  · next h =>
    show (if j = 12 * r + c then ((if 12 * r + c = 12 * r + t then a.2 (12 * r + t) ++ [x] else a.2 (12 * r + c)).filter (fun z => decide (¬ z = x))) else (if j = 12 * r + t then a.2 (12 * r + t) ++ [x] else a.2 j)) = _
    rw [if_neg (show ¬ 12 * r + c = 12 * r + t by omega)]
theorem a_lay_take {a : ra_T} {x k r c : Nat} (hk : k ≠ 12 * r + c) (h38 : a.1 38 x = 1) : a_lay (a_drop a x k) x r c = a_drop (a_take a x r c) x k := by
  refine ra_ext ?_ rfl rfl (fun f h1 h2 h3 => ?_) (fun j => ?_)
  · show a.1 38 = upd (a.1 38) x 1
    exact (upd_id h38).symm
  · rw [qs_drop (qs_take (a := a) (x := x) (r := r) (c := c)) f h1 h2 h3]
    exact (fs_n h3).trans (fs_n h2)
  · show (if j = 12 * r + c then (if 12 * r + c = k then _ else a.2 (12 * r + c)) ++ [x] else (if j = k then (a.2 k).filter (fun z => decide (¬ z = x)) else a.2 j)) = (if j = k then ((if k = 12 * r + c then _ else a.2 k).filter (fun z => decide (¬ z = x))) else (if j = 12 * r + c then a.2 (12 * r + c) ++ [x] else a.2 j))
    rw [if_neg (Ne.symm hk), if_neg hk]
    by_cases e : j = k
    · rw [if_pos e, if_neg (by rw [e]; exact hk), if_pos e]
    · rw [if_neg e, if_neg e]
/-- one step more -/
theorem a_mv_step {a : ra_T} {x r c t : Nat} (hct : c ≤ t) (h38 : a.1 38 x = 1) (h39 : a.1 39 x = nI r) (hx : t = c ∨ ¬ x ∈ a.2 (12 * r + t)) : a_lay (a_drop (a_mv a x r c t) x (12 * r + t)) x r (t + 1) = a_mv a x r c (t + 1) := by
  have k := qs_mv (a := a) (x := x) (r := r) (c := c) (t := t)
  have m38 : (a_mv a x r c t).1 38 = a.1 38 := by
    unfold a_mv
    split
    · rfl
    · exact upd_id h38
  have m39 : (a_mv a x r c t).1 39 = a.1 39 := by
    unfold a_mv
    split
    · rfl
    · exact upd_id h39
  rw [a_mv_n (t := t + 1) (by omega)]
  refine ra_ext ?_ ?_ ?_ (fun f h1 h2 h3 => ?_) (fun j => ?_)
  · show (a_mv a x r c t).1 38 = upd (a.1 38) x 1
    rw [m38, upd_id h38]
  · show upd ((a_mv a x r c t).1 39) x (nI r) = upd (a.1 39) x (nI r)
    rw [m39]
  · show upd ((a_mv a x r c t).1 40) x (nI (t + 1)) = upd (a.1 40) x (nI (t + 1))
    unfold a_mv
    split
    · rfl
    · show upd (upd (a.1 40) x (nI t)) x (nI (t + 1)) = _
      exact w_upd2
  · rw [qs_drop (qs_take (a := a) (x := x) (r := r) (c := t + 1)) f h1 h2 h3]
    exact (fs_n h3).trans ((fs_n h2).trans (k f h1 h2 h3))
  · have L : (a_lay (a_drop (a_mv a x r c t) x (12 * r + t)) x r (t + 1)).2 j = if j = 12 * r + (t + 1) then (a_mv a x r c t).2 (12 * r + (t + 1)) ++ [x] else if j = 12 * r + t then ((a_mv a x r c t).2 (12 * r + t)).filter (fun z => decide (¬ z = x)) else (a_mv a x r c t).2 j := by
      show (if j = 12 * r + (t + 1) then (if 12 * r + (t + 1) = 12 * r + t then _ else (a_mv a x r c t).2 (12 * r + (t + 1))) ++ [x] else (if j = 12 * r + t then ((a_mv a x r c t).2 (12 * r + t)).filter (fun z => decide (¬ z = x)) else (a_mv a x r c t).2 j)) = _
      rw [if_neg (show ¬ 12 * r + (t + 1) = 12 * r + t by omega)]
    have R : (a_drop (a_take a x r (t + 1)) x (12 * r + c)).2 j = if j = 12 * r + c then (a.2 (12 * r + c)).filter (fun z => decide (¬ z = x)) else if j = 12 * r + (t + 1) then a.2 (12 * r + (t + 1)) ++ [x] else a.2 j := by
      show (if j = 12 * r + c then ((if 12 * r + c = 12 * r + (t + 1) then _ else a.2 (12 * r + c)).filter (fun z => decide (¬ z = x))) else (if j = 12 * r + (t + 1) then a.2 (12 * r + (t + 1)) ++ [x] else a.2 j)) = _
      rw [if_neg (show ¬ 12 * r + c = 12 * r + (t + 1) by omega)]
    rw [L, R, a_mv_row, a_mv_row, a_mv_row]
    by_cases e : t = c
    · rw [if_pos e, if_pos e, if_pos e, e]
      by_cases j1 : j = 12 * r + (c + 1)
      · rw [if_pos j1, if_neg (by omega), if_pos j1]
      · rw [if_neg j1]
        by_cases j2 : j = 12 * r + c
        · rw [if_pos j2, if_pos j2]
        · rw [if_neg j2, if_neg j2, if_neg j1]
    · have nx : ¬ x ∈ a.2 (12 * r + t) := hx.resolve_left e
      rw [if_neg e, if_neg e, if_neg e, if_neg (show ¬ 12 * r + (t + 1) = 12 * r + c by omega), if_neg (show ¬ 12 * r + (t + 1) = 12 * r + t by omega), if_neg (show ¬ 12 * r + t = 12 * r + c by omega), if_pos rfl, fil_app nx]
      by_cases j1 : j = 12 * r + (t + 1)
      · rw [if_pos j1, if_neg (by omega), if_pos j1]
      · rw [if_neg j1]
        by_cases j2 : j = 12 * r + t
        · rw [if_pos j2, if_neg (by omega), if_neg j1, j2]
        · rw [if_neg j2, if_neg j2]
          by_cases j3 : j = 12 * r + c
          · rw [if_pos j3, if_pos j3]
          · rw [if_neg j3, if_neg j3, if_neg j1]
/-- what moves leave of the reference -/
def rg_ (μ u : km_S) : Prop := (∀ j, j ≠ 57 → j ≠ 68 → km_i u j = km_i μ j) ∧ ∀ f, f ∉ [29, 30, 31, 32, 38, 39, 40, 57, 68] → km_a u f = km_a μ f
theorem rg_refl {μ : km_S} : rg_ μ μ := ⟨fun _ _ _ => rfl, fun _ _ => rfl⟩
theorem rg_trans {a b c : km_S} (h : rg_ a b) (k : rg_ b c) : rg_ a c := ⟨fun j h1 h2 => (k.1 j h1 h2).trans (h.1 j h1 h2), fun f hf => (k.2 f hf).trans (h.2 f hf)⟩
theorem rg_rl {μ u v : km_S} (h : rg_ μ u) (k : rl_ u v) : rg_ μ v := rg_trans h ⟨fun j _ _ => by show v.1 j = u.1 j; rw [k.1], fun f hf => k.2.1 f (by intro e; exact hf (by rw [e]; decide)) (by intro e; exact hf (by rw [e]; decide))⟩
theorem rg_sa {μ u : km_S} {f i : Nat} {v : Int32} (h : rg_ μ u) (hf : f ∈ [29, 30, 31, 32, 38, 39, 40, 57, 68]) : rg_ μ (km_sa u f i v) := rg_trans h ⟨fun _ _ _ => rfl, fun g hg => if_neg (fun e => hg (by rw [e]; exact hf))⟩
theorem rg_lay {μ u v : km_S} (h : rg_ μ u) (k1 : ∀ f, f ≠ 31 → f ≠ 32 → f ≠ 39 → f ≠ 40 → km_a v f = km_a u f) (k2 : v.1 = u.1) : rg_ μ v := rg_trans h ⟨fun j _ _ => by show v.1 j = u.1 j; rw [k2], fun f hf => k1 f (by intro e; exact hf (by rw [e]; decide)) (by intro e; exact hf (by rw [e]; decide)) (by intro e; exact hf (by rw [e]; decide)) (by intro e; exact hf (by rw [e]; decide))⟩
theorem vr_isOpen {a : ra_T} {μ : km_S} {r c : Nat} {ri ci : Int32} {Q : Int32 → km_S → Prop} (h : rA_ a μ) (hr : ri.toInt = (r : Int)) (hc : ci.toInt = (c : Int)) (r10 : r < 10) (c12 : c < 12) (k1 : a_open a r c = true → Q 1 μ) (k0 : a_open a r c = false → Q 0 μ) : vX12_isOpen ri ci μ Q := by
  have z12 : (12 : Int32).toInt = ((12 : Nat) : Int) := by decide
  obtain ⟨w, ew, ek⟩ : ∃ w, w = 12 * ri + ci ∧ w.toInt = ((12 * r + c : Nat) : Int) := ⟨_, rfl, ki_addN (ki_mulN z12 hr (by omega)) hc (by omega)⟩
  have en : w.toNatClampNeg = 12 * r + c := ki_toN ek
  have er : ri.toNatClampNeg = r := ki_toN hr
  obtain ⟨b1, _⟩ := h.2.1 (12 * r + c) (by omega)
  unfold vX12_isOpen vX12_at0
  dsimp only
  rw [← ew, en, er, h.1 15 (by decide), h.1 33 (by decide), ki_le, b1]
  intro _ _
  refine ⟨fun d => k0 (a_openF (fun q => by have := q.1; omega)), fun d _ => ⟨fun e => k0 (a_openF (fun q => e q.2)), fun e => k1 (a_openT.2 ⟨by omega, e⟩)⟩⟩
theorem vr_leave {a : ra_T} {μ : km_S} {x r t : Nat} {xi ri : Int32} {Q : km_S → Prop} (h : rA_ a μ) (hx : xi.toInt = (x : Int)) (hr : ri.toInt = (r : Int)) (r10 : r < 10) (t12 : t < 12) (hs : ∀ j, j < 120 → (a.2 j).length ≤ 20) (hh : ∀ q, q < 10 → (a.2 (120 + q)).length ≤ 100) (h38 : a.1 38 x = 1) (h39 : (a.1 39 x).toInt = (r : Int)) (h40 : (a.1 40 x).toInt = (t : Int)) (hm : -1 ≤ (a.1 13 r).toInt ∧ (a.1 13 r).toInt < (r : Int)) (hcar : ∀ q, q < r → (a.1 15 q).toInt ≤ 20) (hroom : ¬ a.1 22 r = 0 → (a.1 28 r).toInt ≤ 100)
    (k0 : a_ek a r x = 0 → Q μ) (k1 : a_ek a r x = 1 → ∀ u, rA_ (a_drop (a_heap a x r) x (12 * r + t)) u → rg_ μ u → Q u) (k2 : a_ek a r x = 2 → ∀ u, rA_ (a_drop (a_sea a x) x (12 * r + t)) u → rg_ μ u → Q u) (k3 : a_ek a r x = 3 → ∀ u, rA_ (a_drop (a_take a x (a.1 13 r).toNatClampNeg 0) x (12 * r + t)) u → rg_ μ u → Q u) : vX12_leave xi ri μ Q := by
  have er : ri.toNatClampNeg = r := ki_toN hr
  have ex : xi.toNatClampNeg = x := ki_toN hx
  have n134 : ¬ (¬ a.1 22 r = 0 ∧ ((a.1 27 r >>> (a.1 35 x &&& 31)) &&& 1) = 1) → ¬ (¬ a.1 21 r = 0 ∧ ¬ 50 ≤ a.1 19 r) → vX12_leave_134 Q xi ri μ := by
    intro n1 n2
    have e0 : a_ek a r x = if a.1 13 r = -1 then 2 else if a_open a (a.1 13 r).toNatClampNeg 0 = true then 3 else 0 := by
      unfold a_ek
      rw [if_neg n1, if_neg n2]
    unfold vX12_leave_134
    rw [er, ex, h.1 13 (by decide)]
    intro _
    refine ⟨fun nm _ => ?_, fun nm => ?_⟩
    · rw [if_neg nm] at e0
      have nm' := nm
      rw [ki_eq, ki_zm] at nm'
      obtain ⟨q, hq⟩ : ∃ q : Nat, (a.1 13 r).toInt = (q : Int) := ⟨(a.1 13 r).toInt.toNat, by omega⟩
      have eq : (a.1 13 r).toNatClampNeg = q := ki_toN hq
      rw [eq] at e0 k3
      refine vr_isOpen h hq (c := 0) rfl (by omega) (by omega) (fun o => ⟨fun z => absurd z (by decide), fun _ => ?_⟩) (fun o => ⟨fun _ => ?_, fun z => absurd rfl z⟩)
      · rw [if_pos o] at e0
        refine vr_lift h hx h39 h40 r10 t12 hs (fun u h1 l1 => ?_)
        intro _
        have en : km_a u 13 r = a.1 13 r := by
          rw [l1.2.1 13 (by decide) (by decide)]
          exact congrFun (h.1 13 (by decide)) r
        rw [en]
        have ho := (a_openT.1 o).1
        have hcq := hcar q (by omega)
        have hs1 : ∀ j, j < 120 → ((a_drop a x (12 * r + t)).2 j).length ≤ 20 := by
          intro j hj
          show (if j = 12 * r + t then _ else a.2 j : List Nat).length ≤ 20
          split
          · have := List.length_filter_le (fun z => decide (¬ z = x)) (a.2 (12 * r + t))
            have := hs (12 * r + t) (by omega)
            omega
          · exact hs j hj
        have hrow : (a_drop a x (12 * r + t)).2 (12 * q + 0) = a.2 (12 * q + 0) := ks_n (by omega)
        refine vr_lay (c := 0) h1 hx hq (by decide) (by omega) (by omega) hs1 (by rw [hrow]; omega) (fun v h2 g1 g2 => k3 e0 v ?_ (rg_lay (rg_rl rg_refl l1) g1 g2))
        rw [a_lay_take (by omega) h38] at h2
        exact h2
      · rw [if_neg (b_no o)] at e0
        exact k0 e0
    · rw [if_pos nm] at e0
      refine vr_lift h hx h39 h40 r10 t12 hs (fun u h1 l1 => ?_)
      rintro _ μ12 rfl _ μ14 rfl _ μ16 rfl
      refine k2 e0 _ ?_ (rg_sa (rg_sa (rg_sa (rg_rl rg_refl l1) (by decide)) (by decide)) (by decide))
      exact rA_fs (rA_fs (rA_fs h1 (by decide)) (by decide)) (by decide)
  have n113 : ¬ (¬ a.1 22 r = 0 ∧ ((a.1 27 r >>> (a.1 35 x &&& 31)) &&& 1) = 1) → vX12_leave_113 Q xi ri μ := by
    intro n1
    unfold vX12_leave_113
    rw [er, h.1 21 (by decide), h.1 19 (by decide)]
    intro _
    refine ⟨fun e => n134 n1 (fun q => q.1 e), fun e _ => ⟨fun d => n134 n1 (fun q => q.2 d), fun d => k0 ?_⟩⟩
    unfold a_ek
    rw [if_neg n1, if_pos ⟨e, d⟩]
  obtain ⟨b1, b2⟩ := h.2.2.1 r r10
  have hhr := hh r r10
  unfold vX12_leave
  rw [er, ex, h.1 22 (by decide), h.1 27 (by decide), h.1 35 (by decide), h.1 28 (by decide)]
  intro _
  refine ⟨fun e => n113 (fun q => q.1 e), fun e _ _ => ⟨fun d => n113 (fun q => d q.2), fun d _ _ => ?_⟩⟩
  rw [ki_lt, b1]
  have e0 : a_ek a r x = if ((a.2 (120 + r)).length : Int) < (a.1 28 r).toInt then 1 else 0 := by
    unfold a_ek
    rw [if_pos ⟨e, d⟩]
  refine ⟨fun c => ?_, fun c => k0 (by rw [e0, if_neg c])⟩
  rw [if_pos c] at e0
  have room := hroom e
  refine vr_lift h hx h39 h40 r10 t12 hs (fun u h1 l1 => ?_)
  have u29 : km_a u 29 = km_a μ 29 := l1.2.1 29 (by decide) (by decide)
  have z100 : (100 : Int32).toInt = ((100 : Nat) : Int) := by decide
  have ei : (100 * ri + km_a u 29 r).toNatClampNeg = 100 * r + (a.2 (120 + r)).length := by
    rw [u29]
    exact ki_toN (ki_addN (ki_mulN z100 hr (by omega)) b1 (by omega))
  rw [ei]
  rintro _ _ μ32 rfl _ _ μ35 rfl _ μ37 rfl _ μ39 rfl _ _
  have h2 : rA_ (a_drop (a_heap a x r) x (12 * r + t)) (km_sa (km_sa (km_sa (km_sa u 30 (100 * r + (a.2 (120 + r)).length) xi) 29 r (km_a u 29 r + 1)) 38 x 2) 40 x (-1)) := by
    have h3 : rA_ (ks_ (a_drop a x (12 * r + t)) (120 + r) (a.2 (120 + r) ++ [x])) (km_sa (km_sa u 30 (100 * r + (a.2 (120 + r)).length) xi) 29 r (km_a u 29 r + 1)) := by
      obtain ⟨g1, g2, g3, g4⟩ := h1
      refine ⟨fun f hf => ?_, fun k hk => ?_, fun q hq => ?_, g4⟩
      · rw [show km_a (km_sa (km_sa u 30 (100 * r + (a.2 (120 + r)).length) xi) 29 r (km_a u 29 r + 1)) f = km_a u f from (if_neg (by intro e; rw [e] at hf; exact absurd hf (by decide))).trans (if_neg (by intro e; rw [e] at hf; exact absurd hf (by decide)))]
        exact g1 f hf
      · rw [ks_n (by omega)]
        exact g2 k hk
      · have rowr : (a_drop a x (12 * r + t)).2 (120 + r) = a.2 (120 + r) := ks_n (by omega)
        by_cases e2 : q = r
        · rw [e2, ks_s]
          refine ⟨?_, fun i y hy => ?_⟩
          · show (upd (u.2.1 29) r (km_a u 29 r + 1) r).toInt = _
            have b1' : (km_a u 29 r).toInt = ((a.2 (120 + r)).length : Int) := by rw [u29]; exact b1
            rw [w_updS, ki_add (by rw [b1', ki_z1]; omega) (by rw [b1', ki_z1]; omega), b1', ki_z1, List.length_append]
            rfl
          · show (upd (u.2.1 30) (100 * r + (a.2 (120 + r)).length) xi (100 * r + i)).toInt = _
            by_cases c2 : i < (a.2 (120 + r)).length
            · rw [w_updN (by omega)]
              rw [List.getElem?_append_left c2] at hy
              have := g3 r r10
              rw [rowr] at this
              exact this.2 i y hy
            · have hlt := (List.getElem?_eq_some_iff.1 hy).1
              rw [List.length_append] at hlt
              have hlt : i < (a.2 (120 + r)).length + 1 := hlt
              have e3 : i = (a.2 (120 + r)).length := by omega
              rw [e3, List.getElem?_append_right (Nat.le_refl _), Nat.sub_self] at hy
              have : x = y := Option.some.inj hy
              rw [e3, w_updS, hx, this]
        · rw [ks_n (by omega)]
          obtain ⟨p1, p2⟩ := g3 q hq
          refine ⟨?_, fun i y hy => ?_⟩
          · show (upd (u.2.1 29) r (km_a u 29 r + 1) q).toInt = _
            rw [w_updN e2]
            exact p1
          · show (upd (u.2.1 30) (100 * r + (a.2 (120 + r)).length) xi (100 * q + i)).toInt = _
            have hlt := (List.getElem?_eq_some_iff.1 hy).1
            have hq100 : ((a_drop a x (12 * r + t)).2 (120 + q)).length ≤ 100 := by
              have e5 : (a_drop a x (12 * r + t)).2 (120 + q) = a.2 (120 + q) := ks_n (by omega)
              rw [e5]
              exact hh q hq
            rw [w_updN (by omega)]
            exact p2 i y hy
    have h5 := rA_fs (i := x) (v := -1) (rA_fs (i := x) (v := 2) h3 (f := 38) (by decide)) (f := 40) (by decide)
    have e6 : fs_ (fs_ (ks_ (a_drop a x (12 * r + t)) (120 + r) (a.2 (120 + r) ++ [x])) 38 x 2) 40 x (-1) = a_drop (a_heap a x r) x (12 * r + t) := by
      refine ra_ext rfl rfl rfl (fun f h1 h2 h3 => ?_) (fun j => ?_)
      · rw [qs_drop (qs_heap (a := a) (x := x) (r := r)) f h1 h2 h3]
        exact (fs_n h3).trans (fs_n h1)
      · show (if j = 120 + r then a.2 (120 + r) ++ [x] else (if j = 12 * r + t then (a.2 (12 * r + t)).filter (fun z => decide (¬ z = x)) else a.2 j)) = (if j = 12 * r + t then ((if 12 * r + t = 120 + r then _ else a.2 (12 * r + t)).filter (fun z => decide (¬ z = x))) else (if j = 120 + r then a.2 (120 + r) ++ [x] else a.2 j))
        rw [if_neg (show ¬ 12 * r + t = 120 + r by omega)]
        by_cases j1 : j = 12 * r + t
        · rw [if_pos j1, if_neg (by omega), if_pos j1]
        · rw [if_neg j1, if_neg j1]
    rw [e6] at h5
    exact h5
  have g2 : rg_ μ (km_sa (km_sa (km_sa (km_sa u 30 (100 * r + (a.2 (120 + r)).length) xi) 29 r (km_a u 29 r + 1)) 38 x 2) 40 x (-1)) := rg_sa (rg_sa (rg_sa (rg_sa (rg_rl rg_refl l1) (by decide)) (by decide)) (by decide)) (by decide)
  have u29' : km_a (km_sa u 30 (100 * r + (a.2 (120 + r)).length) xi) 29 r = km_a u 29 r := rfl
  rw [u29']
  generalize km_sa (km_sa (km_sa (km_sa u 30 (100 * r + (a.2 (120 + r)).length) xi) 29 r (km_a u 29 r + 1)) 38 x 2) 40 x (-1) = v at *
  refine jfX12_ruled (I := fun w => rA_ (a_drop (a_heap a x r) x (12 * r + t)) w ∧ rg_ μ w) ?_ (fun r43 w hw => ?_) _ _ _ _ ⟨h2, g2⟩
  · intro w hw f hf
    have f5 : f = 57 ∨ f = 68 := by
      rcases List.mem_cons.1 hf with q | q
      · exact .inl q
      · exact .inr (List.mem_singleton.1 q)
    obtain ⟨⟨w1, w2, w3, w4⟩, w5, w6⟩ := hw
    have nf : ∀ g, g ∈ rf_F → g ≠ f := by
      intro g hg e
      rw [e] at hg
      rcases f5 with q | q <;> (rw [q] at hg; exact absurd hg (by decide))
    refine ⟨fun v => ⟨⟨w1, w2, w3, ?_⟩, fun j j1 j2 => ?_, w6⟩, fun i v => ⟨⟨fun g hg => ?_, ?_, ?_, w4⟩, w5, fun g hg => ?_⟩, fun v => ⟨⟨w1, w2, w3, w4⟩, w5, w6⟩, fun i v => ⟨⟨w1, w2, w3, w4⟩, w5, w6⟩⟩
    · have : km_i (km_si w f v) 6 = km_i w 6 := w_updN (by rcases f5 with q | q <;> (rw [q]; decide))
      rw [this]
      exact w4
    · have : km_i (km_si w f v) j = km_i w j := w_updN (by rcases f5 with q | q <;> (rw [q]; assumption))
      rw [this]
      exact w5 j j1 j2
    · rw [show km_a (km_sa w f i v) g = km_a w g from if_neg (nf g hg)]
      exact w1 g hg
    · intro k hk
      rw [show km_a (km_sa w f i v) 32 = km_a w 32 from if_neg (by rcases f5 with q | q <;> (rw [q]; decide)), show km_a (km_sa w f i v) 31 = km_a w 31 from if_neg (by rcases f5 with q | q <;> (rw [q]; decide))]
      exact w2 k hk
    · intro k hk
      rw [show km_a (km_sa w f i v) 30 = km_a w 30 from if_neg (by rcases f5 with q | q <;> (rw [q]; decide)), show km_a (km_sa w f i v) 29 = km_a w 29 from if_neg (by rcases f5 with q | q <;> (rw [q]; decide))]
      exact w3 k hk
    · rw [show km_a (km_sa w f i v) g = km_a w g from if_neg (by intro e; exact hg (by rw [e]; rcases f5 with q | q <;> (rw [q]; decide)))]
      exact w6 g hg
  · rintro _ μ45 rfl
    exact k1 e0 _ hw.1 hw.2
