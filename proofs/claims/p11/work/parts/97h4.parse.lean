/-! the grammar, told once for both: where the first fault lies, or the next token and the row of codes -/
abbrev pr_T : Type := Nat ⊕ (tk_T × List Int32)
def p_bind (r : pr_T) (k : tk_T → pr_T) : pr_T := match r with
  | .inl p => .inl p
  | .inr (t, cs) => match k t with
    | .inl p => .inl p
    | .inr (t2, ds) => .inr (t2, cs ++ ds)
theorem p_bind_inl {p : Nat} {k : tk_T → pr_T} : p_bind (.inl p) k = .inl p := rfl
theorem p_bind_l {t : tk_T} {cs : List Int32} {k : tk_T → pr_T} {p : Nat} (h : k t = .inl p) : p_bind (.inr (t, cs)) k = .inl p := by
  show (match k t with
    | .inl p => (.inl p : pr_T)
    | .inr (t2, ds) => .inr (t2, cs ++ ds)) = _
  rw [h]
theorem p_bind_r {t t2 : tk_T} {cs ds : List Int32} {k : tk_T → pr_T} (h : k t = .inr (t2, ds)) : p_bind (.inr (t, cs)) k = .inr (t2, cs ++ ds) := by
  show (match k t with
    | .inl p => (.inl p : pr_T)
    | .inr (t2, ds) => .inr (t2, cs ++ ds)) = _
  rw [h]
theorem p_bind_nil {t : tk_T} {k : tk_T → pr_T} : p_bind (.inr (t, [])) k = k t := by
  cases h : k t with
  | inl p => exact p_bind_l h
  | inr q => obtain ⟨t2, ds⟩ := q; exact p_bind_r h
theorem p_bind_unit {r : pr_T} {k : tk_T → pr_T} (h : ∀ t cs, r = .inr (t, cs) → k t = .inr (t, [])) : p_bind r k = r := by
  cases r with
  | inl p => rfl
  | inr q => obtain ⟨t, cs⟩ := q; rw [p_bind_r (h t cs rfl), List.append_nil]
theorem p_bind_assoc {r : pr_T} {k1 k2 : tk_T → pr_T} : p_bind (p_bind r k1) k2 = p_bind r (fun t => p_bind (k1 t) k2) := by
  cases r with
  | inl p => rfl
  | inr q =>
    obtain ⟨t, cs⟩ := q
    cases h : k1 t with
    | inl p =>
      rw [p_bind_l h]
      exact (p_bind_l (by show p_bind (k1 t) k2 = .inl p; rw [h]; rfl)).symm
    | inr q =>
      obtain ⟨t2, ds⟩ := q
      rw [p_bind_r h]
      cases h2 : k2 t2 with
      | inl p =>
        rw [p_bind_l h2]
        exact (p_bind_l (by show p_bind (k1 t) k2 = .inl p; rw [h, p_bind_l h2])).symm
      | inr q =>
        obtain ⟨t3, es⟩ := q
        rw [p_bind_r h2, List.append_assoc]
        exact (p_bind_r (by show p_bind (k1 t) k2 = .inr (t3, ds ++ es); rw [h, p_bind_r h2])).symm
def p_nm (f : Nat → Int32) (t : tk_T) : Int32 := if t_wd f t 0 = true then -1 else if t_wd f t 1 = true then -2 else if t_wd f t 2 = true then -3 else if t_wd f t 3 = true then -4 else if t_wd f t 4 = true then -5 else if t_wd f t 5 = true then -6 else if t_wd f t 6 = true then -7 else 0
def p_adv (f : Nat → Int32) (n : Nat) (t : tk_T) : tk_T := t_tok f n t.2.2
def p_sg (f : Nat → Int32) (n : Nat) (b : Int32) (t : tk_T) : pr_T := if t.1 = b then .inr (p_adv f n t, []) else .inl t.2.1
def p_part (f : Nat → Int32) (n : Nat) (re : tk_T → pr_T) (t : tk_T) : pr_T :=
  if t.1 = 2 then (if 6 < t.2.2 - t.2.1 then .inl t.2.1 else .inr (p_adv f n t, [t_num f (t.2.2 - t.2.1) t.2.1 0]))
  else if t.1 = 1 then (if p_nm f t = 0 then .inl t.2.1 else .inr (p_adv f n t, [p_nm f t]))
  else if t.1 = 40 then p_bind (re (p_adv f n t)) (p_sg f n 41)
  else .inl t.2.1
def p_put (v : Int32) (t : tk_T) : pr_T := .inr (t, [v])
def p_loop (f : Nat → Int32) (n : Nat) (one : tk_T → pr_T) (op : tk_T → Int32) : Nat → tk_T → pr_T
  | 0, t => .inr (t, [])
  | j + 1, t => if op t = 0 then .inr (t, []) else p_bind (p_bind (one (p_adv f n t)) (p_put (op t))) (p_loop f n one op j)
def p_opT (t : tk_T) : Int32 := if t.1 = 42 then -10 else if t.1 = 47 then -11 else 0
def p_opS (t : tk_T) : Int32 := if t.1 = 43 then -8 else if t.1 = 45 then -9 else 0
def p_opE (f : Nat → Int32) (t : tk_T) : Int32 := if t_wd f t 9 = true then -14 else if t_wd f t 10 = true then -15 else 0
def p_opC (t : tk_T) : Int32 := if t.1 = 60 then -12 else if t.1 = 61 then -13 else 0
def p_term (f : Nat → Int32) (n : Nat) (re : tk_T → pr_T) (t : tk_T) : pr_T := p_bind (p_part f n re t) (p_loop f n (p_part f n re) p_opT 500)
def p_sum (f : Nat → Int32) (n : Nat) (re : tk_T → pr_T) (t : tk_T) : pr_T := p_bind (p_term f n re t) (p_loop f n (p_term f n re) p_opS 500)
def p_cmp2 (f : Nat → Int32) (n : Nat) (re : tk_T → pr_T) (t : tk_T) : pr_T := if p_opC t = 0 then .inr (t, []) else p_bind (p_sum f n re (p_adv f n t)) (p_put (p_opC t))
def p_cmp (f : Nat → Int32) (n : Nat) (re : tk_T → pr_T) (t : tk_T) : pr_T := p_bind (p_sum f n re t) (p_cmp2 f n re)
def p_test (f : Nat → Int32) (n : Nat) (re : tk_T → pr_T) (t : tk_T) : pr_T := if t_wd f t 11 = true then p_bind (p_cmp f n re (p_adv f n t)) (p_put (-16)) else p_cmp f n re t
def p_expr (f : Nat → Int32) (n : Nat) : Nat → tk_T → pr_T
  | 0, t => .inl t.2.1
  | d + 1, t => p_bind (p_test f n (p_expr f n d) t) (p_loop f n (p_test f n (p_expr f n d)) (p_opE f) 500)
/-- a rule's expression and its end -/
def p_rule (f : Nat → Int32) (n : Nat) (i : Nat) (t : tk_T) : pr_T :=
  if t_wd f t 8 = true ∨ t_wd f t 7 = true then (if i = 12 then .inl t.2.1 else p_bind (p_expr f n 8 (p_adv f n t)) (p_sg f n 59)) else .inl t.2.1
/-- a text: the rules, each with whether it is a toll -/
abbrev pt_T : Type := Nat ⊕ List (Bool × List Int32)
def p_text (f : Nat → Int32) (n : Nat) : Nat → Nat → tk_T → pt_T
  | 0, _, _ => .inr []
  | j + 1, i, t => if t.1 = 0 then .inr [] else match p_rule f n i t with
    | .inl p => .inl p
    | .inr (t2, cs) => match p_text f n j (i + 1) t2 with
      | .inl p => .inl p
      | .inr rs => .inr ((t_wd f t 7, cs) :: rs)
/-! tokens of a text -/
def tt_ (f : Nat → Int32) (n : Nat) (t : tk_T) : Prop := ∃ p, p ≤ n ∧ t = t_tok f n p
theorem tt_ok {f : Nat → Int32} {n : Nat} {t : tk_T} (h : tt_ f n t) : t_ok n t := by
  obtain ⟨p, hp, rfl⟩ := h
  exact (t_tok_ok hp).1
theorem tt_adv {f : Nat → Int32} {n : Nat} {t : tk_T} (h : tt_ f n t) : tt_ f n (p_adv f n t) ∧ t.2.2 ≤ (p_adv f n t).2.1 := ⟨⟨t.2.2, (tt_ok h).2, rfl⟩, (t_tok_ok (tt_ok h).2).2⟩
theorem tt_pos {f : Nat → Int32} {n : Nat} {t : tk_T} (h : tt_ f n t) (k : ¬ t.1 = 0) : t.2.1 < t.2.2 := by
  obtain ⟨p, hp, rfl⟩ := h
  have h1 := t_end_ge (f := f) (k := 5) hp
  revert k
  unfold t_tok t_at
  generalize t_end f n 5 p = s at *
  show ¬ t_kd (t_by f n s) = 0 → s < (if t_kd (t_by f n s) = 1 ∨ t_kd (t_by f n s) = 2 then t_end f n (t_kd (t_by f n s)) s else min (s + 1) n)
  intro k
  have hs : s < n := by
    by_cases d : s < n
    · exact d
    · exfalso
      apply k
      unfold t_by
      rw [if_neg d]
      decide
  split
  · have e : t_kd (f s) = t_kd (t_by f n s) := by unfold t_by; rw [if_pos hs]
    rw [t_end_eq hs e]
    have := (t_end_ge (f := f) (k := t_kd (t_by f n s)) (show s + 1 ≤ n by omega)).1
    omega
  · omega
theorem t_run_in {f : Nat → Int32} {k : Int32} : ∀ (m p i : Nat), p ≤ i → i < t_run f k m p → t_kd (f i) = k := by
  intro m
  induction m with
  | zero => intro p i h1 h2; have h2 : i < p := h2; omega
  | succ m ih =>
    intro p i h1 h2
    have h2 : i < (if t_kd (f p) = k then t_run f k m (p + 1) else p) := h2
    by_cases c : t_kd (f p) = k
    · rw [if_pos c] at h2
      by_cases e : i = p
      · rw [e]; exact c
      · exact ih (p + 1) i (by omega) h2
    · rw [if_neg c] at h2
      omega
theorem tt_dig {f : Nat → Int32} {n : Nat} {t : tk_T} (h : tt_ f n t) (k : t.1 = 2) : ∀ i, t.2.1 ≤ i → i < t.2.2 → t_kd (f i) = 2 := by
  obtain ⟨p, hp, rfl⟩ := h
  revert k
  unfold t_tok t_at
  generalize t_end f n 5 p = s
  show t_kd (t_by f n s) = 2 → ∀ i, s ≤ i → i < (if t_kd (t_by f n s) = 1 ∨ t_kd (t_by f n s) = 2 then t_end f n (t_kd (t_by f n s)) s else min (s + 1) n) → t_kd (f i) = 2
  intro k i h1 h2
  rw [k, if_pos (.inr rfl)] at h2
  exact t_run_in (n - s) s i h1 h2
theorem t_kd_dig {b : Int32} (h : t_kd b = 2) : 48 ≤ b.toInt ∧ b.toInt ≤ 57 := by
  have z48 : (48 : Int32).toInt = 48 := by decide
  have z57 : (57 : Int32).toInt = 57 := by decide
  by_cases h2 : b < 48 ∨ 57 < b
  · exfalso
    by_cases h1 : b < 97 ∨ 122 < b
    · rw [t_kd28 h1 h2] at h
      split at h
      · exact absurd h (by decide)
      · split at h
        · exact absurd h (by decide)
        · split at h
          · next q => rw [h] at q; exact absurd q (by decide)
          · exact absurd h (by decide)
    · rw [t_kd1 h1] at h
      exact absurd h (by decide)
  · rw [ki_lt, ki_lt, z48, z57] at h2
    omega
theorem t_num_lo {f : Nat → Int32} : ∀ (m s : Nat) (v : Int32) (k : Nat), m + k ≤ 6 → 0 ≤ v.toInt → v.toInt < (10 ^ k : Nat) → (∀ i, s ≤ i → i < s + m → t_kd (f i) = 2) → 0 ≤ (t_num f m s v).toInt ∧ (t_num f m s v).toInt < 1000000 := by
  intro m
  induction m with
  | zero =>
    intro s v k hk h0 h1 _
    refine ⟨h0, ?_⟩
    have : 10 ^ k ≤ 10 ^ 6 := Nat.pow_le_pow_right (by decide) (by omega)
    show v.toInt < 1000000
    omega
  | succ m ih =>
    intro s v k hk h0 h1 hd
    have d := t_kd_dig (hd s (Nat.le_refl s) (by omega))
    have p6 : 10 ^ k ≤ 10 ^ 5 := Nat.pow_le_pow_right (by decide) (by omega)
    have ps : 10 ^ (k + 1) = 10 ^ k * 10 := Nat.pow_succ ..
    have z10 : (10 : Int32).toInt = 10 := by decide
    have z48 : (48 : Int32).toInt = 48 := by decide
    have e1 : (v * 10).toInt = v.toInt * 10 := by rw [ki_mul (by rw [z10]; omega) (by rw [z10]; omega), z10]
    have e2 : (v * 10 + f s).toInt = v.toInt * 10 + (f s).toInt := by rw [ki_add (by rw [e1]; omega) (by rw [e1]; omega), e1]
    have e3 : (v * 10 + f s - 48).toInt = v.toInt * 10 + (f s).toInt - 48 := by rw [ki_sub (by rw [e2, z48]; omega) (by rw [e2, z48]; omega), e2, z48]
    exact ih (s + 1) (v * 10 + f s - 48) (k + 1) (by omega) (by rw [e3]; omega) (by rw [e3, ps]; omega) (fun i a b => hd i (by omega) (by omega))
