/-! tokens, told once for both -/
def t_sg (b : Int32) : Prop := b = 40 ∨ b = 41 ∨ b = 42 ∨ b = 43 ∨ b = 45 ∨ b = 47 ∨ b = 59 ∨ b = 60 ∨ b = 61
def t_kd (b : Int32) : Int32 := if b < 97 ∨ 122 < b then (if b < 48 ∨ 57 < b then (if b = -1 then 0 else if b = 10 ∨ b = 32 then 5 else if b = 40 ∨ b = 41 ∨ b = 42 ∨ b = 43 ∨ b = 45 ∨ b = 47 ∨ b = 59 ∨ b = 60 ∨ b = 61 then b else 4) else 2) else 1
def t_run (f : Nat → Int32) (k : Int32) : Nat → Nat → Nat
  | 0, p => p
  | m + 1, p => if t_kd (f p) = k then t_run f k m (p + 1) else p
def t_end (f : Nat → Int32) (n : Nat) (k : Int32) (p : Nat) : Nat := t_run f k (n - p) p
def t_by (f : Nat → Int32) (n p : Nat) : Int32 := if p < n then f p else -1
/-- kind, start, end -/
abbrev tk_T : Type := Int32 × Nat × Nat
def t_at (f : Nat → Int32) (n s : Nat) : tk_T := (t_kd (t_by f n s), s, if t_kd (t_by f n s) = 1 ∨ t_kd (t_by f n s) = 2 then t_end f n (t_kd (t_by f n s)) s else min (s + 1) n)
def t_tok (f : Nat → Int32) (n p : Nat) : tk_T := t_at f n (t_end f n 5 p)
theorem t_end_hi {f : Nat → Int32} {n : Nat} {k : Int32} {p : Nat} (h : n ≤ p) : t_end f n k p = p := by
  unfold t_end
  rw [show n - p = 0 by omega]
  rfl
theorem t_end_eq {f : Nat → Int32} {n : Nat} {k : Int32} {p : Nat} (h : p < n) (e : t_kd (f p) = k) : t_end f n k p = t_end f n k (p + 1) := by
  unfold t_end
  rw [show n - p = (n - (p + 1)) + 1 by omega]
  show (if t_kd (f p) = k then t_run f k (n - (p + 1)) (p + 1) else p) = _
  rw [if_pos e]
theorem t_end_ne {f : Nat → Int32} {n : Nat} {k : Int32} {p : Nat} (h : p < n) (e : ¬ t_kd (f p) = k) : t_end f n k p = p := by
  unfold t_end
  rw [show n - p = (n - (p + 1)) + 1 by omega]
  show (if t_kd (f p) = k then t_run f k (n - (p + 1)) (p + 1) else p) = _
  rw [if_neg e]
theorem t_run_ge {f : Nat → Int32} {k : Int32} : ∀ (m p : Nat), p ≤ t_run f k m p ∧ t_run f k m p ≤ p + m := by
  intro m
  induction m with
  | zero => intro p; exact ⟨Nat.le_refl p, Nat.le_refl p⟩
  | succ m ih =>
    intro p
    show p ≤ (if t_kd (f p) = k then t_run f k m (p + 1) else p) ∧ (if t_kd (f p) = k then t_run f k m (p + 1) else p) ≤ p + (m + 1)
    have := ih (p + 1)
    split <;> omega
theorem t_end_ge {f : Nat → Int32} {n : Nat} {k : Int32} {p : Nat} (h : p ≤ n) : p ≤ t_end f n k p ∧ t_end f n k p ≤ n := by
  have := t_run_ge (f := f) (k := k) (n - p) p
  unfold t_end
  omega
theorem t_kd28 {b : Int32} (h1 : b < 97 ∨ 122 < b) (h2 : b < 48 ∨ 57 < b) : t_kd b = if b = -1 then 0 else if b = 10 ∨ b = 32 then 5 else if b = 40 ∨ b = 41 ∨ b = 42 ∨ b = 43 ∨ b = 45 ∨ b = 47 ∨ b = 59 ∨ b = 60 ∨ b = 61 then b else 4 := by
  unfold t_kd
  rw [if_pos h1, if_pos h2]
theorem t_kd2 {b : Int32} (h1 : b < 97 ∨ 122 < b) (h2 : ¬ (b < 48 ∨ 57 < b)) : t_kd b = 2 := by
  unfold t_kd
  rw [if_pos h1, if_neg h2]
theorem t_kd1 {b : Int32} (h1 : ¬ (b < 97 ∨ 122 < b)) : t_kd b = 1 := by
  unfold t_kd
  rw [if_neg h1]
/-! the class's tokens -/
def ct_ (f : Nat → Int32) (n tk : Nat) (σ : kx_S) : Prop := (xi σ 193 tk).toInt = (n : Int) ∧ n ≤ 500 ∧ ∃ tp tb, xr σ 192 tk = some tp ∧ xr σ 176 tp = some tb ∧ xn σ tb = 500 ∧ ∀ i, i < n → xai σ tb i = f i
theorem vy_byteAt {f : Nat → Int32} {n tk p : Nat} {σ : kx_S} {i : Int32} {Q : Int32 → kx_S → Prop} (h : ct_ f n tk σ) (hp : i.toInt = (p : Int)) (kk : Q (t_by f n p) σ) : vX10_byteAt tk i σ Q := by
  obtain ⟨h1, h2, tp, tb, e1, e2, e3, e4⟩ := h
  have z : (0 : Int32).toInt = 0 := by decide
  have z5 : (nI 500).toInt = 500 := by decide
  unfold vX10_byteAt
  refine ⟨fun c => ?_, fun _ _ => ⟨fun c => ?_, fun c a4 q4 _ a7 q7 _ => ⟨fun d => ?_, fun d a11 q11 _ a14 q14 _ _ => ?_⟩⟩⟩
  · rw [ki_lt, z] at c
    omega
  · rw [ki_le, h1] at c
    unfold t_by at kk
    rw [if_neg (by omega)] at kk
    exact kk
  · obtain rfl := Option.some.inj (q4.symm.trans e1)
    obtain rfl := Option.some.inj (q7.symm.trans e2)
    rw [ki_le, h1] at c
    rw [ki_le, e3, z5] at d
    omega
  · obtain rfl := Option.some.inj (q11.symm.trans e1)
    obtain rfl := Option.some.inj (q14.symm.trans e2)
    rw [ki_le, h1] at c
    unfold t_by at kk
    rw [if_pos (by omega)] at kk
    rw [show i.toNatClampNeg = p by rw [ki_nat]; omega, e4 p (by omega)]
    exact kk
theorem vy_kindOf {b : Int32} {σ : kx_S} {Q : Int32 → kx_S → Prop} (kk : Q (t_kd b) σ) : vX10_kindOf b σ Q := by
  have two : (b < 97 ∨ 122 < b) → vX10_kindOf_14 Q b σ := by
    intro h1
    have one : (b < 48 ∨ 57 < b) → vX10_kindOf_28 Q b σ := by
      intro h2
      have e := t_kd28 h1 h2
      unfold vX10_kindOf_28
      rintro v1 rfl
      have eqs : ∀ (a r : Int32), t_kd a = r → v1 = a → Q r σ := fun a r er ea => by
        rw [ea, er] at kk
        exact kk
      have eqv : ∀ (a : Int32), t_kd a = a → v1 = a → Q v1 σ := fun a er ea => by
        rw [ea, er, ← ea] at kk
        exact kk
      refine ⟨eqs (-1) 0 (by decide), eqs 10 5 (by decide), eqs 32 5 (by decide), eqv 40 (by decide), eqv 41 (by decide), eqv 42 (by decide), eqv 43 (by decide), eqv 45 (by decide), eqv 47 (by decide), eqv 59 (by decide), eqv 60 (by decide), eqv 61 (by decide), fun a0 a1 a2 a3 a4 a5 a6 a7 a8 a9 a10 a11 => ?_⟩
      have e4 : t_kd v1 = 4 := by
        rw [e, if_neg a0, if_neg (by rintro (x | x); exact a1 x; exact a2 x), if_neg]
        rintro (x | x | x | x | x | x | x | x | x)
        · exact a3 x
        · exact a4 x
        · exact a5 x
        · exact a6 x
        · exact a7 x
        · exact a8 x
        · exact a9 x
        · exact a10 x
        · exact a11 x
      rw [e4] at kk
      exact kk
    unfold vX10_kindOf_14
    refine ⟨fun c => one (.inl c), fun c => ⟨fun d => one (.inr d), fun d => ?_⟩⟩
    rw [t_kd2 h1 (fun x => x.elim c d)] at kk
    exact kk
  unfold vX10_kindOf
  refine ⟨fun c => two (.inl c), fun c => ⟨fun d => two (.inr d), fun d => ?_⟩⟩
  rw [t_kd1 (fun x => x.elim c d)] at kk
  exact kk
theorem vy_endOfRow {f : Nat → Int32} {n tk : Nat} {σ : kx_S} {k : Int32} {Q : Int32 → kx_S → Prop} (h : ct_ f n tk σ) : ∀ (j : Nat) (i : Int32) (p : Nat), i.toInt = (p : Int) → (∀ v : Int32, v.toInt = (t_end f n k p : Int) → Q v σ) → vX10_endOfRow_2 Q j tk k i σ := by
  intro j
  induction j with
  | zero => intro _ _ _ _; exact trivial
  | succ j ih =>
    intro i p hp kk
    unfold vX10_endOfRow_2
    intro _
    refine ⟨fun c => ?_, fun c => ?_⟩
    · rw [ki_le, h.1] at c
      exact kk i (by rw [t_end_hi (by omega)]; exact hp)
    rw [ki_le, h.1] at c
    refine vy_byteAt h hp (vy_kindOf ⟨fun d => ?_, fun d => ?_⟩)
    · unfold t_by at d
      rw [if_pos (by omega)] at d
      exact kk i (by rw [t_end_ne (by omega) d]; exact hp)
    · unfold t_by at d
      rw [if_pos (by omega)] at d
      intro v8 e8
      have h5 := h.2.1
      refine ih v8 (p + 1) ?_ (fun v hv => kk v (by rw [t_end_eq (by omega) d]; exact hv))
      rw [e8, ki_add (by rw [hp, ki_z1]; omega) (by rw [hp, ki_z1]; omega), hp, ki_z1]
      omega
/-- the class's kind: a long number is one of its own -/
def t_kc (t : tk_T) : Int32 := if t.1 = 2 ∧ 6 < t.2.2 - t.2.1 then 3 else t.1
def cT_ (t : tk_T) (tk : Nat) (σ : kx_S) : Prop := (xi σ 194 tk).toInt = (t.2.2 : Int) ∧ (xi σ 195 tk).toInt = (t.2.1 : Int) ∧ xi σ 196 tk = t_kc t
/-- nothing but the token changed -/
def ck_ (tk : Nat) (σ u : kx_S) : Prop := (∀ f a, ¬ (a = tk ∧ (f = 194 ∨ f = 195 ∨ f = 196)) → xi u f a = xi σ f a) ∧ u.1 = σ.1 ∧ u.2.2 = σ.2.2
theorem ck_refl {tk : Nat} {σ : kx_S} : ck_ tk σ σ := ⟨fun _ _ _ => rfl, rfl, rfl⟩
theorem ck_trans {tk : Nat} {a b c : kx_S} (h : ck_ tk a b) (k : ck_ tk b c) : ck_ tk a c := ⟨fun f x hx => (k.1 f x hx).trans (h.1 f x hx), k.2.1.trans h.2.1, k.2.2.trans h.2.2⟩
theorem ck_si {tk : Nat} {σ u : kx_S} {f : Nat} {v : Int32} (h : ck_ tk σ u) (hf : f = 194 ∨ f = 195 ∨ f = 196) : ck_ tk σ (xsi u f tk v) := by
  refine ⟨fun g a hg => ?_, h.2.1, h.2.2⟩
  refine Eq.trans ?_ (h.1 g a hg)
  show (if g = f then va_up (u.2.1 f) tk v else u.2.1 g) a = u.2.1 g a
  by_cases c : g = f
  · rw [if_pos c, va_up_ne, c]
    intro e
    exact hg ⟨e, by rw [c]; exact hf⟩
  · rw [if_neg c]
theorem ct_ck {f : Nat → Int32} {n tk : Nat} {σ u : kx_S} (h : ct_ f n tk σ) (k : ck_ tk σ u) : ct_ f n tk u := by
  obtain ⟨h1, h2, tp, tb, e1, e2, e3, e4⟩ := h
  have r : ∀ f a, xr u f a = xr σ f a := fun f a => by show u.2.2.1 f a = σ.2.2.1 f a; rw [k.2.2]
  refine ⟨by rw [k.1 193 tk (by rintro ⟨_, h | h | h⟩ <;> exact absurd h (by decide))]; exact h1, h2, tp, tb, by rw [r]; exact e1, by rw [r]; exact e2, ?_, fun i hi => ?_⟩
  · show u.2.2.2.2.1 tb = _
    rw [k.2.2]
    exact e3
  · show u.2.2.2.2.2.1 tb i = _
    rw [k.2.2]
    exact e4 i hi
theorem vy_advance {f : Nat → Int32} {n tk p : Nat} {σ : kx_S} {Q : kx_S → Prop} (h : ct_ f n tk σ) (hp : (xi σ 194 tk).toInt = (p : Int)) (hpn : p ≤ n) (kk : ∀ u, ck_ tk σ u → ct_ f n tk u → cT_ (t_tok f n p) tk u → Q u) : vX10_advance tk σ Q := by
  unfold vX10_advance
  intro _
  unfold vX10_endOfRow
  intro j
  refine vy_endOfRow h j _ p hp (fun r14 e14 => ?_)
  rintro _ σ16 rfl
  obtain ⟨s, es⟩ : ∃ s, s = t_end f n 5 p := ⟨_, rfl⟩
  have hs : s ≤ n := by rw [es]; exact (t_end_ge hpn).2
  rw [← es] at e14
  have k16 := ck_si (v := r14) (ck_refl (tk := tk) (σ := σ)) (f := 195) (.inr (.inl rfl))
  have c16 := ct_ck h k16
  have x16 : xi (xsi σ 195 tk r14) 195 tk = r14 := va_up_self _ _ _
  refine vy_byteAt c16 (p := s) (by rw [x16]; exact e14) (vy_kindOf ?_)
  obtain ⟨k, ek⟩ : ∃ k, k = t_kd (t_by f n s) := ⟨_, rfl⟩
  rw [← ek]
  have et : t_tok f n p = (k, s, if k = 1 ∨ k = 2 then t_end f n k s else min (s + 1) n) := by
    unfold t_tok t_at
    rw [← es, ← ek]
  rintro _ σ23 rfl
  have k23 := ck_si (v := k) k16 (f := 196) (.inr (.inr rfl))
  have c23 := ct_ck h k23
  have x23 : xi (xsi (xsi σ 195 tk r14) 196 tk k) 196 tk = k := va_up_self _ _ _
  have y23 : xi (xsi (xsi σ 195 tk r14) 196 tk k) 195 tk = r14 := x16
  rw [x23, y23]
  have last : ∀ (e : Nat) (v : Int32), v.toInt = (e : Int) → s ≤ e → t_tok f n p = (k, s, e) → vX10_advance_80 Q tk (xsi (xsi (xsi σ 195 tk r14) 196 tk k) 194 tk v) := by
    intro e v ev he q
    have kl := ck_si (v := v) k23 (f := 194) (.inl rfl)
    have x1 : xi (xsi (xsi (xsi σ 195 tk r14) 196 tk k) 194 tk v) 194 tk = v := va_up_self _ _ _
    have x2 : xi (xsi (xsi (xsi σ 195 tk r14) 196 tk k) 194 tk v) 195 tk = r14 := y23
    have x3 : xi (xsi (xsi (xsi σ 195 tk r14) 196 tk k) 194 tk v) 196 tk = k := x23
    have sb : (v - r14).toInt = (e : Int) - s := by
      have h1 := ki_hi v
      rw [ki_sub (by omega) (by omega), ev, e14]
    have z6 : (6 : Int32).toInt = 6 := by decide
    unfold vX10_advance_80
    intro _
    rw [x1, x2, x3]
    refine ⟨fun c => ?_, fun c => ⟨fun d => ?_, fun d => ?_⟩⟩
    · refine kk _ kl (ct_ck h kl) ?_
      rw [q]
      refine ⟨by rw [x1]; exact ev, by rw [x2]; exact e14, ?_⟩
      rw [x3]
      exact (if_neg (fun x => c x.1)).symm
    · rw [ki_le, sb, z6] at d
      refine kk _ kl (ct_ck h kl) ?_
      rw [q]
      refine ⟨by rw [x1]; exact ev, by rw [x2]; exact e14, ?_⟩
      rw [x3]
      refine (if_neg (fun x => ?_)).symm
      have x2 : 6 < e - s := x.2
      omega
    · rw [ki_le, sb, z6] at d
      rintro σ10 rfl
      have kl2 := ck_si (v := 3) kl (f := 196) (.inr (.inr rfl))
      refine kk _ kl2 (ct_ck h kl2) ?_
      rw [q]
      refine ⟨by show (xi (xsi (xsi (xsi σ 195 tk r14) 196 tk k) 194 tk v) 194 tk).toInt = _; rw [x1]; exact ev, by show (xi (xsi (xsi (xsi σ 195 tk r14) 196 tk k) 194 tk v) 195 tk).toInt = _; rw [x2]; exact e14, ?_⟩
      have x4 : xi (xsi (xsi (xsi (xsi σ 195 tk r14) 196 tk k) 194 tk v) 196 tk 3) 196 tk = 3 := va_up_self _ _ _
      rw [x4]
      exact (if_pos ⟨c, show 6 < e - s by omega⟩).symm
  have word : k = 1 ∨ k = 2 → vX10_advance_44 (vX10_advance_80 Q) Q tk (xsi (xsi σ 195 tk r14) 196 tk k) := by
    intro hk
    unfold vX10_advance_44
    intro _
    unfold vX10_endOfRow
    intro j2
    rw [x23, y23]
    refine vy_endOfRow c23 j2 _ s e14 (fun v ev => ?_)
    rintro _ σ5 rfl
    exact last (t_end f n k s) v ev (t_end_ge hs).1 (by rw [et, if_pos hk])
  refine ⟨fun c => word (.inl c), fun c => ⟨fun d => ?_, fun d => word (.inr d)⟩⟩
  rintro v27 e27 σ28 rfl
  have h5 := h.2.1
  have s1 : (r14 + 1).toInt = (s : Int) + 1 := by rw [ki_add (by rw [e14, ki_z1]; omega) (by rw [e14, ki_z1]; omega), e14, ki_z1]
  have n1 : (xi (xsi (xsi σ 195 tk r14) 196 tk k) 193 tk).toInt = (n : Int) := c23.1
  refine last (min (s + 1) n) v27 ?_ (by omega) (by rw [et, if_neg (fun x => x.elim c d)])
  rw [e27]
  split
  · next q =>
    rw [ki_lt, n1, s1] at q
    rw [n1]
    omega
  · next q =>
    rw [ki_lt, n1, s1] at q
    rw [s1]
    omega
