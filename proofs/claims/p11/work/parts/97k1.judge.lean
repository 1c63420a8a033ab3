/-! the class's judge -/
def w_st (nm : Nat → Int32) (x : e_T × Int32) (c : Int32) : e_T × Int32 := if c = -17 then ((x.1.1 - 1, x.1.2), x.2 ||| (if x.1.2 (x.1.1 - 1) = 0 then 0 else 1)) else if c = -18 then ((x.1.1 - 1, x.1.2), x.2) else (e_st nm x.1 c, x.2)
def fd_ : List Int32 → Nat → Prop
  | [], _ => True
  | c :: L, d => if c = -17 ∨ c = -18 then 1 ≤ d ∧ fd_ L (d - 1) else if -8 < c.toInt then d < 33 ∧ fd_ L (d + 1) else if c.toInt = -16 then 1 ≤ d ∧ fd_ L d else -16 < c.toInt ∧ 2 ≤ d ∧ fd_ L (d - 1)
theorem e_nend {c : Int32} (h : -16 ≤ c.toInt) : ¬ (c = -17 ∨ c = -18) := by
  have a : (-17 : Int32).toInt = -17 := by decide
  have b : (-18 : Int32).toInt = -18 := by decide
  rw [ki_eq, ki_eq, a, b]
  omega
theorem fd_ed : ∀ (L M : List Int32) (d e : Nat), ed_ 33 L d e → fd_ M e → fd_ (L ++ M) d := by
  intro L
  induction L with
  | nil => intro M d e h k; have h : d = e := h; rw [h]; exact k
  | cons c L ih =>
    intro M d e h k
    show fd_ (c :: (L ++ M)) d
    unfold ed_ at h
    unfold fd_
    split at h
    · next a => rw [if_neg (e_nend (by omega)), if_pos a]; exact ⟨h.1, ih M _ e h.2 k⟩
    · next a =>
      split at h
      · next b => rw [if_neg (e_nend (by omega)), if_neg a, if_pos b]; exact ⟨h.1, ih M _ e h.2 k⟩
      · next b => rw [if_neg (e_nend (by omega)), if_neg a, if_neg b]; exact ⟨h.1, h.2.1, ih M _ e h.2.2 k⟩
theorem fd_flat : ∀ rs : List (Bool × List Int32), (∀ r ∈ rs, ed_ 33 r.2 0 1) → fd_ (p_flat rs) 0 := by
  intro rs
  induction rs with
  | nil => intro _; exact trivial
  | cons r rs ih =>
    intro h
    have e : p_flat (r :: rs) = r.2 ++ ([if r.1 = true then -18 else -17] ++ p_flat rs) := by
      unfold p_flat
      rw [List.flatMap_cons, List.append_assoc]
    rw [e]
    refine fd_ed r.2 _ 0 1 (h r (List.mem_cons_self)) ?_
    show fd_ ((if r.1 = true then -18 else -17) :: p_flat rs) 1
    unfold fd_
    rw [if_pos (by split <;> simp)]
    exact ⟨Nat.le_refl 1, ih (fun q hq => h q (List.mem_cons_of_mem r hq))⟩
theorem w_run_ed {nm : Nat → Int32} {M : Nat} : ∀ (L : List Int32) (s : e_T) (b : Int32) (e : Nat), ed_ M L s.1 e → L.foldl (w_st nm) (s, b) = (e_run nm L s, b) := by
  intro L
  induction L with
  | nil => intro s b e _; rfl
  | cons c L ih =>
    intro s b e h
    have hc : -16 ≤ c.toInt ∧ ed_ M L (e_st nm s c).1 e := by
      unfold ed_ at h
      unfold e_st
      split at h
      · next a => rw [if_pos a]; exact ⟨by omega, h.2⟩
      · next a =>
        rw [if_neg a]
        split at h
        · next q => rw [if_pos q]; exact ⟨by omega, h.2⟩
        · next q => rw [if_neg q]; exact ⟨by omega, h.2.2⟩
    have ne := e_nend hc.1
    have e1 : w_st nm (s, b) c = (e_st nm s c, b) := by
      unfold w_st
      rw [if_neg (fun q => ne (.inl q)), if_neg (fun q => ne (.inr q))]
    show L.foldl (w_st nm) (w_st nm (s, b) c) = (e_run nm L (e_st nm s c), b)
    rw [e1]
    exact ih _ b e hc.2
theorem w_flat {nm : Nat → Int32} : ∀ (rs : List (Bool × List Int32)) (F : Nat → Int32) (b : Int32), (∀ r ∈ rs, ed_ 33 r.2 0 1) → (b = 0 ∨ b = 1) → ∃ F', (p_flat rs).foldl (w_st nm) ((0, F), b) = ((0, F'), if b = 1 ∨ e_bar nm rs = true then 1 else 0) := by
  intro rs
  induction rs with
  | nil =>
    intro F b _ hb
    refine ⟨F, ?_⟩
    show ((0, F), b) = _
    rcases hb with h | h
    · rw [h, if_neg]
      rintro (q | q)
      · exact absurd q (by decide)
      · exact absurd q (by unfold e_bar; simp)
    · rw [h, if_pos (.inl rfl)]
  | cons r rs ih =>
    intro F b h hb
    have e : p_flat (r :: rs) = r.2 ++ ((if r.1 = true then -18 else -17) :: p_flat rs) := by
      unfold p_flat
      rw [List.flatMap_cons, List.append_assoc]
      rfl
    have hr := h r (List.mem_cons_self)
    obtain ⟨x1, x2⟩ := e_run_ext (nm := nm) r.2 (0, F) (0, fun _ => 0) 1 hr ⟨rfl, fun i hi => absurd hi (Nat.not_lt_zero i)⟩
    have ev : (e_run nm r.2 (0, F)).2 0 = e_val nm r.2 := x1.2 0 (by rw [x2]; decide)
    rw [e, List.foldl_append, w_run_ed r.2 (0, F) b 1 hr, List.foldl_cons]
    have eb : e_bar nm (r :: rs) = ((!r.1 && decide (¬ e_val nm r.2 = 0)) || e_bar nm rs) := by
      unfold e_bar
      rw [List.any_cons]
    by_cases c : r.1 = true
    · rw [if_pos c]
      have e1 : w_st nm (e_run nm r.2 (0, F), b) (-18) = (((e_run nm r.2 (0, F)).1 - 1, (e_run nm r.2 (0, F)).2), b) := by
        unfold w_st
        rw [if_neg (by decide), if_pos rfl]
      rw [e1, x2]
      obtain ⟨F', hF⟩ := ih (e_run nm r.2 (0, F)).2 b (fun q hq => h q (List.mem_cons_of_mem r hq)) hb
      refine ⟨F', ?_⟩
      show List.foldl (w_st nm) ((0, (e_run nm r.2 (0, F)).2), b) (p_flat rs) = _
      rw [hF, eb, c]
      simp
    · rw [if_neg c]
      have c' : r.1 = false := by cases q : r.1; rfl; exact absurd q c
      have e1 : w_st nm (e_run nm r.2 (0, F), b) (-17) = (((e_run nm r.2 (0, F)).1 - 1, (e_run nm r.2 (0, F)).2), b ||| (if (e_run nm r.2 (0, F)).2 ((e_run nm r.2 (0, F)).1 - 1) = 0 then 0 else 1)) := by
        unfold w_st
        rw [if_pos rfl]
      rw [e1, x2]
      show ∃ F', List.foldl (w_st nm) ((0, (e_run nm r.2 (0, F)).2), b ||| (if (e_run nm r.2 (0, F)).2 0 = 0 then 0 else 1)) (p_flat rs) = _
      rw [ev]
      have hb2 : (b ||| (if e_val nm r.2 = 0 then 0 else 1)) = 0 ∨ (b ||| (if e_val nm r.2 = 0 then 0 else 1)) = 1 := by
        rcases hb with q | q <;> rw [q] <;> split <;> decide
      obtain ⟨F', hF⟩ := ih (e_run nm r.2 (0, F)).2 _ (fun q hq => h q (List.mem_cons_of_mem r hq)) hb2
      refine ⟨F', ?_⟩
      rw [hF, eb, c']
      by_cases z : e_val nm r.2 = 0
      · rw [if_pos z]
        have : (b ||| 0) = b := by rcases hb with q | q <;> rw [q] <;> decide
        rw [this]
        simp [z]
      · rw [if_neg z]
        have : (b ||| 1) = 1 := by rcases hb with q | q <;> rw [q] <;> decide
        rw [this]
        simp [z]
def j0_ (J st na : Nat) (σ : kx_S) : Prop := xr σ 80 J = some st ∧ xr σ 81 J = some na ∧ xn σ st = 33 ∧ xn σ na = 7 ∧ st ≠ na
/-- what judging leaves as it was -/
def jr_ (J st na : Nat) (σ u : kx_S) : Prop := (∀ f a, ¬ (a = J ∧ (f = 82 ∨ f = 83)) → xi u f a = xi σ f a) ∧ u.1 = σ.1 ∧ u.2.2.1 = σ.2.2.1 ∧ (∀ f a, ¬ (a = J ∧ f = 84) → xl u f a = xl σ f a) ∧ u.2.2.2.2.1 = σ.2.2.2.2.1 ∧ (∀ a, a ≠ st → a ≠ na → xai u a = xai σ a) ∧ u.2.2.2.2.2.2 = σ.2.2.2.2.2.2
theorem jr_refl {J st na : Nat} {σ : kx_S} : jr_ J st na σ σ := ⟨fun _ _ _ => rfl, rfl, rfl, fun _ _ _ => rfl, rfl, fun _ _ _ => rfl, rfl⟩
theorem jr_si {J st na : Nat} {σ u : kx_S} {g : Nat} {w : Int32} (h : jr_ J st na σ u) (hf : g = 82 ∨ g = 83) : jr_ J st na σ (xsi u g J w) := by
  refine ⟨fun e b h1 => ?_, h.2.1, h.2.2.1, h.2.2.2.1, h.2.2.2.2.1, h.2.2.2.2.2.1, h.2.2.2.2.2.2⟩
  refine Eq.trans ?_ (h.1 e b h1)
  show (if e = g then va_up (u.2.1 g) J w else u.2.1 e) b = u.2.1 e b
  by_cases c : e = g
  · subst c
    rw [if_pos rfl, va_up_ne]
    intro q
    exact h1 ⟨q, hf⟩
  · rw [if_neg c]
theorem jr_sl {J st na : Nat} {σ u : kx_S} {w : Int64} (h : jr_ J st na σ u) : jr_ J st na σ (xsl u 84 J w) := by
  refine ⟨h.1, h.2.1, h.2.2.1, fun e b h1 => ?_, h.2.2.2.2.1, h.2.2.2.2.2.1, h.2.2.2.2.2.2⟩
  refine Eq.trans ?_ (h.2.2.2.1 e b h1)
  show (if e = 84 then va_up (u.2.2.2.1 84) J w else u.2.2.2.1 e) b = u.2.2.2.1 e b
  by_cases c : e = 84
  · subst c
    rw [if_pos rfl, va_up_ne]
    intro q
    exact h1 ⟨q, rfl⟩
  · rw [if_neg c]
theorem jr_sai {J st na : Nat} {σ u : kx_S} {x i : Nat} {w : Int32} (h : jr_ J st na σ u) (hx : x = st ∨ x = na) : jr_ J st na σ (xsai u x i w) := by
  refine ⟨h.1, h.2.1, h.2.2.1, h.2.2.2.1, h.2.2.2.2.1, fun a h1 h2 => ?_, h.2.2.2.2.2.2⟩
  refine Eq.trans ?_ (h.2.2.2.2.2.1 a h1 h2)
  show va_up u.2.2.2.2.2.1 x _ a = u.2.2.2.2.2.1 a
  refine va_up_ne _ _ (fun q => ?_)
  rcases hx with e | e
  · exact h1 (q.trans e)
  · exact h2 (q.trans e)
def js_ (J st na : Nat) (σ : kx_S) (nm : Nat → Int32) (x : e_T × Int32) (u : kx_S) : Prop := jr_ J st na σ u ∧ (xi u 82 J).toInt = (x.1.1 : Int) ∧ (∀ i, i < x.1.1 → xai u st i = x.1.2 i) ∧ (∀ i, i < 7 → xai u na i = nm i) ∧ xi u 83 J = x.2
section
variable {J st na : Nat} {σ : kx_S} {nm : Nat → Int32}
theorem jr_r {u : kx_S} (h : jr_ J st na σ u) (g a : Nat) : xr u g a = xr σ g a := by
  show u.2.2.1 g a = σ.2.2.1 g a
  rw [h.2.2.1]
theorem jr_n {u : kx_S} (h : jr_ J st na σ u) (a : Nat) : xn u a = xn σ a := by
  show u.2.2.2.2.1 a = σ.2.2.2.2.1 a
  rw [h.2.2.2.2.1]
theorem js_st {u : kx_S} {a : Nat} (C : j0_ J st na σ) (h : jr_ J st na σ u) (e : xr u 80 J = some a) : st = a := by
  rw [jr_r h] at e
  exact Option.some.inj (C.1.symm.trans e)
theorem js_na {u : kx_S} {a : Nat} (C : j0_ J st na σ) (h : jr_ J st na σ u) (e : xr u 81 J = some a) : na = a := by
  rw [jr_r h] at e
  exact Option.some.inj (C.2.1.symm.trans e)
theorem vj_push {x : e_T × Int32} {v : Int32} {u : kx_S} {Q : kx_S → Prop} (C : j0_ J st na σ) (h : js_ J st na σ nm x u) (hl : x.1.1 < 33) (kk : ∀ u', js_ J st na σ nm ((x.1.1 + 1, upd x.1.2 x.1.1 v), x.2) u' → Q u') : vX3_push J v u Q := by
  obtain ⟨h1, h2, h3, h4, h5⟩ := h
  have z : (nI 33).toInt = 33 := by decide
  unfold vX3_push
  intro _ a2 e2 _
  obtain rfl := js_st C h1 e2
  rw [jr_n h1, C.2.2.1, ki_le, z, h2]
  refine ⟨fun c => absurd c (by omega), fun _ => ?_⟩
  intro a6 e6 _ _
  obtain rfl := js_st C h1 e6
  rintro σ10 rfl σ14 rfl
  have ei : (xi u 82 J).toNatClampNeg = x.1.1 := by rw [ki_nat, h2]; omega
  refine kk _ ⟨jr_si (jr_sai h1 (.inl rfl)) (.inl rfl), ?_, fun i hi => ?_, fun i hi => ?_, h5⟩
  · show (va_up (u.2.1 82) J (xi u 82 J + 1) J).toInt = ((x.1.1 + 1 : Nat) : Int)
    rw [va_up_self, ki_add (by rw [h2, ki_z1]; omega) (by rw [h2, ki_z1]; omega), h2, ki_z1]
    omega
  · have hi : i < x.1.1 + 1 := hi
    show va_up u.2.2.2.2.2.1 st (upd (u.2.2.2.2.2.1 st) (xi u 82 J).toNatClampNeg v) st i = upd x.1.2 x.1.1 v i
    rw [va_up_self, ei]
    by_cases c : i = x.1.1
    · rw [c, w_updS, w_updS]
    · rw [w_updN c, w_updN c]
      exact h3 i (by omega)
  · show va_up u.2.2.2.2.2.1 st _ na i = _
    rw [va_up_ne _ _ (Ne.symm C.2.2.2.2)]
    exact h4 i hi
theorem vj_pop {x : e_T × Int32} {u : kx_S} {Q : Int32 → kx_S → Prop} (C : j0_ J st na σ) (h : js_ J st na σ nm x u) (hl : 1 ≤ x.1.1) (h33 : x.1.1 ≤ 33) (kk : ∀ u', js_ J st na σ nm ((x.1.1 - 1, x.1.2), x.2) u' → Q (x.1.2 (x.1.1 - 1)) u') : vX3_pop J u Q := by
  obtain ⟨h1, h2, h3, h4, h5⟩ := h
  unfold vX3_pop
  intro _
  refine ⟨fun _ => ?_, fun c => ?_⟩
  · rintro σ3 rfl a5 e5 _ _
    have e5 : xr u 80 J = some a5 := e5
    obtain rfl := js_st C h1 e5
    have xe : xi (xsi u 82 J (xi u 82 J - 1)) 82 J = xi u 82 J - 1 := va_up_self _ _ _
    have ev : (xi u 82 J - 1).toInt = ((x.1.1 - 1 : Nat) : Int) := by
      rw [ki_sub (by rw [h2, ki_z1]; omega) (by rw [h2, ki_z1]; omega), h2, ki_z1]
      omega
    have ei : (xi (xsi u 82 J (xi u 82 J - 1)) 82 J).toNatClampNeg = x.1.1 - 1 := by
      rw [xe, ki_nat, ev]
      omega
    rw [ei]
    have ea : xai (xsi u 82 J (xi u 82 J - 1)) st (x.1.1 - 1) = x.1.2 (x.1.1 - 1) := h3 _ (by omega)
    rw [ea]
    refine kk _ ⟨jr_si h1 (.inl rfl), by rw [xe]; exact ev, fun i hi => h3 i (by have hi : i < x.1.1 - 1 := hi; omega), h4, h5⟩
  · have := congrArg Int32.toInt c
    rw [h2, ki_z0] at this
    omega
theorem e_j8 {a b : Int32} : e_join (-8) a b = a + b := if_pos rfl
theorem e_j9 {a b : Int32} : e_join (-9) a b = a - b := (if_neg (by decide)).trans (if_pos rfl)
theorem e_j10 {a b : Int32} : e_join (-10) a b = a * b := (if_neg (by decide)).trans ((if_neg (by decide)).trans (if_pos rfl))
theorem e_j11 {a b : Int32} : e_join (-11) a b = if b = 0 then 0 else a / b := (if_neg (by decide)).trans ((if_neg (by decide)).trans ((if_neg (by decide)).trans (if_pos rfl)))
theorem e_j12 {a b : Int32} : e_join (-12) a b = if b ≤ a then 0 else 1 := (if_neg (by decide)).trans ((if_neg (by decide)).trans ((if_neg (by decide)).trans ((if_neg (by decide)).trans (if_pos rfl))))
theorem e_j13 {a b : Int32} : e_join (-13) a b = if a = b then 1 else 0 := (if_neg (by decide)).trans ((if_neg (by decide)).trans ((if_neg (by decide)).trans ((if_neg (by decide)).trans ((if_neg (by decide)).trans (if_pos rfl)))))
theorem e_j14 {a b : Int32} : e_join (-14) a b = if a = 0 then 0 else if b = 0 then 0 else 1 := (if_neg (by decide)).trans ((if_neg (by decide)).trans ((if_neg (by decide)).trans ((if_neg (by decide)).trans ((if_neg (by decide)).trans ((if_neg (by decide)).trans (if_pos rfl))))))
theorem e_j15 {a b : Int32} : e_join (-15) a b = if a = 0 then (if b = 0 then 0 else 1) else 1 := (if_neg (by decide)).trans ((if_neg (by decide)).trans ((if_neg (by decide)).trans ((if_neg (by decide)).trans ((if_neg (by decide)).trans ((if_neg (by decide)).trans (if_neg (by decide)))))))
theorem e_cases {c : Int32} (h1 : ¬ -8 < c.toInt) (h2 : -16 < c.toInt) : c = -8 ∨ c = -9 ∨ c = -10 ∨ c = -11 ∨ c = -12 ∨ c = -13 ∨ c = -14 ∨ c = -15 := by
  simp only [ki_eq, show (-8 : Int32).toInt = -8 by decide, show (-9 : Int32).toInt = -9 by decide, show (-10 : Int32).toInt = -10 by decide, show (-11 : Int32).toInt = -11 by decide, show (-12 : Int32).toInt = -12 by decide, show (-13 : Int32).toInt = -13 by decide, show (-14 : Int32).toInt = -14 by decide, show (-15 : Int32).toInt = -15 by decide]
  omega
theorem vj_join {c a b : Int32} {u : kx_S} {Q : Int32 → kx_S → Prop} (h1 : ¬ -8 < c.toInt) (h2 : -16 < c.toInt) (kk : Q (e_join c a b) u) : vX3_join c a b u Q := by
  unfold vX3_join
  rintro v1 rfl
  refine ⟨fun e => ?_, fun e => ?_, fun e => ?_, fun e => ?_, fun e => ?_, fun e => ?_, fun e => ?_, fun e => ?_, fun n1 n2 n3 n4 n5 n6 n7 n8 => ?_⟩
  · rw [e, e_j15] at kk
    exact ⟨fun q => by rw [if_neg q] at kk; exact kk, fun q => ⟨fun r => by rw [if_pos q, if_pos r] at kk; exact kk, fun r => by rw [if_pos q, if_neg r] at kk; exact kk⟩⟩
  · rw [e, e_j14] at kk
    exact ⟨fun q => by rw [if_pos q] at kk; exact kk, fun q => ⟨fun r => by rw [if_neg q, if_pos r] at kk; exact kk, fun r => by rw [if_neg q, if_neg r] at kk; exact kk⟩⟩
  · rw [e, e_j13] at kk
    exact ⟨fun q => by rw [if_neg q] at kk; exact kk, fun q => by rw [if_pos q] at kk; exact kk⟩
  · rw [e, e_j12] at kk
    exact ⟨fun q => by rw [if_pos q] at kk; exact kk, fun q => by rw [if_neg q] at kk; exact kk⟩
  · rw [e, e_j11] at kk
    exact ⟨fun q _ => by rw [if_neg q] at kk; exact kk, fun q => by rw [if_pos q] at kk; exact kk⟩
  · rw [e, e_j10] at kk; exact kk
  · rw [e, e_j9] at kk; exact kk
  · rw [e, e_j8] at kk; exact kk
  · exfalso
    rcases e_cases h1 h2 with q | q | q | q | q | q | q | q
    · exact n8 q
    · exact n7 q
    · exact n6 q
    · exact n5 q
    · exact n4 q
    · exact n3 q
    · exact n2 q
    · exact n1 q
theorem vj_step {x : e_T × Int32} {c : Int32} {u : kx_S} {Q : kx_S → Prop} (C : j0_ J st na σ) (h : js_ J st na σ nm x u) (h33 : x.1.1 ≤ 33) (hc : fd_ [c] x.1.1) (kk : ∀ u', js_ J st na σ nm (w_st nm x c) u' → Q u') : vX3_step J c u Q := by
  have m7 : (-7 : Int32).toInt = -7 := by decide
  have m16 : (-16 : Int32).toInt = -16 := by decide
  have m17 : (-17 : Int32).toInt = -17 := by decide
  have m18 : (-18 : Int32).toInt = -18 := by decide
  unfold fd_ at hc
  unfold w_st at kk
  unfold vX3_step
  rw [ki_lt, ki_z0, ki_lt, m7]
  by_cases c17 : c = -17
  · rw [if_pos c17] at kk
    rw [if_pos (.inl c17)] at hc
    have ct : c.toInt = -17 := by rw [c17]; exact m17
    refine ⟨fun _ => ⟨fun _ => ⟨fun _ => ⟨fun q => absurd c17 q, fun _ _ => vj_pop C h hc.1 h33 (fun u' h' => ?_)⟩, fun q => absurd (q.symm.trans c17) (by decide)⟩, fun q => absurd (by omega) q⟩, fun q => absurd (by omega) q⟩
    have hb : xi u 83 J = x.2 := h.2.2.2.2
    rw [hb]
    refine ⟨fun q => ?_, fun q => ?_⟩
    · rw [if_pos q] at kk
      unfold vX3_step_81
      rintro _ _ σ5 rfl
      exact kk _ ⟨jr_si h'.1 (.inr rfl), h'.2.1, h'.2.2.1, h'.2.2.2.1, va_up_self _ _ _⟩
    · rw [if_neg q] at kk
      unfold vX3_step_81
      rintro _ _ σ5 rfl
      exact kk _ ⟨jr_si h'.1 (.inr rfl), h'.2.1, h'.2.2.1, h'.2.2.2.1, va_up_self _ _ _⟩
  rw [if_neg c17] at kk
  by_cases c18 : c = -18
  · rw [if_pos c18] at kk
    rw [if_pos (.inr c18)] at hc
    have ct : c.toInt = -18 := by rw [c18]; exact m18
    refine ⟨fun _ => ⟨fun _ => ⟨fun _ => ⟨fun _ => ⟨fun q => absurd c18 q, fun _ _ => vj_pop C h hc.1 h33 (fun u' h' => ?_)⟩, fun q => absurd q c17⟩, fun q => absurd (q.symm.trans c18) (by decide)⟩, fun q => absurd (by omega) q⟩, fun q => absurd (by omega) q⟩
    rintro _ σ26 rfl
    exact kk _ ⟨jr_sl h'.1, h'.2.1, h'.2.2.1, h'.2.2.2.1, h'.2.2.2.2⟩
  rw [if_neg c18] at kk
  rw [if_neg (fun q => q.elim c17 c18)] at hc
  unfold e_st at kk
  by_cases ps : -8 < c.toInt
  · rw [if_pos ps] at kk hc
    by_cases c0 : 0 ≤ c.toInt
    · rw [if_pos c0] at kk
      exact ⟨fun q => absurd q (by omega), fun _ _ => vj_push C h hc.1 kk⟩
    · rw [if_neg c0] at kk
      refine ⟨fun _ => ⟨fun q => absurd q (by omega), fun _ _ a37 e37 _ _ => ?_⟩, fun q => absurd (by omega) q⟩
      obtain rfl := js_na C h.1 e37
      have ei : (-1 - c).toNatClampNeg < 7 := by
        rw [ki_nat, ki_sub (by rw [ki_zm]; omega) (by rw [ki_zm]; omega), ki_zm]
        omega
      rw [h.2.2.2.1 _ ei]
      exact vj_push C h hc.1 kk
  · rw [if_neg ps] at kk hc
    by_cases c16 : c.toInt = -16
    · rw [if_pos c16] at kk hc
      have e16 : c = -16 := ki_eq.2 (by rw [c16, m16])
      refine ⟨fun _ => ⟨fun _ => ⟨fun q => absurd e16 q, fun _ _ => vj_pop C h hc.1 h33 (fun u' h' => ?_)⟩, fun q => absurd (by omega) q⟩, fun q => absurd (by omega) q⟩
      have h1 := hc.1
      have hx : x.1.1 - 1 + 1 = x.1.1 := by omega
      have fin : ∀ v : Int32, v = (if x.1.2 (x.1.1 - 1) = 0 then 1 else 0) → vX3_step_52 Q v J u' := by
        intro v ev
        unfold vX3_step_52
        intro _
        refine vj_push C h' (by show x.1.1 - 1 < 33; omega) (fun u2 h2 => kk u2 ?_)
        have h2 : js_ J st na σ nm ((x.1.1 - 1 + 1, upd x.1.2 (x.1.1 - 1) v), x.2) u2 := h2
        rw [hx, ev] at h2
        exact h2
      exact ⟨fun q => fin 0 (if_neg q).symm, fun q => fin 1 (if_pos q).symm⟩
    · rw [if_neg c16] at kk hc
      obtain ⟨g1, g2, _⟩ := hc
      have n16 : ¬ c = -16 := fun q => c16 (by rw [q]; exact m16)
      refine ⟨fun _ => ⟨fun _ => ⟨fun _ => ⟨fun _ => ⟨fun _ _ => vj_pop C h (by omega) h33 (fun u1 k1 => ?_), fun q => absurd q c18⟩, fun q => absurd q c17⟩, fun q => absurd q n16⟩, fun q => absurd (by omega) q⟩, fun q => absurd (by omega) q⟩
      intro _
      refine vj_pop C k1 (by show 1 ≤ x.1.1 - 1; omega) (by show x.1.1 - 1 ≤ 33; omega) (fun u2 k2 => ?_)
      refine vj_join ps g1 ?_
      intro _
      refine vj_push C k2 (by show x.1.1 - 1 - 1 < 33; omega) (fun u3 k3 => kk u3 ?_)
      have hx : x.1.1 - 1 - 1 = x.1.1 - 2 := by omega
      have hy : x.1.1 - 2 + 1 = x.1.1 - 1 := by omega
      have k3 : js_ J st na σ nm ((x.1.1 - 1 - 1 + 1, upd x.1.2 (x.1.1 - 1 - 1) (e_join c (x.1.2 (x.1.1 - 1 - 1)) (x.1.2 (x.1.1 - 1)))), x.2) u3 := k3
      rw [hx, hy] at k3
      exact k3
theorem fd_cons {c : Int32} {L : List Int32} {x : e_T × Int32} (h : fd_ (c :: L) x.1.1) (h33 : x.1.1 ≤ 33) : fd_ [c] x.1.1 ∧ fd_ L (w_st nm x c).1.1 ∧ (w_st nm x c).1.1 ≤ 33 := by
  have e1 : fd_ [c] x.1.1 = (if c = -17 ∨ c = -18 then 1 ≤ x.1.1 ∧ fd_ [] (x.1.1 - 1) else if -8 < c.toInt then x.1.1 < 33 ∧ fd_ [] (x.1.1 + 1) else if c.toInt = -16 then 1 ≤ x.1.1 ∧ fd_ [] x.1.1 else -16 < c.toInt ∧ 2 ≤ x.1.1 ∧ fd_ [] (x.1.1 - 1)) := rfl
  rw [e1]
  unfold fd_ at h
  unfold w_st e_st
  by_cases a : c = -17
  · rw [if_pos (.inl a)] at h
    rw [if_pos (.inl a), if_pos a]
    exact ⟨⟨h.1, trivial⟩, h.2, by show x.1.1 - 1 ≤ 33; omega⟩
  rw [if_neg a]
  by_cases b : c = -18
  · rw [if_pos (.inr b)] at h
    rw [if_pos (.inr b), if_pos b]
    exact ⟨⟨h.1, trivial⟩, h.2, by show x.1.1 - 1 ≤ 33; omega⟩
  rw [if_neg b]
  rw [if_neg (fun q => q.elim a b)] at h ⊢
  by_cases d : -8 < c.toInt
  · rw [if_pos d] at h
    rw [if_pos d, if_pos d]
    exact ⟨⟨h.1, trivial⟩, h.2, by show x.1.1 + 1 ≤ 33; omega⟩
  rw [if_neg d] at h
  rw [if_neg d, if_neg d]
  by_cases e : c.toInt = -16
  · rw [if_pos e] at h
    rw [if_pos e, if_pos e]
    exact ⟨⟨h.1, trivial⟩, h.2, h33⟩
  · rw [if_neg e] at h
    rw [if_neg e, if_neg e]
    exact ⟨⟨h.1, h.2.1, trivial⟩, h.2.2, by show x.1.1 - 1 ≤ 33; omega⟩
/-- a law's row in the class -/
def lc_ (lw la : Nat) (L : List Int32) (σ : kx_S) : Prop := xr σ 97 lw = some la ∧ xn σ la = L.length ∧ L.length ≤ 500 ∧ ∀ i, i < L.length → xai σ la i = L.getD i 0
theorem vj_loop {lw la : Nat} {L : List Int32} {Q : kx_S → Prop} (C : j0_ J st na σ) (hL : lc_ lw la L σ) (n1 : la ≠ st) (n2 : la ≠ na) : ∀ (j p : Nat) (i : Int32) (x : e_T × Int32) (u : kx_S), i.toInt = (p : Int) → p ≤ L.length → js_ J st na σ nm x u → x.1.1 ≤ 33 → fd_ (L.drop p) x.1.1 → (∀ u', js_ J st na σ nm ((L.drop p).foldl (w_st nm) x) u' → Q u') → vX3_weigh_91 Q j J (some lw) i u := by
  obtain ⟨l1, l2, l3, l4⟩ := hL
  have zn : (nI L.length).toInt = (L.length : Int) := t_nI l3
  intro j
  induction j with
  | zero => intro _ _ _ _ _ _ _ _ _ _; exact trivial
  | succ j ih =>
    intro p i x u hi hp h h33 hf kk
    unfold vX3_weigh_91
    intro a1 e1 _ a4 e4 _
    obtain rfl := Option.some.inj e1
    rw [jr_r h.1] at e4
    obtain rfl := Option.some.inj (l1.symm.trans e4)
    rw [jr_n h.1, l2, ki_le, zn, hi]
    refine ⟨fun c => ?_, fun c => ?_⟩
    · have : p = L.length := by omega
      rw [this, List.drop_length] at kk
      exact kk u h
    · have hlt : p < L.length := by omega
      intro a8 e8 _ a11 e11 _ _ _
      obtain rfl := Option.some.inj e8
      rw [jr_r h.1] at e11
      obtain rfl := Option.some.inj (l1.symm.trans e11)
      have ei : i.toNatClampNeg = p := by rw [ki_nat, hi]; omega
      have ex : xai u la p = L.getD p 0 := by
        rw [h.1.2.2.2.2.2.1 la n1 n2]
        exact l4 p hlt
      have ed : L.drop p = L.getD p 0 :: L.drop (p + 1) := by
        rw [List.drop_eq_getElem_cons hlt, List.getD_eq_getElem?_getD, List.getElem?_eq_getElem hlt]
        rfl
      rw [ed] at hf kk
      rw [ei, ex]
      obtain ⟨f1, f2, f3⟩ := fd_cons (nm := nm) hf h33
      refine vj_step C h h33 f1 (fun u2 h2 => ?_)
      intro v17 e17
      refine ih (p + 1) v17 _ u2 ?_ (by omega) h2 f3 f2 (fun u' h' => kk u' h')
      rw [e17, ki_add (by rw [hi, ki_z1]; omega) (by rw [hi, ki_z1]; omega), hi, ki_z1]
      omega
/-- the names, one after another -/
def jn_ (J st na : Nat) (σ : kx_S) (nm : Nat → Int32) (k : Nat) (u : kx_S) : Prop := jr_ J st na σ u ∧ xi u 82 J = 0 ∧ xi u 83 J = 0 ∧ ∀ i, i < k → xai u na i = nm i
theorem vj_name {k : Nat} {c v : Int32} {u : kx_S} {Q : kx_S → Prop} (C : j0_ J st na σ) (h : jn_ J st na σ nm k u) (hc : (-1 - c).toNatClampNeg = k) (hv : v = nm k) (kk : ∀ u', jn_ J st na σ nm (k + 1) u' → Q u') : vX3_name J c v u Q := by
  unfold vX3_name
  intro _ a2 e2 _ _
  obtain rfl := js_na C h.1 e2
  rw [hc]
  rintro σ6 rfl
  refine kk _ ⟨jr_sai h.1 (.inr rfl), h.2.1, h.2.2.1, fun i hi => ?_⟩
  show va_up u.2.2.2.2.2.1 na (upd (u.2.2.2.2.2.1 na) k v) na i = _
  rw [va_up_self]
  by_cases q : i = k
  · rw [q, w_updS, hv]
  · rw [w_updN q]
    exact h.2.2.2 i (by omega)
/-- the names of a log in a reach at an hour -/
def e_nm (y : Nat) (r hr : Int32) (σ : kx_S) (k : Nat) : Int32 := match k with
  | 0 => xi σ 129 y
  | 1 => xi σ 130 y
  | 2 => xi σ 131 y
  | 3 => hr - hr / 24 * 24
  | 4 => hr / 24
  | 5 => r
  | _ => xi σ 135 y
def e_barO (nm : Nat → Int32) : Option (List (Bool × List Int32)) → Bool
  | none => false
  | some rs => e_bar nm rs
theorem vj_weigh {lw : Option Nat} {rs : Option (List (Bool × List Int32))} {y : Nat} {r hr : Int32} {Q : kx_S → Prop} (C : j0_ J st na σ) (hy : y ≠ J) (h0 : lw = none → rs = none) (h1 : ∀ a, lw = some a → ∃ la R, rs = some R ∧ lc_ a la (p_flat R) σ ∧ la ≠ st ∧ la ≠ na ∧ ∀ x ∈ R, ed_ 33 x.2 0 1) (kk : ∀ u, jr_ J st na σ u → xi u 83 J = (if e_barO (e_nm y r hr σ) rs = true then 1 else 0) → Q u) : vX3_weigh J lw y r hr σ Q := by
  unfold vX3_weigh
  rintro _ σ19 rfl σ21 rfl σ23 rfl
  have r23 : jr_ J st na σ (xsi (xsl (xsi σ 83 J 0) 84 J 0) 82 J 0) := jr_si (jr_sl (jr_si jr_refl (.inr rfl))) (.inl rfl)
  have x82 : xi (xsi (xsl (xsi σ 83 J 0) 84 J 0) 82 J 0) 82 J = 0 := va_up_self _ _ _
  have x83 : xi (xsi (xsl (xsi σ 83 J 0) 84 J 0) 82 J 0) 83 J = 0 := va_up_self _ _ _
  generalize xsi (xsl (xsi σ 83 J 0) 84 J 0) 82 J 0 = u0 at *
  have xk : ∀ {u : kx_S} (g : Nat), jr_ J st na σ u → xi u g y = xi σ g y := fun g h => h.1 g y (fun q => hy q.1)
  refine ⟨fun a e => ?_, fun e => ?_⟩
  · obtain ⟨la, R, e1, e2, n1, n2, e3⟩ := h1 a e
    intro _
    refine vj_name (nm := e_nm y r hr σ) (k := 0) C ⟨r23, x82, x83, fun i hi => absurd hi (Nat.not_lt_zero i)⟩ (by decide) (xk 129 r23) (fun u1 k1 => ?_)
    intro _ _
    refine vj_name C k1 (by decide) (xk 130 k1.1) (fun u2 k2 => ?_)
    intro _ _
    refine vj_name C k2 (by decide) (xk 131 k2.1) (fun u3 k3 => ?_)
    intro _
    refine vj_name C k3 (by decide) rfl (fun u4 k4 => ?_)
    intro _
    refine vj_name C k4 (by decide) rfl (fun u5 k5 => ?_)
    intro _
    refine vj_name C k5 (by decide) rfl (fun u6 k6 => ?_)
    intro _ _
    refine vj_name C k6 (by decide) (xk 135 k6.1) (fun u7 k7 => ?_)
    intro j
    refine vj_loop (nm := e_nm y r hr σ) C e2 n1 n2 j 0 0 ((0, fun _ => 0), 0) u7 (by decide) (Nat.zero_le _) ⟨k7.1, by rw [k7.2.1]; rfl, fun i hi => absurd hi (Nat.not_lt_zero i), k7.2.2.2, k7.2.2.1⟩ (by decide) (fd_flat R e3) (fun u' h' => ?_)
    obtain ⟨F', hF⟩ := w_flat (nm := e_nm y r hr σ) R (fun _ => 0) 0 e3 (.inl rfl)
    have h' : js_ J st na σ (e_nm y r hr σ) ((p_flat R).foldl (w_st (e_nm y r hr σ)) ((0, fun _ => 0), 0)) u' := h'
    rw [hF] at h'
    refine kk u' h'.1 ?_
    rw [h'.2.2.2.2, e1]
    show (if (0 : Int32) = 1 ∨ e_bar (e_nm y r hr σ) R = true then (1 : Int32) else 0) = if e_bar (e_nm y r hr σ) R = true then 1 else 0
    by_cases q : e_bar (e_nm y r hr σ) R = true
    · rw [if_pos (.inr q), if_pos q]
    · rw [if_neg q, if_neg]
      rintro (z | z)
      · exact absurd z (by decide)
      · exact q z
  · refine kk u0 r23 ?_
    rw [x83, h0 e]
    rfl
end
/-- the class's law in force -/
theorem vj_force {L l3 m : Nat} {lw : Nat → Nat} {day : Nat → Int32} {D : Int32} {σ : kx_S} {Q : Option Nat → kx_S → Prop} (h1 : xr σ 210 L = some l3) (h2 : (xi σ 18 l3).toInt = (m : Int)) (hm : m ≤ 6) (hD : xi σ 217 L / 24 = D) (h3 : ∀ i, i < m → xe σ l3 i = some (lw i) ∧ xi σ 96 (lw i) = day i) (kk : Q ((lf_ day D m 0 none).map lw) σ) : vX11_lawInForce L σ Q := by
  unfold vX11_lawInForce
  have loop : ∀ (j k p : Nat) (i : Int32) (l : Option Nat), i.toInt = (p : Int) → p + k = m → (∀ q, l = some q → q < m) → Q ((lf_ day D k p l).map lw) σ → vX11_lawInForce_4 Q j L (l.map lw) i σ := by
    intro j
    induction j with
    | zero => intro _ _ _ _ _ _ _ _; exact trivial
    | succ j ih =>
      intro k p i l hi hp hl kq
      unfold vX11_lawInForce_4
      intro _ a9 e9 _
      obtain rfl := Option.some.inj (e9.symm.trans h1)
      unfold vJx4a65c_size_8abf5
      intro _
      rw [ki_le, h2, hi]
      refine ⟨fun c => ?_, fun c => ?_⟩
      · have : k = 0 := by omega
        subst this
        exact kq
      · obtain ⟨k, rfl⟩ : ∃ q, k = q + 1 := ⟨k - 1, by omega⟩
        intro _ a16 e16 _
        obtain rfl := Option.some.inj (e16.symm.trans e9)
        refine vy_get (fun _ _ => ?_)
        have ei : i.toNatClampNeg = p := by rw [ki_nat, hi]; omega
        obtain ⟨g1, g2⟩ := h3 p (by omega)
        rw [ei, g1]
        intro a21 e21 _ _
        obtain rfl := Option.some.inj e21
        rw [hD, g2]
        have nx : ∀ v1 : Int32, v1 = i + 1 → v1.toInt = ((p + 1 : Nat) : Int) := by
          intro v1 e
          rw [e, ki_add (by rw [hi, ki_z1]; omega) (by rw [hi, ki_z1]; omega), hi, ki_z1]
          omega
        rw [lf_succ] at kq
        refine ⟨fun d => ?_, fun d => ?_⟩
        · rw [lf_n1 d] at kq
          unfold vX11_lawInForce_50 vX11_lawInForce_74
          exact ⟨fun _ v1 e1 => ih k (p + 1) v1 l (nx v1 e1) (by omega) hl kq, fun x => absurd rfl x⟩
        · unfold vX11_lawInForce_50
          refine ⟨fun x => absurd x (by decide), fun _ => ?_⟩
          cases l with
          | none =>
            rw [lf_n2 d] at kq
            refine ⟨fun _ => ?_, fun a4 e4 => absurd e4 (by simp)⟩
            unfold vX11_lawInForce_72 vX11_lawInForce_74
            intro v1 e1
            exact ih k (p + 1) v1 (some p) (nx v1 e1) (by omega) (fun q e => by rw [← Option.some.inj e]; omega) kq
          | some q =>
            refine ⟨fun e => absurd e (by simp), fun a4 e4 _ _ => ?_⟩
            have e4 : some (lw q) = some a4 := e4
            obtain rfl := Option.some.inj e4
            obtain ⟨_, g4⟩ := h3 q (hl q rfl)
            rw [g2, g4]
            rw [lf_n3 d] at kq
            refine ⟨fun e => ?_, fun e => ?_⟩
            · rw [if_pos e] at kq
              unfold vX11_lawInForce_74
              intro v1 e1
              exact ih k (p + 1) v1 (some q) (nx v1 e1) (by omega) hl kq
            · rw [if_neg e] at kq
              unfold vX11_lawInForce_72 vX11_lawInForce_74
              intro v1 e1
              exact ih k (p + 1) v1 (some p) (nx v1 e1) (by omega) (fun q e => by rw [← Option.some.inj e]; omega) kq
  intro j
  exact loop j m 0 0 none (by decide) (by omega) (fun q e => absurd e (by simp)) kk
theorem lf_lt {day : Nat → Int32} {D : Int32} {m : Nat} : ∀ (k p : Nat) (l : Option Nat), p + k = m → (∀ q, l = some q → q < m) → ∀ q, lf_ day D k p l = some q → q < m := by
  intro k
  induction k with
  | zero => intro p l _ hl q e; exact hl q e
  | succ k ih =>
    intro p l hp hl
    refine ih (p + 1) _ (by omega) (fun q e => ?_)
    by_cases d : D < day p
    · rw [lf_n1 d] at e
      exact hl q e
    · cases l with
      | none =>
        rw [lf_n2 d] at e
        rw [← Option.some.inj e]; omega
      | some r =>
        rw [lf_n3 d] at e
        split at e
        · rw [← Option.some.inj e]; exact hl r rfl
        · rw [← Option.some.inj e]; omega
