/-! the class's reader -/
theorem l_getD_r {L : List Int32} {v : Int32} : (L ++ [v]).getD L.length 0 = v := by
  rw [List.getD_eq_getElem?_getD, List.getElem?_append_right (Nat.le_refl _), Nat.sub_self]
  rfl
theorem l_getD_l {L M : List Int32} {i : Nat} (h : i < L.length) : (L ++ M).getD i 0 = L.getD i 0 := by
  rw [List.getD_eq_getElem?_getD, List.getElem?_append_left h, List.getD_eq_getElem?_getD]
def c0_ (f : Nat → Int32) (n rd tk ca tp tb : Nat) (σ : kx_S) : Prop := xr σ 112 rd = some tk ∧ xr σ 113 rd = some ca ∧ xn σ ca = 500 ∧ xr σ 192 tk = some tp ∧ xr σ 176 tp = some tb ∧ xn σ tb = 500 ∧ tb ≠ ca ∧ (∀ i, i < n → xai σ tb i = f i) ∧ n ≤ 500
/-- what reading leaves as it was -/
def rf_ (rd tk ca : Nat) (σ u : kx_S) : Prop := (∀ f a, ¬ (a = tk ∧ (f = 193 ∨ f = 194 ∨ f = 195 ∨ f = 196)) → ¬ (a = rd ∧ (f = 114 ∨ f = 115 ∨ f = 116)) → xi u f a = xi σ f a) ∧ u.1 = σ.1 ∧ u.2.2.1 = σ.2.2.1 ∧ u.2.2.2.1 = σ.2.2.2.1 ∧ u.2.2.2.2.1 = σ.2.2.2.2.1 ∧ (∀ a, a ≠ ca → xai u a = xai σ a) ∧ u.2.2.2.2.2.2 = σ.2.2.2.2.2.2
theorem rf_refl {rd tk ca : Nat} {σ : kx_S} : rf_ rd tk ca σ σ := ⟨fun _ _ _ _ => rfl, rfl, rfl, rfl, rfl, fun _ _ => rfl, rfl⟩
theorem rf_ck {rd tk ca : Nat} {σ u v : kx_S} (h : rf_ rd tk ca σ u) (k : ck_ tk u v) : rf_ rd tk ca σ v := by
  obtain ⟨k1, k2, k3⟩ := k
  refine ⟨fun g a h1 h2 => (k1 g a (fun q => h1 ⟨q.1, .inr q.2⟩)).trans (h.1 g a h1 h2), k2.trans h.2.1, ?_, ?_, ?_, fun a ha => ?_, ?_⟩
  · rw [k3]; exact h.2.2.1
  · rw [k3]; exact h.2.2.2.1
  · rw [k3]; exact h.2.2.2.2.1
  · refine Eq.trans ?_ (h.2.2.2.2.2.1 a ha)
    show v.2.2.2.2.2.1 a = u.2.2.2.2.2.1 a
    rw [k3]
  · rw [k3]; exact h.2.2.2.2.2.2
theorem rf_si {rd tk ca : Nat} {σ u : kx_S} {g a : Nat} {w : Int32} (h : rf_ rd tk ca σ u) (hf : (a = tk ∧ (g = 193 ∨ g = 194 ∨ g = 195 ∨ g = 196)) ∨ (a = rd ∧ (g = 114 ∨ g = 115 ∨ g = 116))) : rf_ rd tk ca σ (xsi u g a w) := by
  refine ⟨fun e b h1 h2 => ?_, h.2.1, h.2.2.1, h.2.2.2.1, h.2.2.2.2.1, h.2.2.2.2.2.1, h.2.2.2.2.2.2⟩
  refine Eq.trans ?_ (h.1 e b h1 h2)
  show (if e = g then va_up (u.2.1 g) a w else u.2.1 e) b = u.2.1 e b
  by_cases c : e = g
  · subst c
    rw [if_pos rfl, va_up_ne]
    intro q
    subst q
    exact hf.elim h1 h2
  · rw [if_neg c]
theorem rf_sai {rd tk ca : Nat} {σ u : kx_S} {i : Nat} {w : Int32} (h : rf_ rd tk ca σ u) : rf_ rd tk ca σ (xsai u ca i w) := by
  refine ⟨h.1, h.2.1, h.2.2.1, h.2.2.2.1, h.2.2.2.2.1, fun a ha => ?_, h.2.2.2.2.2.2⟩
  refine Eq.trans ?_ (h.2.2.2.2.2.1 a ha)
  show va_up u.2.2.2.2.2.1 ca _ a = u.2.2.2.2.2.1 a
  exact va_up_ne _ _ ha
def cX_ (n rd tk ca : Nat) (σ u : kx_S) : Prop := rf_ rd tk ca σ u ∧ (xi u 193 tk).toInt = (n : Int)
def cC_ (rd ca : Nat) (L : List Int32) (u : kx_S) : Prop := (xi u 114 rd).toInt = (L.length : Int) ∧ ∀ i, i < L.length → xai u ca i = L.getD i 0
def cq_ (f : Nat → Int32) (n rd tk ca : Nat) (σ : kx_S) (k : Nat) (L : List Int32) (t : tk_T) (u : kx_S) : Prop := cX_ n rd tk ca σ u ∧ xi u 115 rd = 0 ∧ cT_ t tk u ∧ tt_ f n t ∧ cC_ rd ca L u ∧ L.length + k ≤ t.2.1
def cF_ (n rd tk ca : Nat) (σ : kx_S) (p : Nat) (u : kx_S) : Prop := cX_ n rd tk ca σ u ∧ ¬ xi u 115 rd = 0 ∧ (xi u 116 rd).toInt = (p : Int)
def cr_ (f : Nat → Int32) (n rd tk ca : Nat) (σ : kx_S) (k : Nat) (L : List Int32) (r : pr_T) (u : kx_S) : Prop := match r with
  | .inl p => cF_ n rd tk ca σ p u
  | .inr (t, cs) => cq_ f n rd tk ca σ k (L ++ cs) t u
/-- a piece of the reader does a piece of the grammar -/
def cp_ (f : Nat → Int32) (n rd tk ca : Nat) (σ : kx_S) (V : kx_S → (kx_S → Prop) → Prop) (P : tk_T → pr_T) : Prop := ∀ (k : Nat) (L : List Int32) (t : tk_T) (u : kx_S) (Q : kx_S → Prop), cq_ f n rd tk ca σ k L t u → (∀ u', cr_ f n rd tk ca σ k L (P t) u' → Q u') → V u Q
theorem b_no {b : Bool} (h : b = false) : ¬ b = true := by rw [h]; decide
theorem p_bind_congr {t : tk_T} {cs : List Int32} {k k' : tk_T → pr_T} (h : k t = k' t) : p_bind (.inr (t, cs)) k = p_bind (.inr (t, cs)) k' := by
  cases e : k t with
  | inl p => rw [p_bind_l e, p_bind_l (by rw [← h]; exact e)]
  | inr q => obtain ⟨t2, ds⟩ := q; rw [p_bind_r e, p_bind_r (by rw [← h]; exact e)]
theorem p_loop_stop {f : Nat → Int32} {n : Nat} {one : tk_T → pr_T} {op : tk_T → Int32} {m : Nat} {t : tk_T} (h : op t = 0) : p_loop f n one op m t = .inr (t, []) := by
  cases m with
  | zero => rfl
  | succ m => exact if_pos h
theorem p_loop_go {f : Nat → Int32} {n : Nat} {one : tk_T → pr_T} {op : tk_T → Int32} {m : Nat} {t : tk_T} (h : ¬ op t = 0) : p_loop f n one op (m + 1) t = p_bind (p_bind (one (p_adv f n t)) (p_put (op t))) (p_loop f n one op m) := if_neg h
theorem t_kcE {t : tk_T} {b : Int32} (h2 : ¬ b = 2) (h3 : ¬ b = 3) : t_kc t = b ↔ t.1 = b := by
  unfold t_kc
  split
  · next h =>
    rw [h.1]
    exact ⟨fun e => absurd e.symm h3, fun e => absurd e.symm h2⟩
  · exact Iff.rfl
theorem t_kc2 {t : tk_T} : t_kc t = 2 ↔ t.1 = 2 ∧ ¬ 6 < t.2.2 - t.2.1 := by
  unfold t_kc
  split
  · next h => exact ⟨fun e => absurd e (by decide), fun e => absurd h.2 e.2⟩
  · next h => exact ⟨fun e => ⟨e, fun q => h ⟨e, q⟩⟩, fun e => e.1⟩
theorem t_kc3 {t : tk_T} (h : t_kc t = 3) : (t.1 = 2 ∧ 6 < t.2.2 - t.2.1) ∨ t.1 = 3 := by
  unfold t_kc at h
  split at h
  · next q => exact .inl q
  · exact .inr h
/-- what can begin a part -/
def fp_ (f : Nat → Int32) (t : tk_T) : Prop := (t.1 = 2 ∧ ¬ 6 < t.2.2 - t.2.1) ∨ (t.1 = 1 ∧ ¬ p_nm f t = 0) ∨ t.1 = 40
theorem p_part_no {f : Nat → Int32} {n : Nat} {R : tk_T → pr_T} {t : tk_T} (h : ¬ fp_ f t) : p_part f n R t = .inl t.2.1 := by
  unfold p_part
  split
  · next a =>
    split
    · rfl
    · next b => exact absurd (.inl ⟨a, b⟩) h
  · split
    · next a =>
      split
      · rfl
      · next b => exact absurd (.inr (.inl ⟨a, b⟩)) h
    · split
      · next a => exact absurd (.inr (.inr a)) h
      · rfl
theorem p_part_num {f : Nat → Int32} {n : Nat} {R : tk_T → pr_T} {t : tk_T} (h : t.1 = 2) (k : ¬ 6 < t.2.2 - t.2.1) : p_part f n R t = .inr (p_adv f n t, [t_num f (t.2.2 - t.2.1) t.2.1 0]) := (if_pos h).trans (if_neg k)
theorem p_part_name {f : Nat → Int32} {n : Nat} {R : tk_T → pr_T} {t : tk_T} (h : t.1 = 1) (k : ¬ p_nm f t = 0) : p_part f n R t = .inr (p_adv f n t, [p_nm f t]) := (if_neg (by rw [h]; decide)).trans ((if_pos h).trans (if_neg k))
theorem p_part_par {f : Nat → Int32} {n : Nat} {R : tk_T → pr_T} {t : tk_T} (h : t.1 = 40) : p_part f n R t = p_bind (R (p_adv f n t)) (p_sg f n 41) := (if_neg (by rw [h]; decide)).trans ((if_neg (by rw [h]; decide)).trans (if_pos h))
section
variable {f : Nat → Int32} {n rd tk ca tp tb : Nat} {σ : kx_S}
theorem cX_ref {u : kx_S} (h : cX_ n rd tk ca σ u) (g a : Nat) : xr u g a = xr σ g a := by
  show u.2.2.1 g a = σ.2.2.1 g a
  rw [h.1.2.2.1]
theorem cX_tk {u : kx_S} {a : Nat} (C : c0_ f n rd tk ca tp tb σ) (h : cX_ n rd tk ca σ u) (e : xr u 112 rd = some a) : tk = a := by
  rw [cX_ref h] at e
  exact Option.some.inj (C.1.symm.trans e)
theorem cX_ca {u : kx_S} {a : Nat} (C : c0_ f n rd tk ca tp tb σ) (h : cX_ n rd tk ca σ u) (e : xr u 113 rd = some a) : ca = a := by
  rw [cX_ref h] at e
  exact Option.some.inj (C.2.1.symm.trans e)
theorem cX_n {u : kx_S} (C : c0_ f n rd tk ca tp tb σ) (h : cX_ n rd tk ca σ u) : xn u ca = 500 := by
  show u.2.2.2.2.1 ca = 500
  rw [h.1.2.2.2.2.1]
  exact C.2.2.1
theorem cX_ct {u : kx_S} (C : c0_ f n rd tk ca tp tb σ) (h : cX_ n rd tk ca σ u) : ct_ f n tk u := by
  obtain ⟨c1, c2, c3, c4, c5, c6, c7, c8, c9⟩ := C
  refine ⟨h.2, c9, tp, tb, by rw [cX_ref h]; exact c4, by rw [cX_ref h]; exact c5, ?_, fun i hi => ?_⟩
  · show u.2.2.2.2.1 tb = 500
    rw [h.1.2.2.2.2.1]
    exact c6
  · rw [h.1.2.2.2.2.2.1 tb c7]
    exact c8 i hi
theorem cr_X {k : Nat} {L : List Int32} {r : pr_T} {u : kx_S} (h : cr_ f n rd tk ca σ k L r u) : cX_ n rd tk ca σ u := by
  cases r with
  | inl p => exact h.1
  | inr q => exact h.1
theorem cq_le {k : Nat} {L : List Int32} {t : tk_T} {u : kx_S} (h : cq_ f n rd tk ca σ (k + 1) L t u) : cq_ f n rd tk ca σ k L t u := ⟨h.1, h.2.1, h.2.2.1, h.2.2.2.1, h.2.2.2.2.1, by have := h.2.2.2.2.2; omega⟩
theorem cr_pre {k : Nat} {L cs : List Int32} {t : tk_T} {X : tk_T → pr_T} {u : kx_S} (h : cr_ f n rd tk ca σ k (L ++ cs) (X t) u) : cr_ f n rd tk ca σ k L (p_bind (.inr (t, cs)) X) u := by
  cases e : X t with
  | inl p =>
    rw [p_bind_l e]
    rw [e] at h
    exact h
  | inr q =>
    obtain ⟨t2, ds⟩ := q
    rw [p_bind_r e]
    rw [e] at h
    have h : cq_ f n rd tk ca σ k ((L ++ cs) ++ ds) t2 u := h
    show cq_ f n rd tk ca σ k (L ++ (cs ++ ds)) t2 u
    rw [← List.append_assoc]
    exact h
theorem vc_adv0 {k : Nat} {L : List Int32} {t : tk_T} {u : kx_S} {Q : kx_S → Prop} (C : c0_ f n rd tk ca tp tb σ) (hX : cX_ n rd tk ca σ u) (h0 : xi u 115 rd = 0) (T : cT_ t tk u) (ht : tt_ f n t) (hc : cC_ rd ca L u) (hl : L.length + k ≤ t.2.2) (kk : ∀ u', cq_ f n rd tk ca σ k L (p_adv f n t) u' → Q u') : vX10_advance tk u Q := by
  refine vy_advance (p := t.2.2) (cX_ct C hX) T.1 (tt_ok ht).2 (fun u' c _ T' => kk u' ⟨⟨rf_ck hX.1 c, ?_⟩, ?_, T', (tt_adv ht).1, ⟨?_, fun i hi => ?_⟩, ?_⟩)
  · rw [c.1 193 tk (by rintro ⟨_, h | h | h⟩ <;> exact absurd h (by decide))]
    exact hX.2
  · rw [c.1 115 rd (by rintro ⟨_, h | h | h⟩ <;> exact absurd h (by decide))]
    exact h0
  · rw [c.1 114 rd (by rintro ⟨_, h | h | h⟩ <;> exact absurd h (by decide))]
    exact hc.1
  · refine Eq.trans ?_ (hc.2 i hi)
    show u'.2.2.2.2.2.1 ca i = u.2.2.2.2.2.1 ca i
    rw [c.2.2]
  · have := (tt_adv ht).2
    omega
theorem vc_adv1 {k : Nat} {L : List Int32} {t : tk_T} {u : kx_S} {Q : kx_S → Prop} (C : c0_ f n rd tk ca tp tb σ) (h : cq_ f n rd tk ca σ k L t u) (hk : ¬ t.1 = 0) (kk : ∀ u', cq_ f n rd tk ca σ (k + 1) L (p_adv f n t) u' → Q u') : vX10_advance tk u Q :=
  vc_adv0 C h.1 h.2.1 h.2.2.1 h.2.2.2.1 h.2.2.2.2.1 (by have := tt_pos h.2.2.2.1 hk; have := h.2.2.2.2.2; omega) kk
theorem vc_putG {v : Int32} {u : kx_S} {Q : kx_S → Prop} (C : c0_ f n rd tk ca tp tb σ) (hX : cX_ n rd tk ca σ u) (k0 : 500 ≤ (xi u 114 rd).toInt → Q u) (k1 : ¬ 500 ≤ (xi u 114 rd).toInt → Q (xsi (xsai u ca (xi u 114 rd).toNatClampNeg v) 114 rd (xi u 114 rd + 1))) : vX5_put rd v u Q := by
  unfold vX5_put
  intro _ a2 e2 _
  obtain rfl := cX_ca C hX e2
  have z5 : (nI 500).toInt = 500 := by decide
  rw [cX_n C hX]
  refine ⟨fun c => k0 ?_, fun c => ?_⟩
  · rw [ki_le, z5] at c
    exact c
  · intro a6 e6 _ _
    obtain rfl := cX_ca C hX e6
    rintro σ10 rfl σ14 rfl
    refine k1 ?_
    rw [ki_le, z5] at c
    exact c
theorem vc_put {k : Nat} {L : List Int32} {r : pr_T} {v : Int32} {u : kx_S} {Q : kx_S → Prop} (C : c0_ f n rd tk ca tp tb σ) (h : cr_ f n rd tk ca σ (k + 1) L r u) (kk : ∀ u', cr_ f n rd tk ca σ k L (p_bind r (p_put v)) u' → Q u') : vX5_put rd v u Q := by
  cases r with
  | inl p => exact vc_putG C h.1 (fun _ => kk u h) (fun _ => kk _ ⟨⟨rf_si (rf_sai h.1.1) (.inr ⟨rfl, .inl rfl⟩), h.1.2⟩, h.2.1, h.2.2⟩)
  | inr q =>
    obtain ⟨t, cs⟩ := q
    have h : cq_ f n rd tk ca σ (k + 1) (L ++ cs) t u := h
    obtain ⟨hX, h0, T, ht, hc, hl⟩ := h
    have ok := tt_ok ht
    have h5 := C.2.2.2.2.2.2.2.2
    have o1 := ok.1
    have o2 := ok.2
    refine vc_putG C hX (fun c => ?_) (fun c => kk _ ?_)
    · rw [hc.1] at c
      omega
    · show cq_ f n rd tk ca σ k (L ++ (cs ++ [v])) t _
      rw [← List.append_assoc]
      refine ⟨⟨rf_si (rf_sai hX.1) (.inr ⟨rfl, .inl rfl⟩), hX.2⟩, h0, T, ht, ⟨?_, fun i hi => ?_⟩, ?_⟩
      · show (va_up (u.2.1 114) rd (xi u 114 rd + 1) rd).toInt = _
        rw [va_up_self, ki_add (by rw [hc.1, ki_z1]; omega) (by rw [hc.1, ki_z1]; omega), hc.1, ki_z1, List.length_append, List.length_append]
        simp
      · show va_up u.2.2.2.2.2.1 ca (upd (u.2.2.2.2.2.1 ca) (xi u 114 rd).toNatClampNeg v) ca i = _
        rw [va_up_self]
        have ei : (xi u 114 rd).toNatClampNeg = (L ++ cs).length := by rw [ki_nat, hc.1]; omega
        rw [ei]
        have hi' : i < (L ++ cs).length + 1 := by rw [List.length_append] at hi; exact hi
        by_cases c2 : i = (L ++ cs).length
        · rw [c2]
          refine (w_updS).trans ?_
          exact l_getD_r.symm
        · refine (w_updN c2).trans ?_
          rw [l_getD_l (by omega)]
          exact hc.2 i (by omega)
      · rw [List.length_append]
        show (L ++ cs).length + 1 + k ≤ t.2.1
        omega
theorem vc_fail {k : Nat} {L : List Int32} {t : tk_T} {v : Int32} {u : kx_S} {Q : kx_S → Prop} (C : c0_ f n rd tk ca tp tb σ) (h : cq_ f n rd tk ca σ k L t u) (hv : ¬ v = 0) (kk : ∀ u', cF_ n rd tk ca σ t.2.1 u' → Q u') : vX5_fail rd v u Q := by
  unfold vX5_fail
  intro _
  refine ⟨fun c => absurd h.2.1 c, fun _ => ?_⟩
  rintro σ3 rfl a5 e5 _ σ8 rfl
  have e5 : xr u 112 rd = some a5 := e5
  obtain rfl := cX_tk C h.1 e5
  refine kk _ ⟨⟨rf_si (rf_si h.1.1 (.inr ⟨rfl, .inr (.inl rfl)⟩)) (.inr ⟨rfl, .inr (.inr rfl)⟩), h.1.2⟩, ?_, ?_⟩
  · show ¬ va_up (u.2.1 115) rd v rd = 0
    rw [va_up_self]
    exact hv
  · show (va_up (u.2.1 116) rd (xi u 195 tk) rd).toInt = _
    rw [va_up_self]
    exact h.2.2.1.2.1
theorem vc_pass {k : Nat} {L : List Int32} {r : pr_T} {b : Int32} {u : kx_S} {Q : kx_S → Prop} (C : c0_ f n rd tk ca tp tb σ) (hb : ¬ b = 2 ∧ ¬ b = 3 ∧ ¬ b = 0) (h : cr_ f n rd tk ca σ k L r u) (kk : ∀ u', cr_ f n rd tk ca σ k L (p_bind r (p_sg f n b)) u' → Q u') : vX5_pass rd b u Q := by
  unfold vX5_pass
  intro _
  cases r with
  | inl p => exact ⟨fun c => absurd c h.2.1, fun _ => kk u h⟩
  | inr q =>
    obtain ⟨t, cs⟩ := q
    have h : cq_ f n rd tk ca σ k (L ++ cs) t u := h
    refine ⟨fun c => ?_, fun c => absurd h.2.1 c⟩
    intro a3 e3 _
    obtain rfl := cX_tk C h.1 e3
    rw [h.2.2.1.2.2]
    refine ⟨fun d => ?_, fun d => ?_⟩
    · have e := (t_kcE hb.1 hb.2.1).1 d
      intro a7 e7 _
      obtain rfl := cX_tk C h.1 e7
      refine vc_adv1 C h (by rw [e]; exact hb.2.2) (fun u' h' => kk u' ?_)
      refine cr_pre ?_
      rw [show p_sg f n b t = .inr (p_adv f n t, []) from if_pos e]
      show cq_ f n rd tk ca σ k ((L ++ cs) ++ []) _ u'
      rw [List.append_nil]
      exact cq_le h'
    · have e : ¬ t.1 = b := fun q => d ((t_kcE hb.1 hb.2.1).2 q)
      refine vc_fail C h (by decide) (fun u' h' => kk u' (cr_pre ?_))
      rw [show p_sg f n b t = .inl t.2.1 from if_neg e]
      exact h'
theorem vc_isWord {k : Nat} {L : List Int32} {t : tk_T} {l : Nat} {u : kx_S} {Q : Int32 → kx_S → Prop} (C : c0_ f n rd tk ca tp tb σ) (h : cq_ f n rd tk ca σ k L t u) (k1 : t_wd f t l = true → Q 1 u) (k0 : t_wd f t l = false → Q 0 u) : vX10_isWord tk l u Q := vy_isWord (cX_ct C h.1) h.2.2.1 (tt_ok h.2.2.2.1) k1 k0
theorem vc_name {k : Nat} {L : List Int32} {t : tk_T} {u : kx_S} {Q : Int32 → kx_S → Prop} (C : c0_ f n rd tk ca tp tb σ) (h : cq_ f n rd tk ca σ k L t u) (kk : Q (p_nm f t) u) : vX5_codeOfName rd u Q := by
  unfold vX5_codeOfName
  unfold p_nm at kk
  intro _ a0 e0 _
  obtain rfl := cX_tk C h.1 e0
  refine vc_isWord C h (fun w => ⟨fun x => absurd x (by decide), fun _ => ?_⟩) (fun w0 => ⟨fun _ => ?_, fun x => absurd rfl x⟩)
  · rw [if_pos w] at kk; exact kk
  intro _ a1 e1 _
  obtain rfl := cX_tk C h.1 e1
  refine vc_isWord C h (fun w => ⟨fun x => absurd x (by decide), fun _ => ?_⟩) (fun w1 => ⟨fun _ => ?_, fun x => absurd rfl x⟩)
  · rw [if_neg (b_no w0)] at kk; rw [if_pos w] at kk; exact kk
  intro _ a2 e2 _
  obtain rfl := cX_tk C h.1 e2
  refine vc_isWord C h (fun w => ⟨fun x => absurd x (by decide), fun _ => ?_⟩) (fun w2 => ⟨fun _ => ?_, fun x => absurd rfl x⟩)
  · rw [if_neg (b_no w0)] at kk; rw [if_neg (b_no w1)] at kk; rw [if_pos w] at kk; exact kk
  intro _ a3 e3 _
  obtain rfl := cX_tk C h.1 e3
  refine vc_isWord C h (fun w => ⟨fun x => absurd x (by decide), fun _ => ?_⟩) (fun w3 => ⟨fun _ => ?_, fun x => absurd rfl x⟩)
  · rw [if_neg (b_no w0)] at kk; rw [if_neg (b_no w1)] at kk; rw [if_neg (b_no w2)] at kk; rw [if_pos w] at kk; exact kk
  intro _ a4 e4 _
  obtain rfl := cX_tk C h.1 e4
  refine vc_isWord C h (fun w => ⟨fun x => absurd x (by decide), fun _ => ?_⟩) (fun w4 => ⟨fun _ => ?_, fun x => absurd rfl x⟩)
  · rw [if_neg (b_no w0)] at kk; rw [if_neg (b_no w1)] at kk; rw [if_neg (b_no w2)] at kk; rw [if_neg (b_no w3)] at kk; rw [if_pos w] at kk; exact kk
  intro _ a5 e5 _
  obtain rfl := cX_tk C h.1 e5
  refine vc_isWord C h (fun w => ⟨fun x => absurd x (by decide), fun _ => ?_⟩) (fun w5 => ⟨fun _ => ?_, fun x => absurd rfl x⟩)
  · rw [if_neg (b_no w0)] at kk; rw [if_neg (b_no w1)] at kk; rw [if_neg (b_no w2)] at kk; rw [if_neg (b_no w3)] at kk; rw [if_neg (b_no w4)] at kk; rw [if_pos w] at kk; exact kk
  intro _ a6 e6 _
  obtain rfl := cX_tk C h.1 e6
  refine vc_isWord C h (fun w => ⟨fun x => absurd x (by decide), fun _ => ?_⟩) (fun w6 => ⟨fun _ => ?_, fun x => absurd rfl x⟩)
  · rw [if_neg (b_no w0)] at kk; rw [if_neg (b_no w1)] at kk; rw [if_neg (b_no w2)] at kk; rw [if_neg (b_no w3)] at kk; rw [if_neg (b_no w4)] at kk; rw [if_neg (b_no w5)] at kk; rw [if_pos w] at kk; exact kk
  rw [if_neg (b_no w0)] at kk; rw [if_neg (b_no w1)] at kk; rw [if_neg (b_no w2)] at kk; rw [if_neg (b_no w3)] at kk; rw [if_neg (b_no w4)] at kk; rw [if_neg (b_no w5)] at kk; rw [if_neg (b_no w6)] at kk; exact kk
theorem vc_fop {k : Nat} {L : List Int32} {t : tk_T} {u : kx_S} {Q : Int32 → kx_S → Prop} (C : c0_ f n rd tk ca tp tb σ) (h : cq_ f n rd tk ca σ k L t u) (k0 : fp_ f t → Q 0 u) (k1 : ¬ fp_ f t → ∀ v, ¬ v = 0 → Q v u) : vX5_faultOfPart rd u Q := by
  unfold vX5_faultOfPart
  intro _ a2 e2 _
  obtain rfl := cX_tk C h.1 e2
  rintro v5 rfl
  rw [h.2.2.1.2.2]
  have no : ∀ (P : Prop), ¬ t.1 = 2 → ¬ t.1 = 1 → ¬ t.1 = 40 → ¬ fp_ f t := by
    rintro _ a b c (q | q | q)
    · exact a q.1
    · exact b q.1
    · exact c q
  refine ⟨fun c => ?_, fun c => k0 (.inl (t_kc2.1 c)), fun c => ?_, fun c => k0 (.inr (.inr ((t_kcE (by decide) (by decide)).1 c))), fun c1 c2 c3 c4 => ?_⟩
  · have e := t_kc1.1 c
    refine vc_name C h ⟨fun d => k0 (.inr (.inl ⟨e, d⟩)), fun d => k1 ?_ 3 (by decide)⟩
    rintro (q | q | q)
    · rw [e] at q; exact absurd q.1 (by decide)
    · exact q.2 d
    · rw [e] at q; exact absurd q (by decide)
  · refine k1 ?_ 2 (by decide)
    rcases t_kc3 c with q | q
    · rintro (r | r | r)
      · exact r.2 q.2
      · rw [q.1] at r; exact absurd r.1 (by decide)
      · rw [q.1] at r; exact absurd r (by decide)
    · exact no True (by rw [q]; decide) (by rw [q]; decide) (by rw [q]; decide)
  · refine k1 ?_ 1 (by decide)
    rintro (q | q | q)
    · exact c2 (t_kc2.2 q)
    · exact c1 (t_kc1.2 q.1)
    · exact c4 ((t_kcE (by decide) (by decide)).2 q)
theorem vc_part78 {re : Nat → Int32 → kx_S → (kx_S → Prop) → Prop} {k : Nat} {L : List Int32} {t : tk_T} {v : Int32} {u : kx_S} {Q : kx_S → Prop} (C : c0_ f n rd tk ca tp tb σ) (h : cq_ f n rd tk ca σ k L t u) (hk : ¬ t.1 = 0) (kk : ∀ u', cq_ f n rd tk ca σ k (L ++ [v]) (p_adv f n t) u' → Q u') : vX5_readPart_78 re Q rd v rd u := by
  unfold vX5_readPart_78
  intro _
  obtain ⟨hX, h0, T, ht, hc, hl⟩ := h
  have ok := tt_ok ht
  have h5 := C.2.2.2.2.2.2.2.2
  have o1 := ok.1
  have o2 := ok.2
  have o3 := tt_pos ht hk
  refine vc_putG C hX (fun c => ?_) (fun c => ?_)
  · rw [hc.1] at c
    omega
  · intro _ a4 e4 _
    have e4 : xr u 112 rd = some a4 := e4
    obtain rfl := cX_tk C hX e4
    refine vc_adv0 (L := L ++ [v]) (k := k) (t := t) C ⟨rf_si (rf_sai hX.1) (.inr ⟨rfl, .inl rfl⟩), hX.2⟩ h0 T ht ⟨?_, fun i hi => ?_⟩ ?_ (fun u' h' => kk u' h')
    · show (va_up (u.2.1 114) rd (xi u 114 rd + 1) rd).toInt = _
      rw [va_up_self, ki_add (by rw [hc.1, ki_z1]; omega) (by rw [hc.1, ki_z1]; omega), hc.1, ki_z1, List.length_append]
      simp
    · show va_up u.2.2.2.2.2.1 ca (upd (u.2.2.2.2.2.1 ca) (xi u 114 rd).toNatClampNeg v) ca i = _
      rw [va_up_self]
      have ei : (xi u 114 rd).toNatClampNeg = L.length := by rw [ki_nat, hc.1]; omega
      rw [ei]
      have hi' : i < L.length + 1 := by rw [List.length_append] at hi; exact hi
      by_cases c2 : i = L.length
      · rw [c2]
        refine (w_updS).trans ?_
        exact l_getD_r.symm
      · refine (w_updN c2).trans ?_
        rw [l_getD_l (by omega)]
        exact hc.2 i (by omega)
    · rw [List.length_append]
      show L.length + 1 + k ≤ t.2.2
      omega
theorem vc_part {re : Nat → Int32 → kx_S → (kx_S → Prop) → Prop} {l1 : Int32} {R : tk_T → pr_T} (C : c0_ f n rd tk ca tp tb σ) (hre : cp_ f n rd tk ca σ (fun u Q => re rd (l1 + 1) u Q) R) : cp_ f n rd tk ca σ (fun u Q => vX5_readPart re rd l1 u Q) (p_part f n R) := by
  intro k L t u Q h kk
  show vX5_readPart re rd l1 u Q
  unfold vX5_readPart
  intro _
  refine vc_fop C h (fun ok => ⟨fun _ => ?_, fun x => absurd rfl x⟩) (fun no v hv => ⟨fun x => absurd x hv, fun _ _ => ?_⟩)
  · intro _ a13 e13 _
    obtain rfl := cX_tk C h.1 e13
    rw [h.2.2.1.2.2]
    refine ⟨fun c => ?_, fun c => ?_⟩
    · have c40 : ¬ t.1 = 40 := fun q => c ((t_kcE (by decide) (by decide)).2 q)
      intro a17 e17 _
      obtain rfl := cX_tk C h.1 e17
      rw [h.2.2.1.2.2]
      refine ⟨fun d => ?_, fun d => ?_⟩
      · have e : t.1 = 1 ∧ ¬ p_nm f t = 0 := by
          rcases ok with q | q | q
          · exact absurd (t_kc2.2 q) d
          · exact q
          · exact absurd q c40
        refine vc_name C h (vc_part78 C h (by rw [e.1]; decide) (fun u' h' => kk u' ?_))
        rw [p_part_name e.1 e.2]
        exact h'
      · have e := t_kc2.1 d
        intro a23 e23 _
        obtain rfl := cX_tk C h.1 e23
        refine vy_number (cX_ct C h.1) h.2.2.1 (tt_ok h.2.2.2.1) (vc_part78 C h (by rw [e.1]; decide) (fun u' h' => kk u' ?_))
        rw [p_part_num e.1 e.2]
        exact h'
    · have e := (t_kcE (by decide) (by decide)).1 c
      intro a28 e28 _
      obtain rfl := cX_tk C h.1 e28
      refine vc_adv1 C h (by rw [e]; decide) (fun u1 h1 => ?_)
      intro _
      refine hre k L (p_adv f n t) u1 _ (cq_le h1) (fun u2 h2 => ?_)
      intro _
      refine vc_pass C ⟨by decide, by decide, by decide⟩ h2 (fun u3 h3 => kk u3 ?_)
      rw [p_part_par e]
      exact h3
  · refine vc_fail C h hv (fun u' h' => kk u' ?_)
    rw [p_part_no no]
    exact h'

theorem p_opT0 {t : tk_T} (h1 : ¬ t_kc t = 42) (h2 : ¬ t_kc t = 47) : p_opT t = 0 := by
  unfold p_opT
  rw [if_neg (fun q => h1 ((t_kcE (by decide) (by decide)).2 q)), if_neg (fun q => h2 ((t_kcE (by decide) (by decide)).2 q))]
theorem vc_loopT {re : Nat → Int32 → kx_S → (kx_S → Prop) → Prop} {l1 : Int32} {R : tk_T → pr_T} {k : Nat} {L : List Int32} {Q : kx_S → Prop} (C : c0_ f n rd tk ca tp tb σ) (h1 : cp_ f n rd tk ca σ (fun u Q => vX5_readPart re rd l1 u Q) (p_part f n R)) : ∀ (j m : Nat) (i : Int32) (r : pr_T) (u : kx_S), i.toInt = 500 - (m : Int) → m ≤ 500 → cr_ f n rd tk ca σ k L r u → (∀ u', cr_ f n rd tk ca σ k L (p_bind r (p_loop f n (p_part f n R) p_opT m)) u' → Q u') → vX5_readTerm_7 re Q j rd l1 i u := by
  intro j
  induction j with
  | zero => intro _ _ _ _ _ _ _ _; exact trivial
  | succ j ih =>
    intro m i r u hi hm h kk
    unfold vX5_readTerm_7
    have z5 : (500 : Int32).toInt = 500 := by decide
    cases r with
    | inl p => exact ⟨fun _ => kk u h, fun _ _ => ⟨fun _ => kk u h, fun c => absurd c h.2.1⟩⟩
    | inr q =>
      obtain ⟨t, cs⟩ := q
      have h : cq_ f n rd tk ca σ k (L ++ cs) t u := h
      refine ⟨fun c => ?_, fun c _ => ⟨fun d => absurd h.2.1 d, fun _ => ?_⟩⟩
      · rw [ki_le, z5, hi] at c
        have : m = 0 := by omega
        subst this
        refine kk u (cr_pre ?_)
        show cq_ f n rd tk ca σ k ((L ++ cs) ++ []) t u
        rw [List.append_nil]
        exact h
      · rw [ki_le, z5, hi] at c
        obtain ⟨m, rfl⟩ : ∃ q, m = q + 1 := ⟨m - 1, by omega⟩
        intro a15 e15 _
        obtain rfl := cX_tk C h.1 e15
        rintro v18 rfl
        rw [h.2.2.1.2.2]
        have go : ∀ (l3 v : Int32), t.1 = l3 → (l3 = 42 ∧ v = (-10) ∨ l3 = 47 ∧ v = (-11)) → vX5_readTerm_42 re (vX5_readTerm_7 re Q j) Q rd l1 i l3 u := by
          intro l3 v e hv
          have hop : p_opT t = v := by
            unfold p_opT
            rcases hv with ⟨x, y⟩ | ⟨x, y⟩
            · rw [if_pos (e.trans x), y]
            · rw [if_neg (by rw [e, x]; decide), if_pos (e.trans x), y]
          have hv0 : ¬ v = 0 := by rcases hv with ⟨_, y⟩ | ⟨_, y⟩ <;> (rw [y]; decide)
          have ht : ¬ t.1 = 0 := by rw [e]; rcases hv with ⟨x, _⟩ | ⟨x, _⟩ <;> (rw [x]; decide)
          unfold vX5_readTerm_42
          intro _ a5 e5 _
          obtain rfl := cX_tk C h.1 e5
          refine vc_adv1 C h ht (fun u1 g1 => ?_)
          intro _
          refine h1 (k + 1) (L ++ cs) (p_adv f n t) u1 _ g1 (fun u2 g2 => ?_)
          have nxt : vX5_readTerm_68 re (vX5_readTerm_7 re Q j) Q rd l1 i v rd u2 := by
            unfold vX5_readTerm_68
            intro _
            refine vc_put C g2 (fun u3 g3 => ?_)
            intro v3 e3
            refine ih m v3 (p_bind (.inr (t, cs)) (fun t => p_bind (p_part f n R (p_adv f n t)) (p_put v))) u3 ?_ (by omega) (cr_pre g3) (fun u' h' => kk u' ?_)
            · rw [e3, ki_add (by rw [hi, ki_z1]; omega) (by rw [hi, ki_z1]; omega), hi, ki_z1]
              omega
            · rw [p_bind_assoc] at h'
              rw [p_bind_congr (k' := fun t => p_bind (p_bind (p_part f n R (p_adv f n t)) (p_put v)) (p_loop f n (p_part f n R) p_opT m)) (by rw [p_loop_go (by rw [hop]; exact hv0), hop])]
              exact h'
          refine ⟨fun x => ?_, fun x => ?_⟩
          · rcases hv with ⟨y, _⟩ | ⟨_, y⟩
            · exact absurd y x
            · rw [y] at nxt; exact nxt
          · rcases hv with ⟨_, y⟩ | ⟨y, _⟩
            · rw [y] at nxt; exact nxt
            · rw [x] at y; exact absurd y (by decide)
        refine ⟨fun d => ?_, fun d => ⟨fun e => ?_, fun e => ?_⟩⟩
        · have e1 := (t_kcE (b := 42) (by decide) (by decide)).1 d
          rw [d]
          exact go 42 (-10) e1 (.inl ⟨rfl, rfl⟩)
        · have e1 := (t_kcE (b := 47) (by decide) (by decide)).1 e
          rw [e]
          exact go 47 (-11) e1 (.inr ⟨rfl, rfl⟩)
        · refine kk u (cr_pre ?_)
          rw [p_loop_stop (p_opT0 d e)]
          show cq_ f n rd tk ca σ k ((L ++ cs) ++ []) t u
          rw [List.append_nil]
          exact h
theorem vc_term {re : Nat → Int32 → kx_S → (kx_S → Prop) → Prop} {l1 : Int32} {R : tk_T → pr_T} (C : c0_ f n rd tk ca tp tb σ) (hre : cp_ f n rd tk ca σ (fun u Q => re rd (l1 + 1) u Q) R) : cp_ f n rd tk ca σ (fun u Q => vX5_readTerm re rd l1 u Q) (p_term f n R) := by
  intro k L t u Q h kk
  show vX5_readTerm re rd l1 u Q
  unfold vX5_readTerm
  intro _
  refine vc_part C hre k L t u _ h (fun u1 g1 => ?_)
  intro j
  exact vc_loopT C (vc_part C hre) j 500 0 _ u1 (by decide) (Nat.le_refl _) g1 kk

theorem p_opS0 {t : tk_T} (h1 : ¬ t_kc t = 43) (h2 : ¬ t_kc t = 45) : p_opS t = 0 := by
  unfold p_opS
  rw [if_neg (fun q => h1 ((t_kcE (by decide) (by decide)).2 q)), if_neg (fun q => h2 ((t_kcE (by decide) (by decide)).2 q))]
theorem vc_loopS {re : Nat → Int32 → kx_S → (kx_S → Prop) → Prop} {l1 : Int32} {R : tk_T → pr_T} {k : Nat} {L : List Int32} {Q : kx_S → Prop} (C : c0_ f n rd tk ca tp tb σ) (h1 : cp_ f n rd tk ca σ (fun u Q => vX5_readTerm re rd l1 u Q) (p_term f n R)) : ∀ (j m : Nat) (i : Int32) (r : pr_T) (u : kx_S), i.toInt = 500 - (m : Int) → m ≤ 500 → cr_ f n rd tk ca σ k L r u → (∀ u', cr_ f n rd tk ca σ k L (p_bind r (p_loop f n (p_term f n R) p_opS m)) u' → Q u') → vX5_readSum_7 re Q j rd l1 i u := by
  intro j
  induction j with
  | zero => intro _ _ _ _ _ _ _ _; exact trivial
  | succ j ih =>
    intro m i r u hi hm h kk
    unfold vX5_readSum_7
    have z5 : (500 : Int32).toInt = 500 := by decide
    cases r with
    | inl p => exact ⟨fun _ => kk u h, fun _ _ => ⟨fun _ => kk u h, fun c => absurd c h.2.1⟩⟩
    | inr q =>
      obtain ⟨t, cs⟩ := q
      have h : cq_ f n rd tk ca σ k (L ++ cs) t u := h
      refine ⟨fun c => ?_, fun c _ => ⟨fun d => absurd h.2.1 d, fun _ => ?_⟩⟩
      · rw [ki_le, z5, hi] at c
        have : m = 0 := by omega
        subst this
        refine kk u (cr_pre ?_)
        show cq_ f n rd tk ca σ k ((L ++ cs) ++ []) t u
        rw [List.append_nil]
        exact h
      · rw [ki_le, z5, hi] at c
        obtain ⟨m, rfl⟩ : ∃ q, m = q + 1 := ⟨m - 1, by omega⟩
        intro a15 e15 _
        obtain rfl := cX_tk C h.1 e15
        rintro v18 rfl
        rw [h.2.2.1.2.2]
        have go : ∀ (l3 v : Int32), t.1 = l3 → (l3 = 43 ∧ v = (-8) ∨ l3 = 45 ∧ v = (-9)) → vX5_readSum_42 re (vX5_readSum_7 re Q j) Q rd l1 i l3 u := by
          intro l3 v e hv
          have hop : p_opS t = v := by
            unfold p_opS
            rcases hv with ⟨x, y⟩ | ⟨x, y⟩
            · rw [if_pos (e.trans x), y]
            · rw [if_neg (by rw [e, x]; decide), if_pos (e.trans x), y]
          have hv0 : ¬ v = 0 := by rcases hv with ⟨_, y⟩ | ⟨_, y⟩ <;> (rw [y]; decide)
          have ht : ¬ t.1 = 0 := by rw [e]; rcases hv with ⟨x, _⟩ | ⟨x, _⟩ <;> (rw [x]; decide)
          unfold vX5_readSum_42
          intro _ a5 e5 _
          obtain rfl := cX_tk C h.1 e5
          refine vc_adv1 C h ht (fun u1 g1 => ?_)
          intro _
          refine h1 (k + 1) (L ++ cs) (p_adv f n t) u1 _ g1 (fun u2 g2 => ?_)
          have nxt : vX5_readSum_68 re (vX5_readSum_7 re Q j) Q rd l1 i v rd u2 := by
            unfold vX5_readSum_68
            intro _
            refine vc_put C g2 (fun u3 g3 => ?_)
            intro v3 e3
            refine ih m v3 (p_bind (.inr (t, cs)) (fun t => p_bind (p_term f n R (p_adv f n t)) (p_put v))) u3 ?_ (by omega) (cr_pre g3) (fun u' h' => kk u' ?_)
            · rw [e3, ki_add (by rw [hi, ki_z1]; omega) (by rw [hi, ki_z1]; omega), hi, ki_z1]
              omega
            · rw [p_bind_assoc] at h'
              rw [p_bind_congr (k' := fun t => p_bind (p_bind (p_term f n R (p_adv f n t)) (p_put v)) (p_loop f n (p_term f n R) p_opS m)) (by rw [p_loop_go (by rw [hop]; exact hv0), hop])]
              exact h'
          refine ⟨fun x => ?_, fun x => ?_⟩
          · rcases hv with ⟨y, _⟩ | ⟨_, y⟩
            · exact absurd y x
            · rw [y] at nxt; exact nxt
          · rcases hv with ⟨_, y⟩ | ⟨y, _⟩
            · rw [y] at nxt; exact nxt
            · rw [x] at y; exact absurd y (by decide)
        refine ⟨fun d => ?_, fun d => ⟨fun e => ?_, fun e => ?_⟩⟩
        · have e1 := (t_kcE (b := 43) (by decide) (by decide)).1 d
          rw [d]
          exact go 43 (-8) e1 (.inl ⟨rfl, rfl⟩)
        · have e1 := (t_kcE (b := 45) (by decide) (by decide)).1 e
          rw [e]
          exact go 45 (-9) e1 (.inr ⟨rfl, rfl⟩)
        · refine kk u (cr_pre ?_)
          rw [p_loop_stop (p_opS0 d e)]
          show cq_ f n rd tk ca σ k ((L ++ cs) ++ []) t u
          rw [List.append_nil]
          exact h
theorem vc_sum {re : Nat → Int32 → kx_S → (kx_S → Prop) → Prop} {l1 : Int32} {R : tk_T → pr_T} (C : c0_ f n rd tk ca tp tb σ) (hre : cp_ f n rd tk ca σ (fun u Q => re rd (l1 + 1) u Q) R) : cp_ f n rd tk ca σ (fun u Q => vX5_readSum re rd l1 u Q) (p_sum f n R) := by
  intro k L t u Q h kk
  show vX5_readSum re rd l1 u Q
  unfold vX5_readSum
  intro _
  refine vc_term C hre k L t u _ h (fun u1 g1 => ?_)
  intro j
  exact vc_loopS C (vc_term C hre) j 500 0 _ u1 (by decide) (Nat.le_refl _) g1 kk

theorem vc_put82 {re : Nat → Int32 → kx_S → (kx_S → Prop) → Prop} {k : Nat} {L : List Int32} {r : pr_T} {u : kx_S} {Q : kx_S → Prop} (C : c0_ f n rd tk ca tp tb σ) (h : cr_ f n rd tk ca σ (k + 1) L r u) (kk : ∀ u', cr_ f n rd tk ca σ k L (p_bind r (p_put (-16))) u' → Q u') : vX5_readTest_82 re Q rd 1 u := by
  unfold vX5_readTest_82
  exact ⟨fun x => absurd x (by decide), fun _ _ => vc_put C h kk⟩
theorem vc_test21 {re : Nat → Int32 → kx_S → (kx_S → Prop) → Prop} {l1 l2 : Int32} {R : tk_T → pr_T} {k : Nat} {L : List Int32} {t : tk_T} {u : kx_S} {Q : kx_S → Prop} (C : c0_ f n rd tk ca tp tb σ) (hre : cp_ f n rd tk ca σ (fun u Q => re rd (l1 + 1) u Q) R) (h : cq_ f n rd tk ca σ k L t u) (kk : ∀ u', cr_ f n rd tk ca σ k L (p_cmp f n R t) u' → vX5_readTest_82 re Q rd l2 u') : vX5_readTest_21 re Q rd l1 l2 u := by
  unfold vX5_readTest_21
  intro _
  refine vc_sum C hre k L t u _ h (fun u1 g1 => ?_)
  intro _ a17 e17 _
  obtain rfl := cX_tk C (cr_X g1) e17
  rintro v20 rfl
  unfold p_cmp at kk
  revert g1 kk
  cases p_sum f n R t with
  | inl p =>
    intro kk g1
    exact ⟨fun _ => kk u1 g1, fun c => absurd c g1.2.1⟩
  | inr q =>
    obtain ⟨t1, cs⟩ := q
    intro kk g1
    have g1 : cq_ f n rd tk ca σ k (L ++ cs) t1 u1 := g1
    rw [g1.2.2.1.2.2]
    refine ⟨fun c => absurd g1.2.1 c, fun _ => ?_⟩
    have go : ∀ (l3 v : Int32), t1.1 = l3 → (l3 = 60 ∧ v = (-12) ∨ l3 = 61 ∧ v = (-13)) → vX5_readTest_53 re (vX5_readTest_82 re Q) Q rd l1 l2 l3 u1 := by
      intro l3 v e hv
      have hop : p_opC t1 = v := by
        unfold p_opC
        rcases hv with ⟨x, y⟩ | ⟨x, y⟩
        · rw [if_pos (e.trans x), y]
        · rw [if_neg (by rw [e, x]; decide), if_pos (e.trans x), y]
      have hv0 : ¬ v = 0 := by rcases hv with ⟨_, y⟩ | ⟨_, y⟩ <;> (rw [y]; decide)
      have ht : ¬ t1.1 = 0 := by rw [e]; rcases hv with ⟨x, _⟩ | ⟨x, _⟩ <;> (rw [x]; decide)
      unfold vX5_readTest_53
      intro _ a7 e7 _
      obtain rfl := cX_tk C g1.1 e7
      refine vc_adv1 C g1 ht (fun u2 g2 => ?_)
      intro _
      refine vc_sum C hre (k + 1) (L ++ cs) (p_adv f n t1) u2 _ g2 (fun u3 g3 => ?_)
      have nxt : vX5_readTest_79 re (vX5_readTest_82 re Q) Q rd l2 v rd u3 := by
        unfold vX5_readTest_79
        intro _
        refine vc_put C g3 (fun u4 g4 => kk u4 (cr_pre ?_))
        rw [show p_cmp2 f n R t1 = p_bind (p_sum f n R (p_adv f n t1)) (p_put v) from (if_neg (by rw [hop]; exact hv0)).trans (by rw [hop])]
        exact g4
      refine ⟨fun x => ?_, fun x => ?_⟩
      · rcases hv with ⟨y, _⟩ | ⟨_, y⟩
        · exact absurd y x
        · rw [y] at nxt; exact nxt
      · rcases hv with ⟨_, y⟩ | ⟨y, _⟩
        · rw [y] at nxt; exact nxt
        · rw [x] at y; exact absurd y (by decide)
    refine ⟨fun d => ?_, fun d => ⟨fun e => ?_, fun e => ?_⟩⟩
    · have e1 := (t_kcE (b := 60) (by decide) (by decide)).1 d
      rw [d]
      exact go 60 (-12) e1 (.inl ⟨rfl, rfl⟩)
    · refine kk u1 (cr_pre ?_)
      have hop : p_opC t1 = 0 := by
        unfold p_opC
        rw [if_neg (fun q => d ((t_kcE (by decide) (by decide)).2 q)), if_neg (fun q => e ((t_kcE (by decide) (by decide)).2 q))]
      rw [show p_cmp2 f n R t1 = .inr (t1, []) from if_pos hop]
      show cq_ f n rd tk ca σ k ((L ++ cs) ++ []) t1 u1
      rw [List.append_nil]
      exact g1
    · have e1 := (t_kcE (b := 61) (by decide) (by decide)).1 e
      rw [e]
      exact go 61 (-13) e1 (.inr ⟨rfl, rfl⟩)
theorem vc_test {re : Nat → Int32 → kx_S → (kx_S → Prop) → Prop} {l1 : Int32} {R : tk_T → pr_T} (C : c0_ f n rd tk ca tp tb σ) (hre : cp_ f n rd tk ca σ (fun u Q => re rd (l1 + 1) u Q) R) : cp_ f n rd tk ca σ (fun u Q => vX5_readTest re rd l1 u Q) (p_test f n R) := by
  intro k L t u Q h kk
  show vX5_readTest re rd l1 u Q
  unfold vX5_readTest
  intro _ a25 e25 _
  obtain rfl := cX_tk C h.1 e25
  refine vc_isWord C h (fun w => ⟨fun x => absurd x (by decide), fun _ => ?_⟩) (fun w => ⟨fun _ => ?_, fun x => absurd rfl x⟩)
  · intro _ a32 e32 _
    obtain rfl := cX_tk C h.1 e32
    have ht : ¬ t.1 = 0 := by rw [(t_wd_iff.1 w).1]; decide
    refine vc_adv1 C h ht (fun u1 g1 => ?_)
    refine vc_test21 C hre g1 (fun u2 g2 => vc_put82 C g2 (fun u3 g3 => kk u3 ?_))
    rw [show p_test f n R t = p_bind (p_cmp f n R (p_adv f n t)) (p_put (-16)) from if_pos w]
    exact g3
  · refine vc_test21 C hre h (fun u2 g2 => ?_)
    unfold vX5_readTest_82
    refine ⟨fun _ => kk u2 ?_, fun x => absurd rfl x⟩
    rw [show p_test f n R t = p_cmp f n R t from if_neg (b_no w)]
    exact g2
theorem vc_loopE {re : Nat → Int32 → kx_S → (kx_S → Prop) → Prop} {l1 : Int32} {R : tk_T → pr_T} {k : Nat} {L : List Int32} {Q : kx_S → Prop} (C : c0_ f n rd tk ca tp tb σ) (h1 : cp_ f n rd tk ca σ (fun u Q => vX5_readTest re rd l1 u Q) (p_test f n R)) : ∀ (j m : Nat) (i : Int32) (r : pr_T) (u : kx_S), i.toInt = 500 - (m : Int) → m ≤ 500 → cr_ f n rd tk ca σ k L r u → (∀ u', cr_ f n rd tk ca σ k L (p_bind r (p_loop f n (p_test f n R) (p_opE f) m)) u' → Q u') → vX5_readExpr_48 re Q j rd l1 i u := by
  intro j
  induction j with
  | zero => intro _ _ _ _ _ _ _ _; exact trivial
  | succ j ih =>
    intro m i r u hi hm h kk
    unfold vX5_readExpr_48
    have z5 : (500 : Int32).toInt = 500 := by decide
    cases r with
    | inl p => exact ⟨fun _ => kk u h, fun _ _ => ⟨fun _ => kk u h, fun c => absurd c h.2.1⟩⟩
    | inr q =>
      obtain ⟨t, cs⟩ := q
      have h : cq_ f n rd tk ca σ k (L ++ cs) t u := h
      refine ⟨fun c => ?_, fun c _ => ⟨fun d => absurd h.2.1 d, fun _ => ?_⟩⟩
      · rw [ki_le, z5, hi] at c
        have : m = 0 := by omega
        subst this
        refine kk u (cr_pre ?_)
        show cq_ f n rd tk ca σ k ((L ++ cs) ++ []) t u
        rw [List.append_nil]
        exact h
      · rw [ki_le, z5, hi] at c
        obtain ⟨m, rfl⟩ : ∃ q, m = q + 1 := ⟨m - 1, by omega⟩
        intro a15 e15 _
        obtain rfl := cX_tk C h.1 e15
        have go : ∀ (l3 v : Int32), t.1 = 1 → p_opE f t = v → (¬ l3 = 0 ∧ v = (-14) ∨ l3 = 0 ∧ v = (-15)) → vX5_readExpr_89 re (vX5_readExpr_48 re Q j) Q rd l1 i l3 u := by
          intro l3 v e hop hv
          have hv0 : ¬ v = 0 := by rcases hv with ⟨_, y⟩ | ⟨_, y⟩ <;> (rw [y]; decide)
          have ht : ¬ t.1 = 0 := by rw [e]; decide
          unfold vX5_readExpr_89
          intro _ a5 e5 _
          obtain rfl := cX_tk C h.1 e5
          refine vc_adv1 C h ht (fun u1 g1 => ?_)
          intro _
          refine h1 (k + 1) (L ++ cs) (p_adv f n t) u1 _ g1 (fun u2 g2 => ?_)
          have nxt : vX5_readExpr_113 re (vX5_readExpr_48 re Q j) Q rd l1 i v rd u2 := by
            unfold vX5_readExpr_113
            intro _
            refine vc_put C g2 (fun u3 g3 => ?_)
            intro v3 e3
            refine ih m v3 (p_bind (.inr (t, cs)) (fun t => p_bind (p_test f n R (p_adv f n t)) (p_put v))) u3 ?_ (by omega) (cr_pre g3) (fun u' h' => kk u' ?_)
            · rw [e3, ki_add (by rw [hi, ki_z1]; omega) (by rw [hi, ki_z1]; omega), hi, ki_z1]
              omega
            · rw [p_bind_assoc] at h'
              rw [p_bind_congr (k' := fun t => p_bind (p_bind (p_test f n R (p_adv f n t)) (p_put v)) (p_loop f n (p_test f n R) (p_opE f) m)) (by rw [p_loop_go (by rw [hop]; exact hv0), hop])]
              exact h'
          refine ⟨fun x => ?_, fun x => ?_⟩
          · rcases hv with ⟨y, _⟩ | ⟨_, y⟩
            · exact absurd x y
            · rw [y] at nxt; exact nxt
          · rcases hv with ⟨_, y⟩ | ⟨y, _⟩
            · rw [y] at nxt; exact nxt
            · exact absurd y x
        refine vc_isWord C h (fun w => ⟨fun _ => ?_, fun x => absurd x (by decide)⟩) (fun w => ⟨fun x => absurd rfl x, fun _ => ?_⟩)
        · exact go 1 (-14) (t_wd_iff.1 w).1 (if_pos w) (.inl ⟨by decide, rfl⟩)
        · intro _ a25 e25 _
          obtain rfl := cX_tk C h.1 e25
          refine vc_isWord C h (fun w2 => ⟨fun _ => ?_, fun x => absurd x (by decide)⟩) (fun w2 => ⟨fun x => absurd rfl x, fun _ => ?_⟩)
          · exact go 0 (-15) (t_wd_iff.1 w2).1 ((if_neg (b_no w)).trans (if_pos w2)) (.inr ⟨rfl, rfl⟩)
          · refine kk u (cr_pre ?_)
            rw [p_loop_stop (show p_opE f t = 0 from (if_neg (b_no w)).trans (if_neg (b_no w2)))]
            show cq_ f n rd tk ca σ k ((L ++ cs) ++ []) t u
            rw [List.append_nil]
            exact h
theorem vc_expr (C : c0_ f n rd tk ca tp tb σ) : ∀ (d D : Nat) (l1 : Int32), l1.toInt = 8 - (d : Int) → d ≤ 8 → cp_ f n rd tk ca σ (fun u Q => vX5_readExpr D rd l1 u Q) (p_expr f n d) := by
  have z8 : (8 : Int32).toInt = 8 := by decide
  intro d
  induction d with
  | zero =>
    intro D l1 hl _ k L t u Q h kk
    cases D with
    | zero => exact trivial
    | succ D =>
      show vX5_readExpr_b (vX5_readExpr D) rd l1 u Q
      unfold vX5_readExpr_b
      have fin : ∀ s0 : Int32, vX5_readExpr_26 (vX5_readExpr D) Q rd s0 u := by
        intro s0
        unfold vX5_readExpr_26 vX5_readExpr_37
        exact ⟨fun c _ => vc_fail C h c (fun u' h' => kk u' h'), fun _ _ => vc_fail C h (by decide) (fun u' h' => kk u' h')⟩
      refine ⟨fun c => ?_, fun _ _ => ?_⟩
      · rw [ki_lt, z8] at c
        omega
      · intro a36 e36 _
        obtain rfl := cX_tk C h.1 e36
        refine vc_isWord C h (fun w => ⟨fun x => absurd x (by decide), fun _ => fin 0⟩) (fun w => ⟨fun _ _ => ?_, fun x => absurd rfl x⟩)
        exact vc_fop C h (fun _ => fin 0) (fun _ v _ => fin v)
  | succ d ih =>
    intro D l1 hl hd k L t u Q h kk
    cases D with
    | zero => exact trivial
    | succ D =>
      show vX5_readExpr_b (vX5_readExpr D) rd l1 u Q
      unfold vX5_readExpr_b
      have hre : cp_ f n rd tk ca σ (fun u Q => vX5_readExpr D rd (l1 + 1) u Q) (p_expr f n d) := by
        refine ih D (l1 + 1) ?_ (by omega)
        rw [ki_add (by rw [hl, ki_z1]; omega) (by rw [hl, ki_z1]; omega), hl, ki_z1]
        omega
      refine ⟨fun _ _ => ?_, fun c => absurd ?_ c⟩
      · refine vc_test C hre k L t u _ h (fun u1 g1 => ?_)
        intro j
        exact vc_loopE C (vc_test C hre) j 500 0 _ u1 (by decide) (Nat.le_refl _) g1 kk
      · rw [ki_lt, z8]
        omega

/-- the rules' row of codes, as the class keeps it -/
def p_flat (rs : List (Bool × List Int32)) : List Int32 := rs.flatMap (fun r => r.2 ++ [if r.1 = true then -18 else -17])
theorem t_wd78 {t : tk_T} (h : t_wd f t 8 = true) : t_wd f t 7 = false := by
  refine t_wd_no (fun x => ?_)
  have e := (t_wd_iff.1 h).2.1
  rw [x.2.1] at e
  exact absurd e (by decide)
theorem vc_rule {k : Nat} {L : List Int32} {t : tk_T} {i : Int32} {q : Nat} {u : kx_S} {Q : kx_S → Prop} (C : c0_ f n rd tk ca tp tb σ) (hi : i.toInt = (q : Int)) (h : cq_ f n rd tk ca σ k L t u) (kk : ∀ u', cr_ f n rd tk ca σ k L (p_bind (p_rule f n q t) (p_put (if t_wd f t 7 = true then -18 else -17))) u' → Q u') : vX5_readRule rd i u Q := by
  have z12 : (12 : Int32).toInt = 12 := by decide
  have go : ∀ l2 : Int32, (t_wd f t 8 = true ∨ t_wd f t 7 = true) → ((l2 = 0 ∧ t_wd f t 7 = true) ∨ (¬ l2 = 0 ∧ t_wd f t 7 = false)) → vX5_readRule_32 Q rd i l2 u := by
    intro l2 hw hl
    have ht : ¬ t.1 = 0 := by rcases hw with w | w <;> (rw [(t_wd_iff.1 w).1]; decide)
    unfold vX5_readRule_32
    refine ⟨fun c _ => ?_, fun c _ => ?_⟩
    · have nq : ¬ q = 12 := fun e => c (ki_eq.2 (by rw [hi, z12]; omega))
      intro a5 e5 _
      obtain rfl := cX_tk C h.1 e5
      refine vc_adv1 C h ht (fun u1 g1 => ?_)
      intro _
      refine vc_expr C 8 10 0 (by decide) (Nat.le_refl _) (k + 1) L (p_adv f n t) u1 _ g1 (fun u2 g2 => ?_)
      intro _
      refine vc_pass C ⟨by decide, by decide, by decide⟩ g2 (fun u3 g3 => ?_)
      have er : p_rule f n q t = p_bind (p_expr f n 8 (p_adv f n t)) (p_sg f n 59) := (if_pos hw).trans (if_neg nq)
      rw [er] at kk
      refine ⟨fun x => ?_, fun x => ?_⟩
      · have w : t_wd f t 7 = true := by rcases hl with y | y; exact y.2; exact absurd x y.1
        rw [if_pos w] at kk
        unfold vX5_readRule_74
        intro _
        exact vc_put C g3 kk
      · have w : t_wd f t 7 = false := by rcases hl with y | y; exact absurd y.1 x; exact y.2
        rw [if_neg (b_no w)] at kk
        unfold vX5_readRule_74
        intro _
        exact vc_put C g3 kk
    · have nq : q = 12 := by
        have := congrArg Int32.toInt c
        rw [hi, z12] at this
        omega
      have er : p_rule f n q t = .inl t.2.1 := (if_pos hw).trans (if_pos nq)
      rw [er] at kk
      exact vc_fail C h (by decide) (fun u' h' => kk u' h')
  unfold vX5_readRule
  intro _ a17 e17 _
  obtain rfl := cX_tk C h.1 e17
  refine vc_isWord C h (fun w => ⟨fun _ => go 1 (.inl w) (.inr ⟨by decide, t_wd78 w⟩), fun x => absurd x (by decide)⟩) (fun w => ⟨fun x => absurd rfl x, fun _ => ?_⟩)
  intro _ a24 e24 _
  obtain rfl := cX_tk C h.1 e24
  refine vc_isWord C h (fun w2 => ⟨fun _ => go 0 (.inr w2) (.inl ⟨rfl, w2⟩), fun x => absurd x (by decide)⟩) (fun w2 => ⟨fun x => absurd rfl x, fun _ _ => ?_⟩)
  have er : p_rule f n q t = .inl t.2.1 := if_neg (fun x => x.elim (b_no w) (b_no w2))
  rw [er] at kk
  exact vc_fail C h (by decide) (fun u' h' => kk u' h')
def cz_ (n rd tk ca : Nat) (σ : kx_S) (RS : List (Bool × List Int32)) (r : pt_T) (u : kx_S) : Prop := match r with
  | .inl p => cF_ n rd tk ca σ p u
  | .inr rs => cX_ n rd tk ca σ u ∧ xi u 115 rd = 0 ∧ cC_ rd ca (p_flat (RS ++ rs)) u
theorem vc_text25 {Q : kx_S → Prop} (C : c0_ f n rd tk ca tp tb σ) : ∀ (j m : Nat) (i : Int32) (q : Nat) (RS : List (Bool × List Int32)) (t : tk_T) (u : kx_S), i.toInt = (q : Int) → m + q = 13 → cq_ f n rd tk ca σ 0 (p_flat RS) t u → (∀ u', cz_ n rd tk ca σ RS (p_text f n m q t) u' → Q u') → vX5_readText_25 Q j rd i u := by
  have z12 : (12 : Int32).toInt = 12 := by decide
  intro j
  induction j with
  | zero => intro _ _ _ _ _ _ _ _ _ _; exact trivial
  | succ j ih =>
    intro m i q RS t u hi hm h kk
    unfold vX5_readText_25
    have stop : (p_text f n m q t = .inr []) → Q u := by
      intro e
      rw [e] at kk
      refine kk u ⟨h.1, h.2.1, ?_⟩
      rw [List.append_nil]
      exact h.2.2.2.2.1
    refine ⟨fun c => ?_, fun c _ => ?_⟩
    · rw [ki_lt, z12, hi] at c
      have : m = 0 := by omega
      subst this
      exact stop rfl
    · rw [ki_lt, z12, hi] at c
      obtain ⟨m, rfl⟩ : ∃ x, m = x + 1 := ⟨m - 1, by omega⟩
      intro a3 e3 _
      obtain rfl := cX_tk C h.1 e3
      rw [h.2.2.1.2.2]
      refine ⟨fun d => stop (if_pos ((t_kcE (by decide) (by decide)).1 d)), fun d => ⟨fun e => absurd h.2.1 e, fun _ => ?_⟩⟩
      have d1 : ¬ t.1 = 0 := fun x => d ((t_kcE (by decide) (by decide)).2 x)
      refine vc_rule C hi h (fun u1 g1 => ?_)
      intro v9 e9
      have hv9 : v9.toInt = ((q + 1 : Nat) : Int) := by
        rw [e9, ki_add (by rw [hi, ki_z1]; omega) (by rw [hi, ki_z1]; omega), hi, ki_z1]
        omega
      cases er : p_rule f n q t with
      | inl p =>
        rw [er] at g1
        have e2 : p_text f n (m + 1) q t = .inl p := by
          show (if t.1 = 0 then (.inr [] : pt_T) else _) = _
          rw [if_neg d1, er]
        rw [e2] at kk
        have fin := kk u1 g1
        cases j with
        | zero => exact trivial
        | succ j =>
          unfold vX5_readText_25
          exact ⟨fun _ => fin, fun _ _ a b _ => ⟨fun _ => fin, fun _ => ⟨fun _ => fin, fun x => absurd x g1.2.1⟩⟩⟩
      | inr w =>
        obtain ⟨t2, cs⟩ := w
        rw [er] at g1
        have g1 : cq_ f n rd tk ca σ 0 (p_flat RS ++ (cs ++ [if t_wd f t 7 = true then -18 else -17])) t2 u1 := g1
        have ef : p_flat (RS ++ [(t_wd f t 7, cs)]) = p_flat RS ++ (cs ++ [if t_wd f t 7 = true then -18 else -17]) := by
          unfold p_flat
          rw [List.flatMap_append, List.flatMap_cons, List.flatMap_nil, List.append_nil]
        rw [← ef] at g1
        refine ih m v9 (q + 1) (RS ++ [(t_wd f t 7, cs)]) t2 u1 hv9 (by omega) g1 (fun u' h' => kk u' ?_)
        have e2 : p_text f n (m + 1) q t = match p_text f n m (q + 1) t2 with
            | .inl p => .inl p
            | .inr rs => .inr ((t_wd f t 7, cs) :: rs) := by
          show (if t.1 = 0 then (.inr [] : pt_T) else _) = _
          rw [if_neg d1, er]
          rfl
        rw [e2]
        revert h'
        cases p_text f n m (q + 1) t2 with
        | inl p => intro h'; exact h'
        | inr rs =>
          intro h'
          obtain ⟨a, b, c⟩ := h'
          refine ⟨a, b, ?_⟩
          rw [List.append_assoc] at c
          exact c
theorem vc_text {nn : Int32} {Q : kx_S → Prop} (C : c0_ f n rd tk ca tp tb σ) (hn : nn.toInt = (n : Int)) (kk : ∀ u', cz_ n rd tk ca σ [] (p_text f n 13 0 (t_tok f n 0)) u' → Q u') : vX5_readText rd nn σ Q := by
  unfold vX5_readText
  rintro _ σ11 rfl σ13 rfl σ15 rfl a17 e17 _
  have e17 : xr σ 112 rd = some a17 := e17
  obtain rfl : tk = a17 := Option.some.inj (C.1.symm.trans e17)
  unfold vX10_openText
  rintro _ σ2 rfl σ4 rfl
  have r1 : rf_ rd tk ca σ (xsi (xsi (xsi (xsi (xsi σ 114 rd 0) 115 rd 0) 116 rd (-1)) 193 tk nn) 194 tk 0) := rf_si (rf_si (rf_si (rf_si (rf_si rf_refl (.inr ⟨rfl, .inl rfl⟩)) (.inr ⟨rfl, .inr (.inl rfl)⟩)) (.inr ⟨rfl, .inr (.inr rfl)⟩)) (.inl ⟨rfl, .inl rfl⟩)) (.inl ⟨rfl, .inr (.inl rfl)⟩)
  have x193 : xi (xsi (xsi (xsi (xsi (xsi σ 114 rd 0) 115 rd 0) 116 rd (-1)) 193 tk nn) 194 tk 0) 193 tk = nn := va_up_self _ _ _
  have x194 : xi (xsi (xsi (xsi (xsi (xsi σ 114 rd 0) 115 rd 0) 116 rd (-1)) 193 tk nn) 194 tk 0) 194 tk = 0 := va_up_self _ _ _
  have x115 : xi (xsi (xsi (xsi (xsi (xsi σ 114 rd 0) 115 rd 0) 116 rd (-1)) 193 tk nn) 194 tk 0) 115 rd = 0 := va_up_self _ _ _
  have x114 : xi (xsi (xsi (xsi (xsi (xsi σ 114 rd 0) 115 rd 0) 116 rd (-1)) 193 tk nn) 194 tk 0) 114 rd = 0 := va_up_self _ _ _
  have hX : cX_ n rd tk ca σ (xsi (xsi (xsi (xsi (xsi σ 114 rd 0) 115 rd 0) 116 rd (-1)) 193 tk nn) 194 tk 0) := ⟨r1, by rw [x193]; exact hn⟩
  generalize xsi (xsi (xsi (xsi (xsi σ 114 rd 0) 115 rd 0) 116 rd (-1)) 193 tk nn) 194 tk 0 = u at *
  refine vy_advance (p := 0) (cX_ct C hX) (by rw [x194]; decide) (Nat.zero_le n) (fun u' c _ T' => ?_)
  intro j
  refine vc_text25 C j 13 0 0 [] (t_tok f n 0) u' (by decide) rfl ⟨⟨rf_ck hX.1 c, ?_⟩, ?_, T', ⟨0, Nat.zero_le n, rfl⟩, ⟨?_, fun i hi => absurd hi (Nat.not_lt_zero i)⟩, Nat.zero_le _⟩ kk
  · rw [c.1 193 tk (by rintro ⟨_, h | h | h⟩ <;> exact absurd h (by decide))]
    exact hX.2
  · rw [c.1 115 rd (by rintro ⟨_, h | h | h⟩ <;> exact absurd h (by decide))]
    exact x115
  · rw [c.1 114 rd (by rintro ⟨_, h | h | h⟩ <;> exact absurd h (by decide)), x114]
    rfl
end

