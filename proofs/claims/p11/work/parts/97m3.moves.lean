/-! the class's moves -/
theorem a_jump_ge (a : ra_T) (r : Nat) : ∀ (s c : Nat), c ≤ (a_jump a r s c).1 ∧ ((a_jump a r s c).1 ≠ c → (a_jump a r s c).1 < ln_ a r ∧ a_open a r (a_jump a r s c).1 = true) := by
  intro s
  induction s with
  | zero => intro c; exact ⟨Nat.le_refl c, fun h => absurd rfl h⟩
  | succ s ih =>
    intro c
    unfold a_jump
    split
    · next h =>
      obtain ⟨i1, i2⟩ := ih (c + 1)
      refine ⟨by omega, fun _ => ?_⟩
      by_cases e : (a_jump a r s (c + 1)).1 = c + 1
      · rw [e]; exact h
      · exact i2 e
    · exact ⟨Nat.le_refl c, fun h => absurd rfl h⟩
theorem vk_cell {nr : Nat} {a : ra_T} {r c : Nat} (hr : r < nr) (hc : c < ln_ a r) : vk_ nr a (12 * r + c) := .inl ⟨r, c, hr, hc, rfl⟩
section
variable {T : Nat → Nat → Nat} {N : Nat → Nat} {W : List Nat} {g κ : Nat → Nat} {st na nr nl : Nat} {a : ra_T}
theorem q4_hf {σ τ : kx_S} (h : q4_ T (g 2) nl a σ) (F : hf_ W g κ st na σ τ) (t2 : xt σ (g 2) = 1) (hW : ∀ f ∈ W, f ∉ [128, 129, 130, 131, 132, 133, 134, 135, 136]) : q4_ T (g 2) nl a τ := by
  obtain ⟨h1, h2⟩ := h
  obtain ⟨f1, f2⟩ := F.2.2.1 (g 2) t2 (.inr rfl)
  refine ⟨by rw [f1]; exact h1, fun j hj => ?_⟩
  obtain ⟨⟨a1, a2⟩, a3, ⟨a4, a5, a6⟩, a7, a8, a9, a10, a11⟩ := h2 j hj
  have tL : xt σ (T 8 j) ≠ 0 := by rw [a2]; decide
  have xk : ∀ {f : Nat}, f ∈ [128, 129, 130, 131, 132, 133, 134, 135, 136] → xi τ f (T 8 j) = xi σ f (T 8 j) := fun {f} hf => F.2.1 f _ (fun q => hW f q hf) (by intro e; rw [e] at hf; exact absurd hf (by decide)) (by intro e; rw [e] at hf; exact absurd hf (by decide)) tL
  exact ⟨⟨by rw [f2 j (by omega)]; exact a1, fg_tag F.1 a2 (by decide)⟩, by rw [xk (by decide)]; exact a3, ⟨by rw [xk (by decide)]; exact a4, by rw [xk (by decide)]; exact a5, by rw [xk (by decide)]; exact a6⟩, by rw [xk (by decide)]; exact a7, by rw [xk (by decide)]; exact a8, by rw [xk (by decide)]; exact a9, by rw [xk (by decide)]; exact a10, by rw [xk (by decide)]; exact a11⟩
theorem q4_132 {σ : kx_S} {i : Nat} {v : Int32} (h : q4_ T (g 2) nl a σ) (hN : ∀ j, j < nl → N (T 8 j) = j) (hi : i < nl) : q4_ T (g 2) nl (fs_ a 38 i v) (xsi σ 132 (T 8 i) v) := by
  refine ⟨h.1, fun j hj => ?_⟩
  obtain ⟨⟨a1, a2⟩, a3, ⟨a4, a5, a6⟩, a7, a8, a9, a10, a11⟩ := h.2 j hj
  refine ⟨⟨a1, a2⟩, a3, ⟨a4, a5, a6⟩, ?_, a8, a9, a10, a11⟩
  show va_up (xi σ 132) (T 8 i) v (T 8 j) = upd (a.1 38) i v j
  by_cases c : j = i
  · rw [c, va_up_self, w_updS]
  · rw [va_up_ne _ _ (fun e => c (by rw [← hN j hj, e, hN i hi])), w_updN c]
    exact a7
theorem q4_133 {σ : kx_S} {i : Nat} {v : Int32} (h : q4_ T (g 2) nl a σ) (hN : ∀ j, j < nl → N (T 8 j) = j) (hi : i < nl) : q4_ T (g 2) nl (fs_ a 39 i v) (xsi σ 133 (T 8 i) v) := by
  refine ⟨h.1, fun j hj => ?_⟩
  obtain ⟨⟨a1, a2⟩, a3, ⟨a4, a5, a6⟩, a7, a8, a9, a10, a11⟩ := h.2 j hj
  refine ⟨⟨a1, a2⟩, a3, ⟨a4, a5, a6⟩, a7, ?_, a9, a10, a11⟩
  show va_up (xi σ 133) (T 8 i) v (T 8 j) = upd (a.1 39) i v j
  by_cases c : j = i
  · rw [c, va_up_self, w_updS]
  · rw [va_up_ne _ _ (fun e => c (by rw [← hN j hj, e, hN i hi])), w_updN c]
    exact a8
theorem q4_134 {σ : kx_S} {i : Nat} {v : Int32} (h : q4_ T (g 2) nl a σ) (hN : ∀ j, j < nl → N (T 8 j) = j) (hi : i < nl) : q4_ T (g 2) nl (fs_ a 40 i v) (xsi σ 134 (T 8 i) v) := by
  refine ⟨h.1, fun j hj => ?_⟩
  obtain ⟨⟨a1, a2⟩, a3, ⟨a4, a5, a6⟩, a7, a8, a9, a10, a11⟩ := h.2 j hj
  refine ⟨⟨a1, a2⟩, a3, ⟨a4, a5, a6⟩, a7, a8, ?_, a10, a11⟩
  show va_up (xi σ 134) (T 8 i) v (T 8 j) = upd (a.1 40) i v j
  by_cases c : j = i
  · rw [c, va_up_self, w_updS]
  · rw [va_up_ne _ _ (fun e => c (by rw [← hN j hj, e, hN i hi])), w_updN c]
    exact a9
theorem q4_135 {σ : kx_S} {i : Nat} {v : Int32} (h : q4_ T (g 2) nl a σ) (hN : ∀ j, j < nl → N (T 8 j) = j) (hi : i < nl) : q4_ T (g 2) nl (fs_ a 41 i v) (xsi σ 135 (T 8 i) v) := by
  refine ⟨h.1, fun j hj => ?_⟩
  obtain ⟨⟨a1, a2⟩, a3, ⟨a4, a5, a6⟩, a7, a8, a9, a10, a11⟩ := h.2 j hj
  refine ⟨⟨a1, a2⟩, a3, ⟨a4, a5, a6⟩, a7, a8, a9, ?_, a11⟩
  show va_up (xi σ 135) (T 8 i) v (T 8 j) = upd (a.1 41) i v j
  by_cases c : j = i
  · rw [c, va_up_self, w_updS]
  · rw [va_up_ne _ _ (fun e => c (by rw [← hN j hj, e, hN i hi])), w_updN c]
    exact a10
theorem q4_136 {σ : kx_S} {i : Nat} {v : Int32} (h : q4_ T (g 2) nl a σ) (hN : ∀ j, j < nl → N (T 8 j) = j) (hi : i < nl) : q4_ T (g 2) nl (fs_ a 42 i v) (xsi σ 136 (T 8 i) v) := by
  refine ⟨h.1, fun j hj => ?_⟩
  obtain ⟨⟨a1, a2⟩, a3, ⟨a4, a5, a6⟩, a7, a8, a9, a10, a11⟩ := h.2 j hj
  refine ⟨⟨a1, a2⟩, a3, ⟨a4, a5, a6⟩, a7, a8, a9, a10, ?_⟩
  show va_up (xi σ 136) (T 8 i) v (T 8 j) = upd (a.1 42) i v j
  by_cases c : j = i
  · rw [c, va_up_self, w_updS]
  · rw [va_up_ne _ _ (fun e => c (by rw [← hN j hj, e, hN i hi])), w_updN c]
    exact a11
theorem q3_add {σ τ : kx_S} {k x : Nat} (h : q3_ T nr a σ) (hk : vk_ nr a k) (hN : ∀ k, vk_ nr a k → N (T 1 k) = k) (h4 : (a.2 k).length ≤ 400) (A : ya_ (T 1 k) (T 8 x) σ τ) : q3_ T nr (ks_ a k (a.2 k ++ [x])) τ := by
  obtain ⟨a1, a2, a3, a4, a5, a6, a7, a8⟩ := A
  intro k' hk'
  have hk' : vk_ nr a k' := hk'
  obtain ⟨b1, b2, b3⟩ := h k' hk'
  refine ⟨fg_tag a1 b1 (by decide), ?_, fun i y hy => ?_⟩
  · by_cases e : k' = k
    · subst e
      rw [ks_s, a4, va_up_self, ki_add (by rw [b2, ki_z1]; omega) (by rw [b2, ki_z1]; omega), b2, ki_z1, List.length_append]
      rfl
    · rw [ks_n e, a4, va_up_ne _ _ (fun q => e (by rw [← hN k' hk', q, hN k hk]))]
      exact b2
  · by_cases e : k' = k
    · subst e
      rw [ks_s] at hy
      by_cases c : i < (a.2 k').length
      · rw [List.getElem?_append_left c] at hy
        rw [a6 _ b1 i (by omega)]
        exact b3 i y hy
      · have hlt : i < (a.2 k').length + 1 := by
          have := (List.getElem?_eq_some_iff.1 hy).1
          rw [List.length_append] at this
          exact this
        have ei : i = (a.2 k').length := by omega
        subst ei
        rw [List.getElem?_append_right (Nat.le_refl _), Nat.sub_self] at hy
        have : x = y := Option.some.inj hy
        rw [← this]
        have e2 : (xi σ 18 (T 1 k')).toNatClampNeg = (a.2 k').length := by rw [ki_nat, b2]; omega
        rw [← e2]
        exact a7
    · rw [ks_n e] at hy
      have hlt := (List.getElem?_eq_some_iff.1 hy).1
      rw [a6 _ b1 i (by omega)]
      exact b3 i y hy
theorem q3_rem {σ τ : kx_S} {k x : Nat} {P R : List Nat} (h : q3_ T nr a σ) (hk : vk_ nr a k) (hN : ∀ k, vk_ nr a k → N (T 1 k) = k) (h4 : (a.2 k).length ≤ 400) (hL : a.2 k = P ++ x :: R) (A : yr_ (T 1 k) σ τ) (A1 : ∀ j, j < P.length → xe τ (T 1 k) j = xe σ (T 1 k) j) (A2 : ∀ j, P.length ≤ j → j + 1 < (a.2 k).length → xe τ (T 1 k) j = xe σ (T 1 k) (j + 1)) : q3_ T nr (ks_ a k (P ++ R)) τ := by
  obtain ⟨a1, a2, a3, a4, a5, a6, a7⟩ := A
  have hl : (a.2 k).length = P.length + R.length + 1 := by rw [hL, List.length_append, List.length_cons]; omega
  intro k' hk'
  have hk' : vk_ nr a k' := hk'
  obtain ⟨b1, b2, b3⟩ := h k' hk'
  refine ⟨by rw [a2]; exact b1, ?_, fun i y hy => ?_⟩
  · by_cases e : k' = k
    · subst e
      rw [ks_s, a4, va_up_self, ki_sub (by rw [b2, ki_z1]; omega) (by rw [b2, ki_z1]; omega), b2, ki_z1, List.length_append]
      omega
    · rw [ks_n e, a4, va_up_ne _ _ (fun q => e (by rw [← hN k' hk', q, hN k hk]))]
      exact b2
  · by_cases e : k' = k
    · subst e
      rw [ks_s] at hy
      have hlt := (List.getElem?_eq_some_iff.1 hy).1
      rw [List.length_append] at hlt
      by_cases c : i < P.length
      · rw [A1 i c]
        refine b3 i y ?_
        rw [hL, List.getElem?_append_left c]
        rw [List.getElem?_append_left c] at hy
        exact hy
      · rw [A2 i (by omega) (by omega)]
        refine b3 (i + 1) y ?_
        rw [List.getElem?_append_right (by omega)] at hy
        rw [hL, List.getElem?_append_right (by omega), show i + 1 - P.length = (i - P.length) + 1 by omega, List.getElem?_cons_succ]
        exact hy
    · rw [ks_n e] at hy
      have hlt := (List.getElem?_eq_some_iff.1 hy).1
      rw [a6 _ b1 (fun q => e (by rw [← hN k' hk', q, hN k hk])) (by omega) i]
      exact b3 i y hy
theorem vq_canTake {σ : kx_S} {r c : Nat} {ci : Int32} {Q : Int32 → kx_S → Prop} (h1 : q1_ T (g 1) nr a σ) (h2 : q2_ T nr a σ) (h3 : q3_ T nr a σ) (hr : r < nr) (hc : ci.toInt = (c : Int)) (k1 : c < ln_ a r → a_open a r c = true → Q 1 σ) (k0 : ¬ (c < ln_ a r ∧ a_open a r c = true) → Q 0 σ) : vX8_canTake (T 10 r) ci σ Q := by
  obtain ⟨_, _, _, _, _, b1, b2, b3, b4⟩ := h1.2 r hr
  unfold vX8_canTake
  refine ⟨fun x => ?_, fun _ _ a3 e3 _ => ?_⟩
  · rw [ki_lt, ki_z0, hc] at x
    omega
  obtain rfl := Option.some.inj (b1.symm.trans e3)
  unfold vJx4a65c_size_8abf5
  intro _
  rw [ki_lt, hc, b3]
  refine ⟨fun d => ?_, fun d => k0 (fun q => d (by have := q.1; omega))⟩
  have hlt : c < ln_ a r := by omega
  intro _ a10 e10 _
  obtain rfl := Option.some.inj (b1.symm.trans e10)
  refine vy_get (fun _ _ => ?_)
  have ec : ci.toNatClampNeg = c := by rw [ki_nat, hc]; omega
  obtain ⟨⟨c1, c2⟩, c3, c4, c5, c6⟩ := h2 r hr c hlt
  obtain ⟨d1, d2, d3⟩ := h3 _ (vk_cell hr hlt)
  rw [ec, c1]
  intro a15 e15 _
  obtain rfl := Option.some.inj e15
  rw [c5]
  refine ⟨fun e => k0 (fun q => e (a_openT.1 q.2).2), fun e a19 e19 _ => ?_⟩
  obtain rfl := Option.some.inj (c4.symm.trans e19)
  intro _ _
  rw [c3, ki_le, d2]
  exact ⟨fun q => k0 (fun z => by have := (a_openT.1 z.2).1; omega), fun q => k1 hlt (a_openT.2 ⟨by omega, e⟩)⟩
theorem nI_at {i : Int32} {k : Nat} (h : i.toInt = (k : Int)) (hk : k ≤ 500) : i = nI k := ki_eq.2 (by rw [h, t_nI hk])
theorem vq_takes {s : sz_T} {B n : Nat} {σ : kx_S} {r c x : Nat} {ci : Int32} {Q : Int32 → kx_S → Prop} (J : yJ_ s g κ B n σ) (hB : B ≤ 3000) (hn : n ≤ 200) (h0 : q0_ T N g κ nr nl a) (h1 : q1_ T (g 1) nr a σ) (h2 : q2_ T nr a σ) (h3 : q3_ T nr a σ) (h4 : q4_ T (g 2) nl a σ) (h10 : nr ≤ 10) (hr : r < nr) (hc : ci.toInt = (c : Int)) (hx : x < nl)
    (k1 : c < ln_ a r → a_open a r c = true → ∀ τ, yJ_ s g κ B n τ → hf_ [132, 133, 134] g κ st na σ τ → q3_ T nr (a_take a x r c) τ → q4_ T (g 2) nl (a_take a x r c) τ → Q 1 τ) (k0 : ¬ (c < ln_ a r ∧ a_open a r c = true) → Q 0 σ) : vX8_takes (T 10 r) (T 8 x) ci σ Q := by
  obtain ⟨_, b0, _, _, _, b1, b2, b3, b4⟩ := h1.2 r hr
  have b00 := (h1.2 r hr).1.2
  unfold vX8_takes
  intro _
  refine vq_canTake h1 h2 h3 hr hc (fun hlt ho => ⟨fun _ => ?_, fun q => absurd q (by decide)⟩) (fun q => ⟨fun z => absurd rfl z, fun _ => k0 q⟩)
  intro _ a6 e6 _
  obtain rfl := Option.some.inj (b1.symm.trans e6)
  refine vy_get (fun _ _ => ?_)
  have ec : ci.toNatClampNeg = c := by rw [ki_nat, hc]; omega
  obtain ⟨⟨c1, c2⟩, c3, c4, c5, c6⟩ := h2 r hr c hlt
  obtain ⟨d1, d2, d3⟩ := h3 _ (vk_cell hr hlt)
  obtain ⟨⟨l1, l2⟩, l3, _⟩ := h4.2 x hx
  obtain ⟨t1, t2, t3⟩ := h0.1 _ (vk_cell hr hlt)
  have cry := (J.2.2.2.1 _).2.1 c2
  rw [c3] at cry
  have hop := (a_openT.1 ho).1
  rw [ec, c1]
  intro a11 e11 _
  obtain rfl := Option.some.inj e11
  intro a14 e14 _
  obtain rfl := Option.some.inj (c4.symm.trans e14)
  refine vy_addlog J hB hn d1 t1 t2 l2 (by omega) (fun τ J' A X => ?_)
  have F1 : hf_ [] g κ st na σ τ := hf_add hf_refl A X t1 t2
  have q4' := q4_hf (a := a) h4 F1 (yg2 J).2.1 (fun f hf => absurd hf (List.not_mem_nil))
  have q3' := q3_add (x := x) h3 (vk_cell hr hlt) (fun k hk => (h0.1 k hk).2.2) (by omega) A
  intro _ _
  unfold vX6_floatIn
  rintro _ σ2 rfl σ4 rfl σ6 rfl
  have e160 : xi τ 160 (T 10 r) = nI r := by
    rw [F1.2.1 160 _ (List.not_mem_nil) (by decide) (by decide) (by rw [b00]; decide)]
    exact nI_at b0 (by omega)
  have e160' : xi (xsi τ 132 (T 8 x) 1) 160 (T 10 r) = nI r := e160
  have eci : ci = nI c := nI_at hc (by omega)
  have hN := h0.2.2.2
  refine k1 hlt ho _ (yI_si (by decide) (yI_si (by decide) (yI_si (by decide) J'))) (hf_si (hf_si (hf_si (hf_sub F1 (fun f hf => absurd hf (List.not_mem_nil))) (by decide) (by decide)) (by decide) (by decide)) (by decide) (by decide)) q3' ?_
  have z := q4_134 (v := ci) (q4_133 (v := xi τ 160 (T 10 r)) (q4_132 (v := 1) (a := ks_ a (12 * r + c) (a.2 (12 * r + c) ++ [x])) q4' hN hx) hN hx) hN hx
  rw [e160, eci] at z
  rw [e160, eci]
  exact z
end
/-! laws -/
def q7_ (T : Nat → Nat → Nat) (g3 m : Nat) (day : Nat → Int32) (RL : Nat → List (Bool × List Int32)) (st na : Nat) (σ : kx_S) : Prop := (xi σ 18 g3).toInt = (m : Int) ∧ m ≤ 6 ∧ ∀ i, i < m → (xe σ g3 i = some (T 6 i) ∧ xt σ (T 6 i) = 6) ∧ xi σ 96 (T 6 i) = day i ∧ (lc_ (T 6 i) (T 20 i) (p_flat (RL i)) σ ∧ xt σ (T 20 i) = 20) ∧ T 20 i ≠ st ∧ T 20 i ≠ na ∧ ∀ x ∈ RL i, ed_ 33 x.2 0 1
def qj_ (J st na : Nat) (σ : kx_S) : Prop := j0_ J st na σ ∧ xt σ J = 5 ∧ xt σ st = 20 ∧ xt σ na = 20
section
variable {T : Nat → Nat → Nat} {N : Nat → Nat} {W : List Nat} {g κ : Nat → Nat} {st na nr nl m : Nat} {a : ra_T} {day : Nat → Int32} {RL : Nat → List (Bool × List Int32)}
theorem qj_hf {σ τ : kx_S} (h : qj_ (g 8) st na σ) (F : hf_ W g κ st na σ τ) : qj_ (g 8) st na τ := by
  obtain ⟨⟨a1, a2, a3, a4, a5⟩, b1, b2, b3⟩ := h
  refine ⟨⟨?_, ?_, ?_, ?_, a5⟩, fg_tag F.1 b1 (by decide), fg_tag F.1 b2 (by decide), fg_tag F.1 b3 (by decide)⟩
  · rw [F.1.2.1 80 _ (by decide) (by rw [b1]; decide)]; exact a1
  · rw [F.1.2.1 81 _ (by decide) (by rw [b1]; decide)]; exact a2
  · rw [F.1.2.2.1 _ (by rw [b2]; decide)]; exact a3
  · rw [F.1.2.2.1 _ (by rw [b3]; decide)]; exact a4
theorem q7_hf {σ τ : kx_S} (h : q7_ T (g 3) m day RL st na σ) (F : hf_ W g κ st na σ τ) (t3 : xt σ (g 3) = 1) (k3 : κ (g 3) = 6) (hW : 96 ∉ W) : q7_ T (g 3) m day RL st na τ := by
  obtain ⟨h1, h2, h3⟩ := h
  obtain ⟨f1, f2⟩ := F.2.2.1 (g 3) t3 (.inl (by rw [k3]; decide))
  refine ⟨by rw [f1]; exact h1, h2, fun i hi => ?_⟩
  obtain ⟨⟨a1, a2⟩, a3, ⟨⟨b1, b2, b3, b4⟩, b5⟩, a4, a5, a6⟩ := h3 i hi
  have t6 : xt σ (T 6 i) ≠ 0 := by rw [a2]; decide
  have t20 : xt σ (T 20 i) ≠ 0 := by rw [b5]; decide
  refine ⟨⟨by rw [f2 i (by omega)]; exact a1, fg_tag F.1 a2 (by decide)⟩, by rw [F.2.1 96 _ hW (by decide) (by decide) t6]; exact a3, ⟨⟨by rw [F.1.2.1 97 _ (by decide) t6]; exact b1, by rw [F.1.2.2.1 _ t20]; exact b2, b3, fun j hj => ?_⟩, fg_tag F.1 b5 (by decide)⟩, a4, a5, a6⟩
  rw [F.2.2.2.1 _ t20 a4 a5]
  exact b4 j hj
/-- judging, where only what it leaves is asked -/
theorem vq_weigh {s : sz_T} {B n : Nat} {σ : kx_S} {x : Nat} {ri hi : Int32} {Q : kx_S → Prop} (J : yJ_ s g κ B n σ) (hj : qj_ (g 8) st na σ) (h7 : q7_ T (g 3) m day RL st na σ) (hx : xt σ x = 8) (kk : ∀ τ, yJ_ s g κ B n τ → jr_ (g 8) st na σ τ → xi τ 83 (g 8) = (if e_barO (e_nm x ri hi σ) ((lf_ day (xi σ 217 (g 0) / 24) m 0 none).map RL) = true then 1 else 0) → Q τ) : vX11_lawInForce (g 0) σ (fun q σ' => vX3_weigh (g 8) q x ri hi σ' Q) := by
  refine vj_force (lw := T 6) (day := day) (yg3 J).1 h7.1 h7.2.1 rfl (fun i hi => ⟨(h7.2.2 i hi).1.1, (h7.2.2 i hi).2.1⟩) ?_
  have hlt : ∀ q, lf_ day (xi σ 217 (g 0) / 24) m 0 none = some q → q < m := lf_lt m 0 none (by omega) (fun q e => absurd e (by simp))
  generalize lf_ day (xi σ 217 (g 0) / 24) m 0 none = l at *
  have tags : ∀ b, l.map (T 6) = some b → xt σ b = 6 := by
    intro b e
    cases l with
    | none => exact absurd e (by simp)
    | some q =>
      have e : some (T 6 q) = some b := e
      rw [← Option.some.inj e]
      exact (h7.2.2 q (hlt q rfl)).1.2
  have w1 : wX3_weigh (g 8) (l.map (T 6)) x ri hi σ (fun τ => yJ_ s g κ B n τ) := rx_weigh (yW_refl J) hj.2.1 hx tags (fun τ K _ => K.1)
  have v1 : vX3_weigh (g 8) (l.map (T 6)) x ri hi σ (fun τ => jr_ (g 8) st na σ τ ∧ xi τ 83 (g 8) = (if e_barO (e_nm x ri hi σ) (l.map RL) = true then 1 else 0)) := by
    refine vj_weigh hj.1 (fun e => by rw [e, hj.2.1] at hx; exact absurd hx (by decide)) (fun e => ?_) (fun b e => ?_) (fun u k1 k2 => ⟨k1, k2⟩)
    · cases l with
      | none => rfl
      | some q => exact absurd e (by simp)
    · cases l with
      | none => exact absurd e (by simp)
      | some q =>
        have e : some (T 6 q) = some b := e
        obtain ⟨_, _, ⟨b1, _⟩, a4, a5, a6⟩ := h7.2.2 q (hlt q rfl)
        rw [← Option.some.inj e]
        exact ⟨T 20 q, RL q, rfl, b1, a4, a5, a6⟩
  exact jaX3_weigh (fun τ h => kk τ h.1 h.2.1 h.2.2) _ _ _ _ _ _ (jcX3_weigh (Q'' := fun τ => yJ_ s g κ B n τ ∧ jr_ (g 8) st na σ τ ∧ xi τ 83 (g 8) = (if e_barO (e_nm x ri hi σ) (l.map RL) = true then 1 else 0)) (fun _ a b => ⟨a, b⟩) _ _ _ _ _ _ w1 v1)
end

