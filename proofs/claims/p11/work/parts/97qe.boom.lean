/-! the class: booms -/
theorem hx_0 {X : Nat → Prop} {W : List Nat} {σ τ : kx_S} {q : Nat} (F : hx_ X W σ τ) (h : xt τ q = 0) : xt σ q = 0 := Decidable.byContradiction (fun c => c (by rw [← F.1.1 q c]; exact h))
/-- a list that is made -/
theorem vq_newL {X : Nat → Prop} {W : List Nat} {σ τ : kx_S} {p : Nat} {Q : kx_S → Prop} (F : hx_ X W σ τ) (hp : xt τ p = 0) (kk : ∀ u, u = xsr (xsi (xnew τ p 1) 16 p 0) 17 p (some (xz τ)) → hx_ X W σ u → xt u p = 1 → xi u 18 p = 0 → (∀ x, x ≠ p → xt u x = xt τ x) → (∀ f x, x ≠ p → xi u f x = xi τ f x) → (∀ f x, x ≠ p → xr u f x = xr τ f x) → (∀ l i, l ≠ p → xe u l i = xe τ l i) → Q u) : ∀ σ5, σ5 = xnew τ p 1 → vJx4a65c_init_da8c8 p σ5 Q := by
  intro σ5 e5
  subst e5
  unfold vJx4a65c_init_da8c8 vJxc12de_init_da8c8 vJxa1e45_init_da8c8
  intro _ τ3 e3 _ u e
  have e' : u = xsr (xsi (xnew τ p 1) 16 p 0) 17 p (some (xz τ)) := by rw [e, e3]; rfl
  clear e e3
  have h0 := hx_0 F hp
  have kr : ∀ f x, x ≠ p → xr u f x = xr τ f x := fun f x hx => by
    rw [e']
    show (if f = 17 then va_up (va_up (xr τ 17) p none) p (some (xz τ)) else va_up (xr τ f) p none) x = _
    by_cases q : f = 17
    · rw [if_pos q, va_up_ne _ _ hx, va_up_ne _ _ hx, q]
    · rw [if_neg q, va_up_ne _ _ hx]
  refine kk u e' ?_ ?_ ?_ (fun x hx => ?_) (fun f x hx => ?_) kr (fun l i hl => ?_)
  · rw [e']
    exact hx_srP (hx_siP (hx_new F hp) h0) h0
  · rw [e']
    exact va_up_self _ _ _
  · rw [e']
    exact va_up_self _ _ _
  · rw [e']
    exact va_up_ne _ _ hx
  · rw [e']
    show (if f = 16 then va_up (va_up (xi τ 16) p 0) p 0 else va_up (xi τ f) p 0) x = _
    by_cases q : f = 16
    · rw [if_pos q, va_up_ne _ _ hx, va_up_ne _ _ hx, q]
    · rw [if_neg q, va_up_ne _ _ hx]
  · have e17 := kr 17 l hl
    unfold xe
    rw [e17, e']
    rfl
def bm_ (q : Nat) (x v : Int32) (a b : ra_T) : Prop := b.2 = a.2 ∧ (∀ f, f ∉ [22, 27, 28] → b.1 f = a.1 f) ∧ (∀ r, b.1 22 r = 0 ↔ a.1 22 r = 0) ∧ b.1 27 q = x ∧ b.1 28 q = v ∧ ∀ r, r ≠ q → b.1 27 r = a.1 27 r ∧ b.1 28 r = a.1 28 r
theorem bm_vk {nr q k : Nat} {x v : Int32} {a b : ra_T} (M : bm_ q x v a b) (h : vk_ nr b k) : vk_ nr a k := by
  have el : ∀ r, ln_ b r = ln_ a r := fun r => by unfold ln_; rw [M.2.1 14 (by decide)]
  rcases h with ⟨r, c, h1, h2, h3⟩ | ⟨r, h1, h2, h3⟩
  · exact .inl ⟨r, c, h1, by rw [← el]; exact h2, h3⟩
  · exact .inr ⟨r, h1, fun y => h2 ((M.2.2.1 r).2 y), h3⟩
section
variable {T : Nat → Nat → Nat} {N : Nat → Nat} {g κ : Nat → Nat} {st na nr nl nc no m : Nat} {day : Nat → Int32} {RL : Nat → List (Bool × List Int32)} {s : sz_T} {B n : Nat} {a b : ra_T} {σ τ : kx_S}
theorem vq_boom39 {q : Nat} {mk v : Int32} {Q : Int32 → kx_S → Prop} {QX : String → kx_S → Prop} (hq : q < nr) (hz : ¬ a.1 22 q = 0) (n22 : n22_ T N nr a) (h : qE_ T N g st na nr nl m day RL no nc a σ) (M : bm_ q (mk &&& 65535) v a b) (kk : ∀ u, n22_ T N nr b → qE_ T N g st na nr nl m day RL no nc b u → Q 1 u) : vX11_boom_39 Q QX mk v (T 10 q) σ := by
  obtain ⟨h0, h1, h2, h3, h4, h7, hj, h6, hb, h5⟩ := h
  have e := M.2.1
  have el : ∀ r, ln_ b r = ln_ a r := fun r => by unfold ln_; rw [e 14 (by decide)]
  have eo : ∀ r, od_ b r no 0 = od_ a r no 0 := fun r => od_qm (e 47 (by decide)) no 0
  have qq := (h1.2 q hq).2.2.2.2.1
  unfold vX11_boom_39
  intro _ a2 e2 _ σ5 e5 a8 e8 _ σ11 e11
  rw [e5] at e8
  have e8 : xr σ 172 (T 10 q) = some a8 := e8
  rcases qq with z | ⟨_, z2, z3, z4, z5, z6, z7⟩
  · exact absurd z.2 hz
  obtain rfl := Option.some.inj (z2.symm.trans e2)
  obtain rfl := Option.some.inj (z2.symm.trans e8)
  rw [e11, e5]
  clear e11 e5 e8 e2
  have ne : ∀ r, r < nr → r ≠ q → ¬ a.1 22 r = 0 → xr σ 32 (T 2 r) = some (T 1 (120 + r)) → T 2 r ≠ T 2 q := by
    intro r hr hne hr0 h32 x
    rw [x, z4] at h32
    have y := congrArg N (Option.some.inj h32)
    rw [h0.1 (120 + q) (.inr ⟨q, hq, hz, rfl⟩), h0.1 (120 + r) (.inr ⟨r, hr, hr0, rfl⟩)] at y
    omega
  refine kk _ (fun r hr h => n22 r hr (fun y => h ((M.2.2.1 r).2 y))) ⟨⟨fun k hk => h0.1 k (bm_vk M hk), fun r c hr hc => h0.2.1 r c hr (by rw [← el]; exact hc), h0.2.2⟩, ⟨h1.1, fun r hr => ?_⟩, ?_, ?_, ?_, h7, hj, ⟨h6.1, h6.2.1, fun o ho => ?_, fun r hr hb => ?_⟩, by rw [e 6 (by decide)]; exact hb, ?_⟩
  · obtain ⟨a1, a2, ⟨a4, a5, a6, a7, a8⟩, a9, a10, a11, a12, a13, a14⟩ := h1.2 r hr
    refine ⟨a1, a2, ⟨by rw [e 16 (by decide)]; exact a4, by rw [e 21 (by decide)]; exact a5, by rw [e 18 (by decide)]; exact a6, by rw [e 19 (by decide)]; exact a7, by rw [e 23 (by decide)]; exact a8⟩, by rw [e 13 (by decide)]; exact a9, ?_, a11, a12, by rw [el]; exact a13, by rw [el]; exact a14⟩
    rcases a10 with ⟨y1, y2⟩ | ⟨y1, y2, y3, y4, y5, y6, y7⟩
    · exact .inl ⟨y1, (M.2.2.1 r).2 y2⟩
    · refine .inr ⟨fun x => y1 ((M.2.2.1 r).1 x), y2, y3, y4, y5, ?_, ?_⟩
      · by_cases c : r = q
        · rw [c, M.2.2.2.1]
          exact va_up_self _ _ _
        · rw [(M.2.2.2.2.2 r c).1, ← y6]
          exact va_up_ne _ _ (ne r hr c y1 y4)
      · by_cases c : r = q
        · rw [c, M.2.2.2.2.1]
          exact va_up_self _ _ _
        · rw [(M.2.2.2.2.2 r c).2, ← y7]
          exact va_up_ne _ _ (ne r hr c y1 y4)
  · unfold q2_ at h2 ⊢
    simp only [el, e 15 (by decide), e 33 (by decide), e 34 (by decide)]
    exact h2
  · intro k hk
    rw [M.1]
    exact h3 k (bm_vk M hk)
  · unfold q4_ at h4 ⊢
    simp only [e 35 (by decide), e 36 (by decide), e 37 (by decide), e 38 (by decide), e 39 (by decide), e 40 (by decide), e 41 (by decide), e 42 (by decide)]
    exact h4
  · obtain ⟨b1, b3, b4, b5, b6, r, b7, b8, b9⟩ := h6.2.2.1 o ho
    exact ⟨b1, by rw [e 48 (by decide)]; exact b3, by rw [e 49 (by decide)]; exact b4, by rw [e 50 (by decide)]; exact b5, b6, r, b7, by rw [e 47 (by decide)]; exact b8, fun x => b9 ((M.2.2.1 r).1 x)⟩
  · rw [eo]
    exact h6.2.2.2 r hr (fun x => hb ((M.2.2.1 r).2 x))
  · unfold q5_ at h5 ⊢
    simp only [e 44 (by decide), e 45 (by decide), e 46 (by decide)]
    exact h5
/-- a boom that is made: its fields are nought -/
theorem vq_boomNew {q p h u : Nat} {τ6 : kx_S} (h10 : nr ≤ 10) (hq : q < nr) (z22 : a.1 22 q = 0) (z2 : a.2 (120 + q) = []) (n22 : n22_ T N nr a) (J : yJ_ s g κ B n σ) (H : qE_ T N g st na nr nl m day RL no nc a σ) (F : hx_ (fun _ => False) [] σ τ) (hp : xt σ p = 0) (hh : xt σ h = 0) (hu : xt σ u = 0) (hhu : h ≠ u) (tp : xt τ p = 2) (th : xt τ h = 1) (tu : xt τ u = 1) (sh : xi τ 18 h = 0) (su : xi τ 18 u = 0) (i34 : xi τ 34 p = 0) (i35 : xi τ 35 p = 0) (r32 : xr τ 32 p = some h) (r33 : xr τ 33 p = some u) (e6 : τ6 = xsr τ 172 (T 10 q) (some p)) : ∃ T' N', T' 10 = T 10 ∧ T' 20 = T 20 ∧ n22_ T' N' nr (fs_ (fs_ (fs_ a 22 q 1) 27 q 0) 28 q 0) ∧ qE_ T' N' g st na nr nl m day RL no nc (fs_ (fs_ (fs_ a 22 q 1) 27 q 0) 28 q 0) τ6 := by
  obtain ⟨h0, h1, h2, h3, h4, h7, hj, h6, hb, h5⟩ := H
  have nn : ∀ f ∈ ([] : List Nat), ∀ L : List Nat, f ∉ L := fun f hf => absurd hf (List.not_mem_nil)
  have r1 := q1_hx h1 F (yg1 J).2.1 (fun x => x) (fun r hr x => x) (fun f hf => nn f hf _)
  have r2 := q2_hx h2 h1 F (fun f hf => nn f hf _)
  have r3 := q3_hx h3 F (fun k hk x => x)
  have r4 := q4_hx h4 F (yg2 J).2.1 (fun x => x) (fun f hf => nn f hf _)
  have r5 := q5_hx h5 F (yg4 J).2.1 (fun x => x) (List.not_mem_nil)
  have r6 := q6_hx h6 F (yg5 J).2.1 (fun x => x) (fun r hr hb x => x) (fun f hf => nn f hf _)
  have r7 := q7_hx h7 F (yg3 J).2.1 (fun x => x) (List.not_mem_nil)
  have rj := qj_hx hj F
  have rb : xi τ 218 (g 0) = a.1 6 0 := by rw [F.2.1 218 _ (List.not_mem_nil) (by decide) (by decide) (by rw [yg0 J]; decide)]; exact hb
  have N_ : ∀ x, xt σ x ≠ 0 → va_up (va_up N h (120 + q)) u q x = N x := fun x hx => (va_up_ne _ _ (fun e => hx (by rw [e]; exact hu))).trans (va_up_ne _ _ (fun e => hx (by rw [e]; exact hh)))
  have Nh : va_up (va_up N h (120 + q)) u q h = 120 + q := (va_up_ne _ _ hhu).trans (va_up_self _ _ _)
  have Nu : va_up (va_up N h (120 + q)) u q u = q := va_up_self _ _ _
  have e22 : ∀ r, r ≠ q → upd (a.1 22) q 1 r = a.1 22 r := fun r hr => w_updN hr
  have vb : ∀ k, vk_ nr (fs_ (fs_ (fs_ a 22 q 1) 27 q 0) 28 q 0) k → k ≠ 120 + q → vk_ nr a k := by
    intro k hk hne
    rcases hk with z | ⟨r, x1, x2, x3⟩
    · exact .inl z
    · have c : r ≠ q := fun e => hne (by rw [x3, e])
      have x2 : ¬ upd (a.1 22) q 1 r = 0 := x2
      rw [e22 r c] at x2
      exact .inr ⟨r, x1, x2, x3⟩
  have i1 : ∀ k, k ≠ 120 + q → t8_ (t8_ (t8_ T 2 q p) 1 (120 + q) h) 22 q u 1 k = T 1 k := fun k hk => va_up_ne _ _ hk
  have i1s : t8_ (t8_ (t8_ T 2 q p) 1 (120 + q) h) 22 q u 1 (120 + q) = h := va_up_self _ _ _
  have oe : od_ a q no 0 = [] := by
    refine List.eq_nil_iff_forall_not_mem.2 (fun o ho => ?_)
    obtain ⟨_, o2, o3⟩ := (od_lt (a := a) (r := q) no 0).1 o ho
    obtain ⟨_, _, _, _, _, r, c1, c2, c3⟩ := h6.2.2.1 o (by omega)
    have : r = q := by omega
    exact c3 (by rw [this]; exact z22)
  have eo : ∀ r, od_ (fs_ (fs_ (fs_ a 22 q 1) 27 q 0) 28 q 0) r no 0 = od_ a r no 0 := fun r => od_qm (a := a) (b := fs_ (fs_ (fs_ a 22 q 1) 27 q 0) 28 q 0) rfl no 0
  refine ⟨t8_ (t8_ (t8_ T 2 q p) 1 (120 + q) h) 22 q u, va_up (va_up N h (120 + q)) u q, rfl, rfl, ?_, ?_⟩
  · intro r hr hz
    have hz : ¬ upd (a.1 22) q 1 r = 0 := hz
    show va_up (va_up N h (120 + q)) u q (va_up (T 22) q u r) = r
    by_cases c : r = q
    · rw [c, va_up_self (T 22)]
      exact Nu
    · rw [e22 r c] at hz
      rw [va_up_ne (T 22) _ c, N_ _ (by rw [(h6.2.2.2 r hr hz).1]; decide)]
      exact n22 r hr hz
  rw [e6]
  refine ⟨⟨?_, ?_, ?_, ?_⟩, ⟨r1.1, fun r hr => ?_⟩, ?_, ?_, r4, r7, rj, ⟨r6.1, r6.2.1, fun o ho => ?_, fun r hr hz => ?_⟩, rb, ?_⟩
  · intro k hk
    by_cases c : k = 120 + q
    · rw [c, i1s]
      exact Nh
    · have hk' := vb k hk c
      rw [i1 k c, N_ _ (by rw [(h3 k hk').1]; decide)]
      exact h0.1 k hk'
  · intro r c hr hc
    have hc : c < ln_ a r := hc
    show va_up (va_up N h (120 + q)) u q (T 3 (12 * r + c)) = _
    rw [N_ _ (by rw [((h2 r hr c hc).1).2]; decide)]
    exact h0.2.1 r c hr hc
  · intro r hr
    show va_up (va_up N h (120 + q)) u q (T 10 r) = r
    rw [N_ _ (by rw [((h1.2 r hr).1).2]; decide)]
    exact h0.2.2.1 r hr
  · intro j hj'
    show va_up (va_up N h (120 + q)) u q (T 8 j) = j
    rw [N_ _ (by rw [((h4.2 j hj').1).2]; decide)]
    exact h0.2.2.2 j hj'
  · obtain ⟨a1, a2, a3, a9, a10, a11⟩ := r1.2 r hr
    refine ⟨a1, a2, a3, a9, ?_, a11⟩
    show (va_up (xr τ 172) (T 10 q) (some p) (T 10 r) = none ∧ upd (a.1 22) q 1 r = 0) ∨ (¬ upd (a.1 22) q 1 r = 0 ∧ va_up (xr τ 172) (T 10 q) (some p) (T 10 r) = some (va_up (T 2) q p r) ∧ xt τ (va_up (T 2) q p r) = 2 ∧ xr τ 32 (va_up (T 2) q p r) = some (va_up (T 1) (120 + q) h (120 + r)) ∧ xr τ 33 (va_up (T 2) q p r) = some (va_up (T 22) q u r) ∧ xi τ 34 (va_up (T 2) q p r) = upd (a.1 27) q 0 r ∧ xi τ 35 (va_up (T 2) q p r) = upd (a.1 28) q 0 r)
    by_cases c : r = q
    · rw [c, va_up_self (xr τ 172), va_up_self (T 2), va_up_self (T 1), va_up_self (T 22), w_updS, w_updS, w_updS]
      exact .inr ⟨by decide, rfl, tp, r32, r33, i34, i35⟩
    · have nR : T 10 r ≠ T 10 q := fun e => c (by rw [← h0.2.2.1 r hr, e, h0.2.2.1 q hq])
      rw [va_up_ne (xr τ 172) _ nR, va_up_ne (T 2) _ c, va_up_ne (T 1) _ (show 120 + r ≠ 120 + q by omega), va_up_ne (T 22) _ c, w_updN c, w_updN c, w_updN c]
      exact a10
  · intro r hr c hc
    have hc : c < ln_ a r := hc
    obtain ⟨a1, a2, a3, a4⟩ := r2 r hr c hc
    have l12 := (h1.2 r hr).2.2.2.2.2.2.2.2.1
    refine ⟨a1, a2, ?_, a4⟩
    rw [i1 _ (by omega)]
    exact a3
  · intro k hk
    by_cases c : k = 120 + q
    · rw [c, i1s]
      have ea : (fs_ (fs_ (fs_ a 22 q 1) 27 q 0) 28 q 0).2 (120 + q) = [] := z2
      rw [ea]
      refine ⟨th, ?_, fun i x hx => ?_⟩
      · show (xi τ 18 h).toInt = _
        rw [sh]
        rfl
      · rw [List.getElem?_nil] at hx
        cases hx
    · rw [i1 k c]
      exact r3 k (vb k hk c)
  · obtain ⟨b1, b3, b4, b5, b6, r, b7, b8, b9⟩ := r6.2.2.1 o ho
    refine ⟨b1, b3, b4, b5, ?_, r, b7, b8, ?_⟩
    · show va_up (va_up N h (120 + q)) u q (T 9 o) = o
      rw [N_ _ (by rw [((h6.2.2.1 o ho).1).2]; decide)]
      exact b6
    · show ¬ upd (a.1 22) q 1 r = 0
      by_cases c : r = q
      · rw [c, w_updS]
        decide
      · rw [e22 r c]
        exact b9
  · rw [eo]
    have hz : ¬ upd (a.1 22) q 1 r = 0 := hz
    by_cases c : r = q
    · rw [c, oe]
      have i22 : t8_ (t8_ (t8_ T 2 q p) 1 (120 + q) h) 22 q u 22 q = u := va_up_self _ _ _
      rw [i22]
      refine ⟨tu, ?_, fun i x hx => ?_⟩
      · show (xi τ 18 u).toInt = _
        rw [su]
        rfl
      · rw [List.getElem?_nil] at hx
        cases hx
    · have i22 : t8_ (t8_ (t8_ T 2 q p) 1 (120 + q) h) 22 q u 22 r = T 22 r := va_up_ne _ _ c
      rw [i22]
      rw [e22 r c] at hz
      exact r6.2.2.2 r hr hz
  · obtain ⟨o1, o2, o3⟩ := r5
    refine ⟨o1, o2, fun k hk => ?_⟩
    obtain ⟨b1, b3, b4, b5⟩ := o3 k hk
    refine ⟨b1, b3, b4, ?_⟩
    show va_up (va_up N h (120 + q)) u q (T 4 k) = k
    rw [N_ _ (by rw [((h5.2.2 k hk).1).2]; decide)]
    exact b5
theorem vq_boom {r mk v : Int32} (h10 : nr ≤ 10) (hs : s.1.1.toInt = (nr : Int)) (Z : ∀ r, r < 10 → a.1 22 r = 0 → a.2 (120 + r) = []) (n22 : n22_ T N nr a) (J : yJ_ s g κ B n σ) (h : qE_ T N g st na nr nl m day RL no nc a σ) : vX11_boom (g 0) r mk v σ (fun _ u => ∃ T' N', T' 20 = T 20 ∧ n22_ T' N' nr (ab_boom r mk v s a) ∧ qE_ T' N' g st na nr nl m day RL no nc (ab_boom r mk v s a) u) (fun _ u => ∃ T' N', T' 20 = T 20 ∧ n22_ T' N' nr (ab_boom r mk v s a) ∧ qE_ T' N' g st na nr nl m day RL no nc (ab_boom r mk v s a) u) := by
  have H := h
  obtain ⟨h0, h1, h2, h3, h4, h7, hj, h6, hb, h5⟩ := h
  have z100 : (100 : Int32).toInt = 100 := by decide
  have no_ : ¬ (z_is r s ∧ ¬ (v < 1 ∨ ¬ v ≤ 100)) → ab_boom r mk v s a = a := fun c => if_neg c
  unfold vX11_boom
  intro _
  refine vq_reachAt h10 J h1 (fun q hq hlt => ?_) (fun c => ?_)
  · have hz : z_is r s := ⟨by omega, by omega⟩
    refine vy_within (fun d => ⟨fun x => absurd rfl x, fun _ => ?_⟩) (fun c1 c2 => ⟨fun _ _ => ?_, fun x => absurd x (by decide)⟩)
    · rw [no_ (fun x => x.2 (by rw [ki_lt, ki_z1, ki_le, z100]; rw [ki_z1, z100] at d; omega))]
      exact ⟨T, N, rfl, n22, H⟩
    · have ea : ab_boom r mk v s a = fs_ (fs_ (fs_ a 22 q 1) 27 q (mk &&& 65535)) 28 q v := by
        unfold ab_boom
        rw [if_pos ⟨hz, by rw [ki_lt, ki_z1, ki_le, z100]; rw [ki_z1] at c1; rw [z100] at c2; omega⟩, ki_toN hq]
      rw [ea]
      have nf : ∀ (c : ra_T) (x1 x2 x3 : Int32) f, f ∉ [22, 27, 28] → (fs_ (fs_ (fs_ c 22 q x1) 27 q x2) 28 q x3).1 f = c.1 f := fun c x1 x2 x3 f hf => by
        rw [fs_n (fun e => hf (by rw [e]; decide)), fs_n (fun e => hf (by rw [e]; decide)), fs_n (fun e => hf (by rw [e]; decide))]
      refine ⟨fun a23 e23 => ?_, fun en _ p hp _ τ1 e1 => ?_⟩
      · have nz : ¬ a.1 22 q = 0 := by
          rcases (h1.2 q hlt).2.2.2.2.1 with z | z
          · rw [z.1] at e23
            cases e23
          · exact z.1
        refine vq_boom39 (b := fs_ (fs_ (fs_ a 22 q 1) 27 q (mk &&& 65535)) 28 q v) hlt nz n22 H ⟨rfl, nf _ _ _ _, fun x => ?_, w_updS, w_updS, fun x hx => ⟨w_updN hx, w_updN hx⟩⟩ (fun u x y => ⟨T, N, rfl, x, y⟩)
        show upd (a.1 22) q 1 x = 0 ↔ _
        by_cases c : x = q
        · rw [c, w_updS]
          exact ⟨fun y => absurd y (by decide), fun y => absurd y nz⟩
        · rw [w_updN c]
      · have nz : a.1 22 q = 0 := by
          rcases (h1.2 q hlt).2.2.2.2.1 with z | z
          · exact z.2
          · rw [z.2.1] at en
            cases en
        have F1 : hx_ (fun _ => False) [] σ τ1 := by rw [e1]; exact hx_new hx_refl hp
        have tp1 : xt τ1 p = 2 := by rw [e1]; exact va_up_self _ _ _
        have z1 : ∀ f, xi τ1 f p = 0 := fun f => by rw [e1]; exact va_up_self _ _ _
        clear e1
        unfold vX0_init
        intro _ h hh _
        have hp1 : p ≠ h := fun e => by rw [e, hh] at tp1; omega
        refine vq_newL F1 hh (fun τ2 _ F2 th2 sh2 t2 i2 r2' _ _ τ3 e3 _ u hu _ => ?_)
        have F3 : hx_ (fun _ => False) [] σ τ3 := by rw [e3]; exact hx_srP F2 hp
        have th3 : xt τ3 h = 1 := by rw [e3]; exact th2
        have tp3 : xt τ3 p = 2 := by rw [e3]; exact (t2 p hp1).trans tp1
        have sh3 : xi τ3 18 h = 0 := by rw [e3]; exact sh2
        have z3 : ∀ f, xi τ3 f p = 0 := fun f => by rw [e3]; exact (i2 f p hp1).trans (z1 f)
        have r3' : xr τ3 32 p = some h := by rw [e3]; exact va_up_self _ _ _
        clear e3
        have hp3 : p ≠ u := fun e => by rw [e, hu] at tp3; omega
        have hh3 : h ≠ u := fun e => by rw [e, hu] at th3; omega
        refine vq_newL F3 hu (fun τ4 _ F4 tu4 su4 t4 i4 r4' _ _ τ5 e5 _ τ6 e6 => ?_)
        have F5 : hx_ (fun _ => False) [] σ τ5 := by rw [e5]; exact hx_srP F4 hp
        have tu5 : xt τ5 u = 1 := by rw [e5]; exact tu4
        have su5 : xi τ5 18 u = 0 := by rw [e5]; exact su4
        have th5 : xt τ5 h = 1 := by rw [e5]; exact (t4 h hh3).trans th3
        have sh5 : xi τ5 18 h = 0 := by rw [e5]; exact (i4 18 h hh3).trans sh3
        have tp5 : xt τ5 p = 2 := by rw [e5]; exact (t4 p hp3).trans tp3
        have z5 : ∀ f, xi τ5 f p = 0 := fun f => by rw [e5]; exact (i4 f p hp3).trans (z3 f)
        have r5' : xr τ5 33 p = some u := by rw [e5]; exact va_up_self _ _ _
        have r5'' : xr τ5 32 p = some h := by rw [e5]; exact (r4' 32 p hp3).trans r3'
        clear e5
        obtain ⟨T', N', eT, eT2, n22', H'⟩ := vq_boomNew (st := st) (na := na) h10 hlt nz (Z q (by omega) nz) n22 J H F5 hp (hx_0 F1 hh) (hx_0 F3 hu) hh3 tp5 th5 tu5 sh5 su5 (z5 34) (z5 35) r5'' r5' e6
        rw [← eT]
        refine vq_boom39 (b := fs_ (fs_ (fs_ a 22 q 1) 27 q (mk &&& 65535)) 28 q v) hlt (by show ¬ upd (a.1 22) q 1 q = 0; rw [w_updS]; decide) n22' H' ⟨rfl, fun f hf => (nf _ _ _ _ f hf).trans (nf _ _ _ _ f hf).symm, fun x => ?_, w_updS, w_updS, fun x hx => ⟨?_, ?_⟩⟩ (fun u x y => ⟨T', N', eT2, x, y⟩)
        · exact Iff.rfl
        · show upd (a.1 27) q _ x = upd (a.1 27) q 0 x
          rw [w_updN hx, w_updN hx]
        · show upd (a.1 28) q _ x = upd (a.1 28) q 0 x
          rw [w_updN hx, w_updN hx]
  · rw [no_ (fun x => c ⟨x.1.1, by have := x.1.2; omega⟩)]
    exact ⟨T, N, rfl, n22, H⟩
end
