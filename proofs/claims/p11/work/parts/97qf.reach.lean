/-! the class: reaches -/
def q1b_ (T : Nat → Nat → Nat) (g1 r : Nat) (a : ra_T) (σ : kx_S) : Prop := (xe σ g1 r = some (T 10 r) ∧ xt σ (T 10 r) = 10) ∧ (xi σ 160 (T 10 r)).toInt = (r : Int) ∧ (xi σ 162 (T 10 r) = a.1 16 r ∧ xi σ 165 (T 10 r) = a.1 21 r ∧ xi σ 169 (T 10 r) = a.1 18 r ∧ xi σ 170 (T 10 r) = a.1 19 r ∧ xi σ 171 (T 10 r) = a.1 23 r) ∧ ((xr σ 161 (T 10 r) = none ∧ a.1 13 r = -1) ∨ ∃ q : Nat, (a.1 13 r).toInt = (q : Int) ∧ q < r ∧ xr σ 161 (T 10 r) = some (T 10 q)) ∧ ((xr σ 172 (T 10 r) = none ∧ a.1 22 r = 0) ∨ (¬ a.1 22 r = 0 ∧ xr σ 172 (T 10 r) = some (T 2 r) ∧ xt σ (T 2 r) = 2 ∧ xr σ 32 (T 2 r) = some (T 1 (120 + r)) ∧ xr σ 33 (T 2 r) = some (T 22 r) ∧ xi σ 34 (T 2 r) = a.1 27 r ∧ xi σ 35 (T 2 r) = a.1 28 r)) ∧ (xr σ 163 (T 10 r) = some (T 21 r) ∧ xt σ (T 21 r) = 1 ∧ (xi σ 18 (T 21 r)).toInt = (ln_ a r : Int) ∧ ln_ a r ≤ 12 ∧ 1 ≤ ln_ a r)
/-- a reach that is made, not yet among the others: c cells so far -/
def rk4_ (σ : kx_S) (N : Nat → Nat) (g1 l p nr c : Nat) (jm cr : Int32) (bw : Option Nat) (C H M : Nat → Nat) (τ : kx_S) : Prop := hx_ (fun x => x = l ∨ x = g1) [] σ τ ∧ (xt τ p = 10 ∧ xr τ 163 p = some l ∧ xt τ l = 1 ∧ (xi τ 18 l).toInt = (c : Int)) ∧ ((xi τ 160 p).toInt = (nr : Int) ∧ xi τ 162 p = jm ∧ (∀ f, f ∈ [165, 169, 170, 171] → xi τ f p = 0) ∧ xr τ 161 p = bw ∧ xr τ 172 p = none) ∧ ((∀ x, xt σ x ≠ 0 → M x = N x) ∧ M p = nr) ∧ ∀ j, j < c → (xe τ l j = some (C j) ∧ xt τ (C j) = 3) ∧ xi τ 48 (C j) = cr ∧ xr τ 49 (C j) = some (H j) ∧ (xi τ 50 (C j) = 0 ∧ xi τ 51 (C j) = 0) ∧ (xt τ (H j) = 1 ∧ xi τ 18 (H j) = 0 ∧ H j ≠ l ∧ xt σ (H j) = 0) ∧ M (C j) = 12 * nr + j ∧ M (H j) = 12 * nr + j
section
variable {T : Nat → Nat → Nat} {N : Nat → Nat} {g κ : Nat → Nat} {st na nr nl nc no m : Nat} {day : Nat → Int32} {RL : Nat → List (Bool × List Int32)} {s : sz_T} {B n : Nat} {a b : ra_T} {σ τ : kx_S} {X : Nat → Prop} {W : List Nat}
theorem q1_hy (h : q1_ T (g 1) nr a σ) (F : hx_ X W σ τ) (t1 : xt σ (g 1) = 1) (xc : ∀ r, r < nr → ¬ X (T 21 r)) (hW : ∀ f ∈ W, f ∉ [160, 162, 165, 169, 170, 171, 34, 35]) : ∀ r, r < nr → q1b_ T (g 1) r a τ := by
  obtain ⟨h1, h2⟩ := h
  have f2 := (F.2.2.2.1 (g 1) t1).2
  intro r hr
  obtain ⟨⟨a1, a2⟩, a3, ⟨a4, a5, a6, a7, a8⟩, a9, a10, a11, a12, a13, a14⟩ := h2 r hr
  have tR : xt σ (T 10 r) ≠ 0 := by rw [a2]; decide
  have xk : ∀ {f b : Nat}, f ∈ [160, 162, 165, 169, 170, 171, 34, 35] → xt σ b ≠ 0 → xi τ f b = xi σ f b := fun {f b} hf hb => F.2.1 f b (fun q => hW f q hf) (by intro e; rw [e] at hf; exact absurd hf (by decide)) (by intro e; rw [e] at hf; exact absurd hf (by decide)) hb
  have c1 := F.2.2.1 (T 21 r) a12 (xc r hr)
  refine ⟨⟨by rw [f2 r (by omega)]; exact a1, fg_tag F.1 a2 (by decide)⟩, by rw [xk (by decide) tR]; exact a3, ⟨by rw [xk (by decide) tR]; exact a4, by rw [xk (by decide) tR]; exact a5, by rw [xk (by decide) tR]; exact a6, by rw [xk (by decide) tR]; exact a7, by rw [xk (by decide) tR]; exact a8⟩, ?_, ?_, by rw [F.1.2.1 163 _ (by decide) tR]; exact a11, fg_tag F.1 a12 (by decide), by rw [c1]; exact a13, a14⟩
  · rw [F.1.2.1 161 _ (by decide) tR]
    exact a9
  · rw [F.1.2.1 172 _ (by decide) tR]
    rcases a10 with q | ⟨q1, q2, q3, q4, q5, q6, q7⟩
    · exact .inl q
    · have tB : xt σ (T 2 r) ≠ 0 := by rw [q3]; decide
      exact .inr ⟨q1, q2, fg_tag F.1 q3 (by decide), by rw [F.1.2.1 32 _ (by decide) tB]; exact q4, by rw [F.1.2.1 33 _ (by decide) tB]; exact q5, by rw [xk (by decide) tB]; exact q6, by rw [xk (by decide) tB]; exact q7⟩
theorem vq_newCell {c l p : Nat} {jm cr : Int32} {bw : Option Nat} {C H M : Nat → Nat} {Q : kx_S → Prop} (J : yJ_ s g κ B n τ) (hB : B + 2 ≤ 3000) (hn : n + 1 ≤ 200) (kl0 : κ l = 3) (I : rk4_ σ N (g 1) l p nr c jm cr bw C H M τ) (hc : c < 12) (hcr : cr.toInt ≤ 20) (kk : ∀ κ' C' H' M' u, yJ_ s g κ' (B + 1 + 1) (n + 1) u → κ' l = 3 → rk4_ σ N (g 1) l p nr (c + 1) jm cr bw C' H' M' u → Q u) : ∀ p13, xt τ p13 = 0 → p13 ≠ xz τ → ∀ σ16, σ16 = xnew τ p13 3 → vX1_init p13 cr σ16 (fun σ18 => xt σ18 l = 1 → vJx4a65c_add_9ea2d l p13 σ18 (fun r20 σ19 => Q σ19)) := by
  obtain ⟨F0, ⟨tp, r163, tl, sl⟩, ⟨p160, p162, pz, p161, p172⟩, ⟨M1, M2⟩, CC⟩ := I
  intro q hq hqz τ1 e1
  have q0 : q ≠ g 0 := fun e => by have := yg0 J; rw [← e, hq] at this; omega
  have ql : l ≠ q := fun e => by rw [e, hq] at tl; omega
  have qp : p ≠ q := fun e => by rw [e, hq] at tp; omega
  have I1 : yI_ s (fun a => False ∨ a = q) g κ (B + 1) n τ1 := by rw [e1]; exact yI_new J hq hqz (by decide)
  have F1 : hx_ (fun x => x = l ∨ x = g 1) [] σ τ1 := by rw [e1]; exact hx_new F0 hq
  have tq1 : xt τ1 q = 3 := by rw [e1]; exact va_up_self _ _ _
  have i1 : ∀ f a, a ≠ q → xi τ1 f a = xi τ f a := fun f a ha => by rw [e1]; exact va_up_ne _ _ ha
  have r1 : ∀ f a, a ≠ q → xr τ1 f a = xr τ f a := fun f a ha => by rw [e1]; exact va_up_ne _ _ ha
  have t1 : ∀ a, a ≠ q → xt τ1 a = xt τ a := fun a ha => by rw [e1]; exact va_up_ne _ _ ha
  have x1 : ∀ a i, a ≠ q → xe τ1 a i = xe τ a i := fun a i ha => by rw [e1]; exact xe_new ha
  have z1 : ∀ f, xi τ1 f q = 0 := fun f => by rw [e1]; exact va_up_self _ _ _
  have hq0 := hx_0 F0 hq
  clear e1
  unfold vX1_init
  intro _ τ2 e2 _ u hu huz
  have I2 : yI_ s (fun a => False ∨ a = q) g κ (B + 1) n τ2 := by rw [e2]; exact yI_48 hcr I1
  have F2 : hx_ (fun x => x = l ∨ x = g 1) [] σ τ2 := by rw [e2]; exact hx_siP F1 hq0
  have tq2 : xt τ2 q = 3 := by rw [e2]; exact tq1
  have i2 : ∀ f a, a ≠ q → xi τ2 f a = xi τ f a := fun f a ha => by
    rw [e2, ← i1 f a ha]
    exact xup_ne τ1.2.1 ha
  have r2 : ∀ f a, a ≠ q → xr τ2 f a = xr τ f a := fun f a ha => by rw [e2]; exact r1 f a ha
  have t2 : ∀ a, a ≠ q → xt τ2 a = xt τ a := fun a ha => by rw [e2]; exact t1 a ha
  have x2 : ∀ a i, a ≠ q → xe τ2 a i = xe τ a i := fun a i ha => by rw [e2]; exact x1 a i ha
  have q48 : xi τ2 48 q = cr := by rw [e2]; exact va_up_self _ _ _
  have q50 : xi τ2 50 q = 0 := by rw [e2]; exact z1 50
  have q51 : xi τ2 51 q = 0 := by rw [e2]; exact z1 51
  clear e2
  have u2 : u ≠ g 2 := fun e => by have := (yg2 I2).2.1; rw [← e, hu] at this; omega
  have hu0 := hx_0 F2 hu
  have uq : q ≠ u := fun e => by rw [e, hu] at tq2; omega
  have ul : l ≠ u := fun e => by have := t2 l ql; rw [tl, e, hu] at this; omega
  have up : p ≠ u := fun e => by have := t2 p qp; rw [tp, e, hu] at this; omega
  have old : ∀ x, xt τ x ≠ 0 → x ≠ q ∧ x ≠ u := fun x hx => by
    have c1 : x ≠ q := fun e => hx (by rw [e]; exact hq)
    exact ⟨c1, fun e => hx (by rw [← t2 x c1, e]; exact hu)⟩
  refine vq_newL F2 hu (fun τ3 e3 F3 tu3 su3 t3 i3 r3 x3 _ τ4 e4 _ => ?_)
  have I3 := (yI_newL (t := 8) I2 hu (.inr (.inr (.inr (.inl rfl)))) e3).1
  clear e3
  have I4 : yI_ s (fun a => False ∨ a = q) g (va_up κ u 8) (B + 1 + 1) (n + 1) τ4 := by rw [e4]; exact yI_srE I3 (.inr rfl) (by decide) (by decide) q0
  have F4 : hx_ (fun x => x = l ∨ x = g 1) [] σ τ4 := by rw [e4]; exact hx_srP F3 hq0
  have tq4 : xt τ4 q = 3 := by rw [e4]; exact (t3 q uq).trans tq2
  have tu4 : xt τ4 u = 1 := by rw [e4]; exact tu3
  have su4 : xi τ4 18 u = 0 := by rw [e4]; exact su3
  have r4 : xr τ4 49 q = some u := by rw [e4]; exact va_up_self _ _ _
  have k4i : ∀ f x, xt τ x ≠ 0 → xi τ4 f x = xi τ f x := fun f x hx => by
    rw [e4]
    exact (i3 f x (old x hx).2).trans (i2 f x (old x hx).1)
  have k4r : ∀ f x, xt τ x ≠ 0 → xr τ4 f x = xr τ f x := fun f x hx => by
    rw [e4]
    refine Eq.trans ?_ ((r3 f x (old x hx).2).trans (r2 f x (old x hx).1))
    exact xup_ne τ3.2.2.1 (old x hx).1
  have k4t : ∀ x, xt τ x ≠ 0 → xt τ4 x = xt τ x := fun x hx => by
    rw [e4]
    exact (t3 x (old x hx).2).trans (t2 x (old x hx).1)
  have k4x : ∀ i, xe τ4 l i = xe τ l i := fun i => by
    rw [e4]
    exact (x3 l i ul).trans (x2 l i ql)
  have q4 : ∀ f, xi τ4 f q = xi τ2 f q := fun f => by rw [e4]; exact i3 f q uq
  clear e4 i1 r1 t1 x1 z1 F1 I1 I3 F3 t3 i3 r3 x3
  have J4 : yJ_ s g (va_up κ u 8) (B + 1 + 1) (n + 1) τ4 := ⟨I4.1, yP_add I4.2.1 tq4 (fun x => absurd x (by decide)) (fun _ => ⟨u, r4, tu4, va_up_self _ _ _, u2⟩) (fun x => absurd x (by decide)) (fun x => absurd x (by decide)) (fun x => absurd x (by decide)) (.inr (.inl rfl)), I4.2.2⟩
  clear I4
  have hl0 : xt τ l ≠ 0 := by rw [tl]; decide
  have hp0 : xt τ p ≠ 0 := by rw [tp]; decide
  have tl4 : xt τ4 l = 1 := (k4t l hl0).trans tl
  have kl : va_up κ u 8 l = 3 := by rw [va_up_ne _ _ ul]; exact kl0
  have s4 : (xi τ4 18 l).toInt = (c : Int) := by rw [k4i 18 l hl0]; exact sl
  have bl : (xi τ4 18 l).toInt < (ylb g l : Int) := by
    have : ylb g l ≥ 100 := by unfold ylb; split <;> omega
    omega
  refine jaJx4a65c_add_9ea2d (Q := fun _ u' => (yJ_ s g (va_up κ u 8) (B + 1 + 1) (n + 1) u' ∧ ya_ l q τ4 u') ∧ ∀ b, xt τ4 b ≠ 0 → xt u' b = xt τ4 b ∧ xai u' b = xai τ4 b) (fun _ w hh => ?_) _ _ _ (jcJx4a65c_add_9ea2d (Q := fun _ u' => yJ_ s g (va_up κ u 8) (B + 1 + 1) (n + 1) u' ∧ ya_ l q τ4 u') (Q' := fun _ u' => ∀ b, xt τ4 b ≠ 0 → xt u' b = xt τ4 b ∧ xai u' b = xai τ4 b) (fun _ _ x y => ⟨x, y⟩) _ _ _ (ry_add J4.1 (by omega) hn tl4 (by rw [tq4, kl]) bl (fun τ5 L5 A5 => ?_)) vy_xai)
  · obtain ⟨⟨J5, A5⟩, X5⟩ := hh
    have F5 : hx_ (fun x => x = l ∨ x = g 1) [] σ w := hx_ya F4 A5 (.inl rfl) (by omega) (fun b hb => (X5 b hb).2)
    have w18 : ∀ x, x ≠ l → xi w 18 x = xi τ4 18 x := fun x hx => by rw [A5.2.2.2.1, va_up_ne _ _ hx]
    have wi : ∀ f x, f ≠ 16 → f ≠ 18 → xi w f x = xi τ4 f x := fun f x h1 h2 => by rw [A5.2.2.1 f h1 h2]
    have wr : ∀ f x, f ≠ 17 → xr w f x = xr τ4 f x := fun f x h1 => by rw [A5.2.2.2.2.1 f h1]
    have wt : ∀ x, xt τ4 x ≠ 0 → xt w x = xt τ4 x := fun x hx => A5.1.1 x hx
    have wtp : xt w p = 10 := (wt p (by rw [k4t p hp0]; exact hp0)).trans ((k4t p hp0).trans tp)
    refine kk (va_up κ u 8) (va_up C c q) (va_up H c u) (va_up (va_up M q (12 * nr + c)) u (12 * nr + c)) w J5 kl ⟨F5, ⟨wtp, ?_, ?_, ?_⟩, ⟨?_, ?_, fun f hf => ?_, ?_, ?_⟩, ⟨fun x hx => ?_, ?_⟩, fun j hj => ?_⟩
    · rw [wr 163 p (by decide), k4r 163 p hp0]; exact r163
    · rw [wt l (by rw [tl4]; decide)]; exact tl4
    · rw [A5.2.2.2.1, va_up_self]
      exact ki_addN s4 ki_z1 (by omega)
    · rw [wi 160 p (by decide) (by decide), k4i 160 p hp0]; exact p160
    · rw [wi 162 p (by decide) (by decide), k4i 162 p hp0]; exact p162
    · rw [wi f p (by intro e; rw [e] at hf; exact absurd hf (by decide)) (by intro e; rw [e] at hf; exact absurd hf (by decide)), k4i f p hp0]
      exact pz f hf
    · rw [wr 161 p (by decide), k4r 161 p hp0]; exact p161
    · rw [wr 172 p (by decide), k4r 172 p hp0]; exact p172
    · rw [va_up_ne _ _ (fun e => hx (by rw [e]; exact hu0)), va_up_ne _ _ (fun e => hx (by rw [e]; exact hq0))]
      exact M1 x hx
    · rw [va_up_ne _ _ up, va_up_ne _ _ qp]
      exact M2
    · by_cases cj : j = c
      · rw [cj, va_up_self C, va_up_self H]
        have ex := A5.2.2.2.2.2.2.1
        rw [ki_toN s4] at ex
        refine ⟨⟨ex, (wt q (by rw [tq4]; decide)).trans tq4⟩, by rw [wi 48 q (by decide) (by decide), q4]; exact q48, by rw [wr 49 q (by decide)]; exact r4, ⟨by rw [wi 50 q (by decide) (by decide), q4]; exact q50, by rw [wi 51 q (by decide) (by decide), q4]; exact q51⟩, ⟨(wt u (by rw [tu4]; decide)).trans tu4, (w18 u (fun e => ul e.symm)).trans su4, fun e => ul e.symm, hu0⟩, ?_, va_up_self _ _ _⟩
        rw [va_up_ne _ _ uq]
        exact va_up_self _ _ _
      · rw [va_up_ne C _ cj, va_up_ne H _ cj]
        obtain ⟨⟨b1, b2⟩, b3, b4, ⟨b5, b6⟩, ⟨b7, b8, b9, b10⟩, b11, b12⟩ := CC j (by omega)
        have hC : xt τ (C j) ≠ 0 := by rw [b2]; decide
        have hH : xt τ (H j) ≠ 0 := by rw [b7]; decide
        have hC4 : xt τ4 (C j) ≠ 0 := by rw [k4t _ hC]; exact hC
        have hH4 : xt τ4 (H j) ≠ 0 := by rw [k4t _ hH]; exact hH
        refine ⟨⟨?_, (wt _ hC4).trans ((k4t _ hC).trans b2)⟩, by rw [wi 48 _ (by decide) (by decide), k4i 48 _ hC]; exact b3, by rw [wr 49 _ (by decide), k4r 49 _ hC]; exact b4, ⟨by rw [wi 50 _ (by decide) (by decide), k4i 50 _ hC]; exact b5, by rw [wi 51 _ (by decide) (by decide), k4i 51 _ hC]; exact b6⟩, ⟨(wt _ hH4).trans ((k4t _ hH).trans b7), by rw [w18 _ b9, k4i 18 _ hH]; exact b8, b9, b10⟩, ?_, ?_⟩
        · rw [A5.2.2.2.2.2.1 l tl4 j (by omega), k4x]
          exact b1
        · rw [va_up_ne _ _ (old _ hC).2, va_up_ne _ _ (old _ hC).1]
          exact b11
        · rw [va_up_ne _ _ (old _ hH).2, va_up_ne _ _ (old _ hH).1]
          exact b12
  · refine ⟨?_, A5⟩
    have og : ∀ i, va_up κ u 8 (g i) ≠ 3 → xi τ5 18 (g i) = xi τ4 18 (g i) := fun i h => by
      rw [A5.2.2.2.1, va_up_ne _ _ (fun e => h (by rw [e]; exact kl))]
    have p2 := og 2 (by rw [(yg2 J4).2.2]; decide)
    have p3 := og 3 (by rw [(yg3 J4).2.2]; decide)
    have p4 := og 4 (by rw [(yg4 J4).2.2]; decide)
    have p5 := og 5 (by rw [(yg5 J4).2.2]; decide)
    have SS := J4.2.2.2.2.2.2.2
    have ids := yG_idx J4
    have S5 := yS_add J4 A5 (fun e => by have := (yg1 J4).2.2; rw [← e, kl] at this; cases this) (by rw [p3]; exact SS.2.1) (by rw [p4]; exact SS.2.2.1) (by rw [p5]; exact SS.2.2.2)
    have I5 := yI_tr2 J4 L5 A5 S5 (yK9_same J4 A5 (by rw [kl]; decide))
    rw [p2, p4, p5, ids.2.1, ids.2.2.1, ids.2.2.2.1] at I5
    exact I5
def tR_ (T : Nat → Nat → Nat) (nr p l : Nat) (C H : Nat → Nat) : Nat → Nat → Nat := fun j => if j = 10 then va_up (T 10) nr p else if j = 21 then va_up (T 21) nr l else if j = 3 then (fun k => if 12 * nr ≤ k ∧ k < 12 * nr + 12 then C (k - 12 * nr) else T 3 k) else if j = 1 then (fun k => if 12 * nr ≤ k ∧ k < 12 * nr + 12 then H (k - 12 * nr) else T 1 k) else T j
/-- a reach among the others -/
theorem vq_reachIn {c l p : Nat} {nx ln jm cr : Int32} {bw : Option Nat} {C H M : Nat → Nat} {Q : Int32 → kx_S → Prop} {κ' : Nat → Nat} {B' n' : Nat} (hB : B' ≤ 3000) (hn : n' ≤ 200) (n10 : nr < 10) (J : yJ_ s g κ B n σ) (J' : yJ_ s g κ' B' n' τ) (hs : s.1.1.toInt = (nr : Int)) (h : qE_ T N g st na nr nl m day RL no nc a σ) (n22 : n22_ T N nr a) (hlp : xt σ l = 0) (hln : ln.toInt = (c : Int)) (c12 : c ≤ 12) (c1 : 1 ≤ c) (hbw : (bw = none ∧ nx = -1) ∨ ∃ q : Nat, nx.toInt = (q : Int) ∧ q < nr ∧ bw = some (T 10 q)) (z18 : a.1 18 nr = 0 ∧ a.1 19 nr = 0) (z21 : a.1 21 nr = 0 ∧ a.1 22 nr = 0 ∧ a.1 23 nr = 0) (z33 : ∀ c, c < 12 → a.1 33 (12 * nr + c) = 0 ∧ a.1 34 (12 * nr + c) = 0) (z2 : ∀ c, c < 12 → a.2 (12 * nr + c) = []) (I : rk4_ σ N (g 1) l p nr c jm cr bw C H M τ) (kk : ∀ u v T' N', T' 20 = T 20 → n22_ T' N' (nr + 1) (fs_ (fs_ (fs_ (fs_ a 13 nr nx) 14 nr ln) 15 nr cr) 16 nr jm) → qE_ T' N' g st na (nr + 1) nl m day RL no nc (fs_ (fs_ (fs_ (fs_ a 13 nr nx) 14 nr ln) 15 nr cr) 16 nr jm) u → Q v u) : vX11_reach_148 Q (g 0) p τ := by
  obtain ⟨Q0, Q22⟩ := qE_q0 J h
  obtain ⟨h0, h1, h2, h3, h4, h7, hj, h6, hb, h5⟩ := h
  obtain ⟨F0, ⟨tp, r163, tl, sl⟩, ⟨p160, p162, pz, p161, p172⟩, ⟨M1, M2⟩, CC⟩ := I
  have ids := yG_idx J'
  have sg : (xi τ 18 (g 1)).toInt = (nr : Int) := by rw [ids.1]; exact hs
  have ne := yG_ne J'.2.2.1
  have G1 := yg1 J'
  unfold vX11_reach_148
  intro _ a2 e2 _
  obtain rfl := Option.some.inj (G1.1.symm.trans e2)
  refine jaJx4a65c_add_9ea2d (Q := fun _ u => ya_ (g 1) p τ u ∧ ∀ b, xt τ b ≠ 0 → xt u b = xt τ b ∧ xai u b = xai τ b) (fun _ u hh _ => ?_) _ _ _ (jcJx4a65c_add_9ea2d (Q := fun _ u => ya_ (g 1) p τ u) (Q' := fun _ u => ∀ b, xt τ b ≠ 0 → xt u b = xt τ b ∧ xai u b = xai τ b) (fun _ _ x y => ⟨x, y⟩) _ _ _ (ry_add J'.1 hB hn G1.2.1 (by rw [tp, G1.2.2]) (by unfold ylb; rw [if_neg ne.1]; omega) (fun _ _ A => A)) vy_xai)
  obtain ⟨A, XA⟩ := hh
  have F : hx_ (fun x => x = l ∨ x = g 1) [] σ u := hx_ya F0 A (.inr rfl) (by omega) (fun b hb => (XA b hb).2)
  have g1o : xt σ (g 1) = 1 := (yg1 J).2.1
  have lg : l ≠ g 1 := fun e => by rw [e, g1o] at hlp; omega
  have nX : ∀ x, xt σ x ≠ 0 → x ≠ g 1 → ¬ (x = l ∨ x = g 1) := fun x h1 h2 => by
    rintro (e | e)
    · exact h1 (by rw [e]; exact hlp)
    · exact h2 e
  have ne10 : ∀ x, κ x ≠ 10 → x ≠ g 1 := fun x hx e => hx (by rw [e]; exact (yg1 J).2.2)
  have nn : ∀ f ∈ ([] : List Nat), ∀ L : List Nat, f ∉ L := fun f hf => absurd hf (List.not_mem_nil)
  have t21 : ∀ r, r < nr → xt σ (T 21 r) = 1 := fun r hr => (h1.2 r hr).2.2.2.2.2.2.1
  have r1 := q1_hy h1 F g1o (fun r hr => nX _ (by rw [t21 r hr]; decide) (ne10 _ (by rw [(Q0.2.2.1 r hr).1]; decide))) (fun f hf => nn f hf _)
  have r2 := q2_hx h2 h1 F (fun f hf => nn f hf _)
  have r3 := q3_hx h3 F (fun k hk => nX _ (by rw [(h3 k hk).1]; decide) (ne10 _ (by rw [(Q0.1 k hk).1]; decide)))
  have r4 := q4_hx h4 F (yg2 J).2.1 (nX _ (by rw [(yg2 J).2.1]; decide) (ne10 _ (by rw [(yg2 J).2.2]; decide))) (fun f hf => nn f hf _)
  have r5 := q5_hx h5 F (yg4 J).2.1 (nX _ (by rw [(yg4 J).2.1]; decide) (ne10 _ (by rw [(yg4 J).2.2]; decide))) (List.not_mem_nil)
  have r6 := q6_hx h6 F (yg5 J).2.1 (nX _ (by rw [(yg5 J).2.1]; decide) (ne10 _ (by rw [(yg5 J).2.2]; decide))) (fun r hr hb => nX _ (by rw [(h6.2.2.2 r hr hb).1]; decide) (ne10 _ (by rw [(Q22 r hr hb).1]; decide))) (fun f hf => nn f hf _)
  have r7 := q7_hx h7 F (yg3 J).2.1 (nX _ (by rw [(yg3 J).2.1]; decide) (ne10 _ (by rw [(yg3 J).2.2]; decide))) (List.not_mem_nil)
  have rj := qj_hx hj F
  have rb : xi u 218 (g 0) = a.1 6 0 := by rw [F.2.1 218 _ (List.not_mem_nil) (by decide) (by decide) (by rw [yg0 J]; decide)]; exact hb
  have w18 : ∀ x, x ≠ g 1 → xi u 18 x = xi τ 18 x := fun x hx => by rw [A.2.2.2.1, va_up_ne _ _ hx]
  have wi : ∀ f x, f ≠ 16 → f ≠ 18 → xi u f x = xi τ f x := fun f x h1 h2 => by rw [A.2.2.1 f h1 h2]
  have wr : ∀ f x, f ≠ 17 → xr u f x = xr τ f x := fun f x h1 => by rw [A.2.2.2.2.1 f h1]
  have wt : ∀ x, xt τ x ≠ 0 → xt u x = xt τ x := fun x hx => A.1.1 x hx
  have eln : ln.toNatClampNeg = c := ki_toN hln
  have lnS : ln_ (fs_ (fs_ (fs_ (fs_ a 13 nr nx) 14 nr ln) 15 nr cr) 16 nr jm) nr = c := by
    show (upd (a.1 14) nr ln nr).toNatClampNeg = c
    rw [w_updS]
    exact eln
  have lnN : ∀ r, r ≠ nr → ln_ (fs_ (fs_ (fs_ (fs_ a 13 nr nx) 14 nr ln) 15 nr cr) 16 nr jm) r = ln_ a r := fun r hr => by
    show (upd (a.1 14) nr ln r).toNatClampNeg = _
    rw [w_updN hr]
    rfl
  have l12 : ∀ r, r < nr → ln_ a r ≤ 12 := fun r hr => (h1.2 r hr).2.2.2.2.2.2.2.2.1
  have eo : ∀ r, od_ (fs_ (fs_ (fs_ (fs_ a 13 nr nx) 14 nr ln) 15 nr cr) 16 nr jm) r no 0 = od_ a r no 0 := fun r => od_qm (a := a) (b := fs_ (fs_ (fs_ (fs_ a 13 nr nx) 14 nr ln) 15 nr cr) 16 nr jm) rfl no 0
  have T10n : ∀ r, r ≠ nr → tR_ T nr p l C H 10 r = T 10 r := fun r hr => va_up_ne _ _ hr
  have T10s : tR_ T nr p l C H 10 nr = p := va_up_self _ _ _
  have T21n : ∀ r, r ≠ nr → tR_ T nr p l C H 21 r = T 21 r := fun r hr => va_up_ne _ _ hr
  have T21s : tR_ T nr p l C H 21 nr = l := va_up_self _ _ _
  have T3n : ∀ k, ¬ (12 * nr ≤ k ∧ k < 12 * nr + 12) → tR_ T nr p l C H 3 k = T 3 k := fun k hk => if_neg hk
  have T3s : ∀ j, j < 12 → tR_ T nr p l C H 3 (12 * nr + j) = C j := fun j hj => by
    refine (if_pos ⟨by omega, by omega⟩ : tR_ T nr p l C H 3 (12 * nr + j) = C (12 * nr + j - 12 * nr)).trans ?_
    rw [Nat.add_sub_cancel_left]
  have T1n : ∀ k, ¬ (12 * nr ≤ k ∧ k < 12 * nr + 12) → tR_ T nr p l C H 1 k = T 1 k := fun k hk => if_neg hk
  have T1s : ∀ j, j < 12 → tR_ T nr p l C H 1 (12 * nr + j) = H j := fun j hj => by
    refine (if_pos ⟨by omega, by omega⟩ : tR_ T nr p l C H 1 (12 * nr + j) = H (12 * nr + j - 12 * nr)).trans ?_
    rw [Nat.add_sub_cancel_left]
  have vkc : ∀ k, vk_ (nr + 1) (fs_ (fs_ (fs_ (fs_ a 13 nr nx) 14 nr ln) 15 nr cr) 16 nr jm) k → (∃ j, j < c ∧ k = 12 * nr + j) ∨ (vk_ nr a k ∧ ¬ (12 * nr ≤ k ∧ k < 12 * nr + 12)) := by
    intro k hk
    rcases hk with ⟨r, d, x1, x2, x3⟩ | ⟨r, x1, x2, x3⟩
    · by_cases e : r = nr
      · rw [e, lnS] at x2
        exact .inl ⟨d, x2, by rw [x3, e]⟩
      · rw [lnN r e] at x2
        have := l12 r (by omega)
        exact .inr ⟨.inl ⟨r, d, by omega, x2, x3⟩, by omega⟩
    · by_cases e : r = nr
      · have x2 : ¬ a.1 22 r = 0 := x2
        rw [e] at x2
        exact absurd z21.2.1 x2
      · exact .inr ⟨.inr ⟨r, by omega, x2, x3⟩, by omega⟩
  have e22 : ∀ r, r < nr + 1 → ¬ a.1 22 r = 0 → r < nr := fun r hr hz => by
    have : r ≠ nr := fun e => hz (by rw [e]; exact z21.2.1)
    omega
  refine kk u _ (tR_ T nr p l C H) M rfl ?_ ⟨⟨?_, ?_, ?_, ?_⟩, ⟨?_, fun r hr => ?_⟩, ?_, ?_, r4, r7, rj, ⟨r6.1, r6.2.1, fun o ho => ?_, fun r hr hz => ?_⟩, rb, ?_⟩
  · intro r hr hz
    have hz : ¬ a.1 22 r = 0 := hz
    have hr' := e22 r hr hz
    show M (T 22 r) = r
    rw [M1 _ (by rw [(h6.2.2.2 r hr' hz).1]; decide)]
    exact n22 r hr' hz
  · intro k hk
    rcases vkc k hk with ⟨j, hj1, e⟩ | ⟨hk', hk2⟩
    · rw [e, T1s j (by omega)]
      exact (CC j hj1).2.2.2.2.2.2
    · rw [T1n k hk2, M1 _ (by rw [(h3 k hk').1]; decide)]
      exact h0.1 k hk'
  · intro r d hr hd
    by_cases e : r = nr
    · rw [e, lnS] at hd
      rw [e, T3s d (by omega)]
      exact (CC d hd).2.2.2.2.2.1
    · rw [lnN r e] at hd
      have hr' : r < nr := by omega
      have := l12 r hr'
      rw [T3n _ (by omega), M1 _ (by rw [((h2 r hr' d hd).1).2]; decide)]
      exact h0.2.1 r d hr' hd
  · intro r hr
    by_cases e : r = nr
    · rw [e, T10s]
      exact M2
    · have hr' : r < nr := by omega
      rw [T10n r e, M1 _ (by rw [((h1.2 r hr').1).2]; decide)]
      exact h0.2.2.1 r hr'
  · intro j hj'
    show M (T 8 j) = j
    rw [M1 _ (by rw [((h4.2 j hj').1).2]; decide)]
    exact h0.2.2.2 j hj'
  · rw [A.2.2.2.1, va_up_self]
    exact ki_addN sg ki_z1 (by omega)
  · show q1b_ (tR_ T nr p l C H) (g 1) r (fs_ (fs_ (fs_ (fs_ a 13 nr nx) 14 nr ln) 15 nr cr) 16 nr jm) u
    unfold q1b_
    by_cases e : r = nr
    · subst e
      have ex := A.2.2.2.2.2.2.1
      rw [ki_toN sg] at ex
      rw [T10s, T21s, lnS]
      refine ⟨⟨ex, (wt p (by rw [tp]; decide)).trans tp⟩, by rw [wi 160 p (by decide) (by decide)]; exact p160, ⟨?_, ?_, ?_, ?_, ?_⟩, ?_, .inl ⟨by rw [wr 172 p (by decide)]; exact p172, z21.2.1⟩, by rw [wr 163 p (by decide)]; exact r163, (wt l (by rw [tl]; decide)).trans tl, by rw [w18 l lg]; exact sl, c12, c1⟩
      · rw [wi 162 p (by decide) (by decide), p162]
        exact w_updS.symm
      · rw [wi 165 p (by decide) (by decide), pz 165 (by decide)]
        exact z21.1.symm
      · rw [wi 169 p (by decide) (by decide), pz 169 (by decide)]
        exact z18.1.symm
      · rw [wi 170 p (by decide) (by decide), pz 170 (by decide)]
        exact z18.2.symm
      · rw [wi 171 p (by decide) (by decide), pz 171 (by decide)]
        exact z21.2.2.symm
      · have e13 : (fs_ (fs_ (fs_ (fs_ a 13 r nx) 14 r ln) 15 r cr) 16 r jm).1 13 r = nx := w_updS
        rw [e13, wr 161 p (by decide), p161]
        rcases hbw with ⟨y1, y2⟩ | ⟨q, y1, y2, y3⟩
        · exact .inl ⟨y1, y2⟩
        · exact .inr ⟨q, y1, y2, by rw [y3, T10n q (by omega)]⟩
    · have hr' : r < nr := by omega
      have R := r1 r hr'
      unfold q1b_ at R
      obtain ⟨b1, b2, ⟨b3, b4⟩, b5, b6, b7, b8, b9⟩ := R
      rw [T10n r e, T21n r e, lnN r e]
      refine ⟨b1, b2, ⟨b3.trans (w_updN e).symm, b4⟩, ?_, ?_, b7, b8, b9⟩
      · have e13 : (fs_ (fs_ (fs_ (fs_ a 13 nr nx) 14 nr ln) 15 nr cr) 16 nr jm).1 13 r = a.1 13 r := w_updN e
        rw [e13]
        rcases b5 with y | ⟨q, y1, y2, y3⟩
        · exact .inl y
        · exact .inr ⟨q, y1, y2, by rw [T10n q (by omega)]; exact y3⟩
      · rw [T1n (120 + r) (by omega)]
        exact b6
  · intro r hr d hd
    by_cases e : r = nr
    · subst e
      rw [lnS] at hd
      obtain ⟨⟨b1, b2⟩, b3, b4, ⟨b5, b6⟩, ⟨b7, b8, b9, b10⟩, b11, b12⟩ := CC d hd
      have z := z33 d (by omega)
      rw [T21s, T3s d (by omega), T1s d (by omega)]
      refine ⟨⟨?_, (wt _ (by rw [b2]; decide)).trans b2⟩, ?_, by rw [wr 49 _ (by decide)]; exact b4, by rw [wi 50 _ (by decide) (by decide), b5]; exact z.1.symm, by rw [wi 51 _ (by decide) (by decide), b6]; exact z.2.symm⟩
      · rw [A.2.2.2.2.2.1 l tl d (by omega)]
        exact b1
      · rw [wi 48 _ (by decide) (by decide), b3]
        exact w_updS.symm
    · have hr' : r < nr := by omega
      rw [lnN r e] at hd
      have := l12 r hr'
      obtain ⟨b1, b2, b3⟩ := r2 r hr' d hd
      rw [T21n r e, T3n _ (by omega), T1n _ (by omega)]
      exact ⟨b1, b2.trans (w_updN e).symm, b3⟩
  · intro k hk
    rcases vkc k hk with ⟨j, hj1, e⟩ | ⟨hk', hk2⟩
    · subst e
      obtain ⟨_, _, _, _, ⟨b7, b8, b9, b10⟩, _, _⟩ := CC j hj1
      have ea : (fs_ (fs_ (fs_ (fs_ a 13 nr nx) 14 nr ln) 15 nr cr) 16 nr jm).2 (12 * nr + j) = [] := z2 j (by omega)
      rw [T1s j (by omega), ea]
      refine ⟨(wt _ (by rw [b7]; decide)).trans b7, ?_, fun i x hx => ?_⟩
      · rw [w18 _ (fun e => by rw [e, g1o] at b10; omega), b8]
        rfl
      · rw [List.getElem?_nil] at hx
        cases hx
    · rw [T1n k hk2]
      exact r3 k hk'
  · obtain ⟨b1, b3, b4, b5, b6, r, b7, b8⟩ := r6.2.2.1 o ho
    refine ⟨b1, b3, b4, b5, ?_, r, by omega, b8⟩
    show M (T 9 o) = o
    rw [M1 _ (by rw [((h6.2.2.1 o ho).1).2]; decide)]
    exact b6
  · rw [eo]
    have hz : ¬ a.1 22 r = 0 := hz
    exact r6.2.2.2 r (e22 r hr hz) hz
  · obtain ⟨o1, o2, o3⟩ := r5
    refine ⟨o1, o2, fun k hk => ?_⟩
    obtain ⟨b1, ⟨r, b2, b3, b4⟩, b5, b6⟩ := o3 k hk
    refine ⟨b1, ⟨r, by omega, b3, ?_⟩, b5, ?_⟩
    · rw [T10n r (by omega)]
      exact b4
    · show M (T 4 k) = k
      rw [M1 _ (by rw [((h5.2.2 k hk).1).2]; decide)]
      exact b6
theorem vq_reach90 {c : Nat} {nx ln jm cr : Int32} {bw : Option Nat} {Q : Int32 → kx_S → Prop} (hB3 : B ≤ 2100) (hn2 : n ≤ 155) (n10 : nr < 10) (J : yJ_ s g κ B n σ) (hs : s.1.1.toInt = (nr : Int)) (h : qE_ T N g st na nr nl m day RL no nc a σ) (n22 : n22_ T N nr a) (hln : ln.toInt = (c : Int)) (c12 : c ≤ 12) (c1 : 1 ≤ c) (hcr : cr.toInt ≤ 20) (hbw : (bw = none ∧ nx = -1) ∨ ∃ q : Nat, nx.toInt = (q : Int) ∧ q < nr ∧ bw = some (T 10 q)) (z18 : a.1 18 nr = 0 ∧ a.1 19 nr = 0) (z21 : a.1 21 nr = 0 ∧ a.1 22 nr = 0 ∧ a.1 23 nr = 0) (z33 : ∀ c, c < 12 → a.1 33 (12 * nr + c) = 0 ∧ a.1 34 (12 * nr + c) = 0) (z2 : ∀ c, c < 12 → a.2 (12 * nr + c) = []) (kk : ∀ u v T' N', T' 20 = T 20 → n22_ T' N' (nr + 1) (fs_ (fs_ (fs_ (fs_ a 13 nr nx) 14 nr ln) 15 nr cr) 16 nr jm) → qE_ T' N' g st na (nr + 1) nl m day RL no nc (fs_ (fs_ (fs_ (fs_ a 13 nr nx) 14 nr ln) 15 nr cr) 16 nr jm) u → Q v u) : vX11_reach_90 Q (g 0) ln cr jm bw σ := by
  have h1 := h.2.1
  unfold vX11_reach_90
  intro _ p hp hpz τ1 e1
  have p0 : p ≠ g 0 := fun e => by have := yg0 J; rw [← e, hp] at this; omega
  have p1 : g 1 ≠ p := fun e => by have := (yg1 J).2.1; rw [e, hp] at this; omega
  have I1 : yI_ s (fun a => False ∨ a = p) g κ (B + 1) n τ1 := by rw [e1]; exact yI_new J hp hpz (by decide)
  have F1 : hx_ (fun _ => False) [] σ τ1 := by rw [e1]; exact hx_new hx_refl hp
  have tp1 : xt τ1 p = 10 := by rw [e1]; exact va_up_self _ _ _
  have i1 : ∀ f, xi τ1 f p = 0 := fun f => by rw [e1]; exact va_up_self _ _ _
  have r1 : ∀ f, xr τ1 f p = none := fun f => by rw [e1]; exact va_up_self _ _ _
  have np : ∀ r : Nat, (r : Int) < (xi τ1 18 (g 1)).toInt → xe τ1 (g 1) r ≠ some p := by
    intro r hr q
    rw [e1, xe_new p1] at q
    have hr2 : (r : Int) < (xi σ 18 (g 1)).toInt := by
      rw [e1] at hr
      have : xi (xnew σ p 10) 18 (g 1) = xi σ 18 (g 1) := va_up_ne _ _ p1
      rw [this] at hr
      exact hr
    obtain ⟨y, ey, ty⟩ := ry_el J.1 (yg1 J).2.1 hr2
    rw [q] at ey
    rw [← Option.some.inj ey, hp, (yg1 J).2.2] at ty
    cases ty
  clear e1
  have ids1 := yG_idx I1
  intro _ a30 e30 _
  obtain rfl := Option.some.inj ((yg1 I1).1.symm.trans e30)
  unfold vJx4a65c_size_8abf5
  intro _
  rw [ids1.1]
  unfold vX8_init
  intro _ τ2 e2 τ4 e4 τ6 e6 _ u hu huz
  have I6 : yI_ s (fun a => False ∨ a = p) g κ (B + 1) n τ6 := by
    rw [e6, e4, e2]
    exact yI_si (by decide) (yI_srE (yI_160 I1 np) (.inr rfl) (by decide) (by decide) p0)
  have F6 : hx_ (fun _ => False) [] σ τ6 := by rw [e6, e4, e2]; exact hx_siP (hx_srP (hx_siP F1 hp) hp) hp
  have tp6 : xt τ6 p = 10 := by rw [e6, e4, e2]; exact tp1
  have a160 : xi τ6 160 p = s.1.1 := by rw [e6, e4, e2]; exact va_up_self _ _ _
  have a162 : xi τ6 162 p = jm := by rw [e6]; exact va_up_self _ _ _
  have az : ∀ f, f ∈ [165, 169, 170, 171] → xi τ6 f p = 0 := fun f hf => by
    rw [e6, e4, e2]
    simp at hf
    rcases hf with e | e | e | e <;> (rw [e]; exact i1 _)
  have r161 : xr τ6 161 p = bw := by rw [e6, e4, e2]; exact va_up_self _ _ _
  have r172 : xr τ6 172 p = none := by rw [e6, e4, e2]; exact r1 172
  clear e6 e4 e2 i1 r1 np I1 ids1
  have up : p ≠ u := fun e => by rw [e, hu] at tp6; omega
  have hu0 := hx_0 F6 hu
  refine vq_newL F6 hu (fun τ7 e7 F7 tu7 su7 t7 i7 r7 x7 _ τ8 e8 => ?_)
  have I7 := (yI_newL (t := 3) I6 hu (.inl rfl) e7).1
  clear e7
  have I8 : yI_ s (fun a => False ∨ a = p) g (va_up κ u 3) (B + 1 + 1) (n + 1) τ8 := by rw [e8]; exact yI_srE I7 (.inr rfl) (by decide) (by decide) p0
  have F8 : hx_ (fun _ => False) [] σ τ8 := by rw [e8]; exact hx_srP F7 hp
  have tp8 : xt τ8 p = 10 := by rw [e8]; exact (t7 p up).trans tp6
  have tu8 : xt τ8 u = 1 := by rw [e8]; exact tu7
  have r163 : xr τ8 163 p = some u := by rw [e8]; exact va_up_self _ _ _
  have r161' : xr τ8 161 p = bw := by rw [e8]; exact (r7 161 p up).trans r161
  have r172' : xr τ8 172 p = none := by rw [e8]; exact (r7 172 p up).trans r172
  have su8 : xi τ8 18 u = 0 := by rw [e8]; exact su7
  have i8 : ∀ f, xi τ8 f p = xi τ6 f p := fun f => by rw [e8]; exact i7 f p up
  clear e8 t7 i7 r7 x7 F7 I7
  have hbw8 : xr τ8 161 p = none ∨ ∃ h, xr τ8 161 p = some h ∧ xt τ8 h = 10 := by
    rw [r161']
    rcases hbw with y | ⟨q, y1, y2, y3⟩
    · exact .inl y.1
    · exact .inr ⟨T 10 q, y3, fg_tag F8.1 ((h1.2 q y2).1).2 (by decide)⟩
  have J8 : yJ_ s g (va_up κ u 3) (B + 1 + 1) (n + 1) τ8 := ⟨I8.1, yP_add I8.2.1 tp8 (fun x => absurd x (by decide)) (fun x => absurd x (by decide)) (fun x => absurd x (by decide)) (fun x => absurd x (by decide)) (fun _ => ⟨hbw8, ⟨u, r163, tu8, va_up_self _ _ _⟩, .inl r172'⟩) (by decide), I8.2.2⟩
  clear I8
  have Y8 : rk4_ σ N (g 1) u p nr 0 jm cr bw (fun _ => 0) (fun _ => 0) (va_up N p nr) τ8 := ⟨hx_mono F8 (fun _ x => x.elim), ⟨tp8, r163, tu8, by rw [su8]; rfl⟩, ⟨by rw [i8, a160]; exact hs, (i8 162).trans a162, fun f hf => (i8 f).trans (az f hf), r161', r172'⟩, ⟨fun x hx => N_new hp hx, va_up_self _ _ _⟩, fun j hj => absurd hj (Nat.not_lt_zero j)⟩
  have Lp : ∀ (f d : Nat) (i : Int32) (κ' : Nat → Nat) (B' n' : Nat) (C H M : Nat → Nat) (τ : kx_S), i.toInt = (d : Int) → d ≤ c → yJ_ s g κ' B' n' τ → κ' u = 3 → rk4_ σ N (g 1) u p nr d jm cr bw C H M τ → B' = B + 2 + 2 * d → n' = n + 1 + d → vX11_reach_117 (vX11_reach_148 Q) Q f (g 0) ln cr p i τ := by
    intro f
    induction f with
    | zero => intro d i κ' B' n' C H M τ _ _ _ _ _ _ _; exact True.intro
    | succ f ih =>
      intro d i κ' B' n' C H M τ hi hd J' kl Y' eB en
      refine ⟨fun q => ?_, fun q _ a10 e10 _ => ?_⟩
      · rw [ki_le] at q
        have ed : d = c := by omega
        subst ed
        exact vq_reachIn (by omega) (by omega) n10 J J' hs h n22 hu0 hln c12 c1 hbw z18 z21 z33 z2 Y' kk
      · rw [ki_le] at q
        obtain rfl := Option.some.inj (Y'.2.1.2.1.symm.trans e10)
        refine vq_newCell J' (by omega) (by omega) kl Y' (by omega) hcr (fun κ2 C2 H2 M2 τ2 J2 kl2 Y2 w ew => ?_)
        exact ih (d + 1) w κ2 (B' + 1 + 1) (n' + 1) C2 H2 M2 τ2 (by rw [ew]; exact ki_addN hi ki_z1 (by omega)) (by omega) J2 kl2 Y2 (by omega) (by omega)
  exact fun j => Lp j 0 0 _ _ _ _ _ _ τ8 ki_z0 (Nat.zero_le _) J8 (va_up_self _ _ _) Y8 (by omega) (by omega)
theorem vq_reach {nx ln cr jm : Int32} (hB3 : B ≤ 2100) (hn2 : n ≤ 155) (h10 : nr ≤ 10) (J : yJ_ s g κ B n σ) (hs : s.1.1.toInt = (nr : Int)) (A : ao_ nr nl a) (Z : zi_ nr nl a) (Z18 : ∀ r, nr ≤ r → a.1 18 r = 0 ∧ a.1 19 r = 0) (n22 : n22_ T N nr a) (h : qE_ T N g st na nr nl m day RL no nc a σ) : vX11_reach (g 0) nx ln cr jm σ (fun _ u => ∃ T' N', T' 20 = T 20 ∧ n22_ T' N' (if s.1.1 = 10 ∨ nx < -1 ∨ s.1.1 ≤ nx ∨ ln < 1 ∨ 12 < ln ∨ cr < 1 ∨ 20 < cr ∨ jm < 0 ∨ ¬ jm ≤ 1000 then nr else nr + 1) (ab_reach nx ln cr jm s a) ∧ qE_ T' N' g st na (if s.1.1 = 10 ∨ nx < -1 ∨ s.1.1 ≤ nx ∨ ln < 1 ∨ 12 < ln ∨ cr < 1 ∨ 20 < cr ∨ jm < 0 ∨ ¬ jm ≤ 1000 then nr else nr + 1) nl m day RL no nc (ab_reach nx ln cr jm s a) u) := by
  have H := h
  have h1 := h.2.1
  have ids := yG_idx J
  have z10 : (10 : Int32).toInt = 10 := by decide
  have z12 : (12 : Int32).toInt = 12 := by decide
  have z20 : (20 : Int32).toInt = 20 := by decide
  have z1000 : (1000 : Int32).toInt = 1000 := by decide
  have no_ : (s.1.1 = 10 ∨ nx < -1 ∨ s.1.1 ≤ nx ∨ ln < 1 ∨ 12 < ln ∨ cr < 1 ∨ 20 < cr ∨ jm < 0 ∨ ¬ jm ≤ 1000) → ∃ T' N', T' 20 = T 20 ∧ n22_ T' N' (if s.1.1 = 10 ∨ nx < -1 ∨ s.1.1 ≤ nx ∨ ln < 1 ∨ 12 < ln ∨ cr < 1 ∨ 20 < cr ∨ jm < 0 ∨ ¬ jm ≤ 1000 then nr else nr + 1) (ab_reach nx ln cr jm s a) ∧ qE_ T' N' g st na (if s.1.1 = 10 ∨ nx < -1 ∨ s.1.1 ≤ nx ∨ ln < 1 ∨ 12 < ln ∨ cr < 1 ∨ 20 < cr ∨ jm < 0 ∨ ¬ jm ≤ 1000 then nr else nr + 1) nl m day RL no nc (ab_reach nx ln cr jm s a) σ := fun c => ⟨T, N, by
    unfold ab_reach
    rw [if_pos c, if_pos c]
    exact ⟨rfl, n22, H⟩⟩
  have hp := ki_pred (x := xi σ 18 (g 1)) (n := nr) h1.1 (by omega)
  unfold vX11_reach
  intro _ a2 e2 _
  obtain rfl := Option.some.inj ((yg1 J).1.symm.trans e2)
  unfold vJx4a65c_size_8abf5
  intro _
  refine ⟨fun c => no_ (.inl ?_), fun c _ a45 e45 _ _ => ?_⟩
  · rw [ki_le, z10, h1.1] at c
    exact ki_eq.2 (by rw [z10, hs]; omega)
  rw [ki_le, z10, h1.1] at c
  refine vy_within (fun d => ⟨fun x => absurd rfl x, fun _ => no_ (.inr ?_)⟩) (fun c1 c2 => ⟨fun _ => ?_, fun x => absurd x (by decide)⟩)
  · obtain rfl := Option.some.inj ((yg1 J).1.symm.trans e45)
    rw [ki_zm, hp] at d
    rw [ki_lt, ki_zm, ki_le, hs]
    by_cases q : nx.toInt < -1
    · exact .inl q
    · exact .inr (.inl (by omega))
  obtain rfl := Option.some.inj ((yg1 J).1.symm.trans e45)
  rw [ki_zm] at c1
  rw [hp] at c2
  refine vy_within (fun d => ⟨fun _ => no_ (.inr (.inr (.inr ?_))), fun x => absurd rfl x⟩) (fun c3 c4 => ⟨fun x => absurd x (by decide), fun _ => ?_⟩)
  · rw [ki_z1, z12] at d
    rw [ki_lt (b := 1), ki_z1, ki_lt (b := ln), z12]
    by_cases q : ln.toInt < 1
    · exact .inl q
    · exact .inr (.inl (by omega))
  rw [ki_z1] at c3
  rw [z12] at c4
  refine vy_within (fun d => ⟨fun _ => no_ (.inr (.inr (.inr (.inr (.inr ?_))))), fun x => absurd rfl x⟩) (fun c5 c6 => ⟨fun x => absurd x (by decide), fun _ => ?_⟩)
  · rw [ki_z1, z20] at d
    rw [ki_lt (b := 1), ki_z1, ki_lt (b := cr), z20]
    by_cases q : cr.toInt < 1
    · exact .inl q
    · exact .inr (.inl (by omega))
  rw [ki_z1] at c5
  rw [z20] at c6
  refine vy_within (fun d => ⟨fun x => absurd rfl x, fun _ => no_ (.inr (.inr (.inr (.inr (.inr (.inr (.inr ?_)))))))⟩) (fun c7 c8 => ⟨fun _ => ?_, fun x => absurd x (by decide)⟩)
  · rw [ki_z0, z1000] at d
    rw [ki_lt, ki_z0, ki_le, z1000]
    by_cases q : jm.toInt < 0
    · exact .inl q
    · exact .inr (by omega)
  rw [ki_z0] at c7
  rw [z1000] at c8
  have ok : ¬ (s.1.1 = 10 ∨ nx < -1 ∨ s.1.1 ≤ nx ∨ ln < 1 ∨ 12 < ln ∨ cr < 1 ∨ 20 < cr ∨ jm < 0 ∨ ¬ jm ≤ 1000) := by
    intro q
    rw [ki_lt, ki_le, ki_lt, ki_lt, ki_lt, ki_lt, ki_lt, ki_le, ki_zm, ki_z1, z12, z20, ki_z0, z1000, hs] at q
    rcases q with q | q
    · have q' := congrArg Int32.toInt q
      rw [z10, hs] at q'
      omega
    · omega
  clear no_
  unfold ab_reach
  rw [if_neg ok, if_neg ok, ki_toN hs]
  obtain ⟨c0, hc0⟩ : ∃ k : Nat, ln.toInt = (k : Int) := ⟨ln.toInt.toNat, by omega⟩
  have z2 : ∀ c, c < 12 → a.2 (12 * nr + c) = [] := by
    intro d hd
    refine List.eq_nil_iff_forall_not_mem.2 (fun x hx => ?_)
    rcases (A.2.1 _ x hx).2 with ⟨r, d', y1, y2, y3⟩ | ⟨r, y1, y3⟩
    · have := (A.1 r y1).1
      omega
    · omega
  have z33 : ∀ c, c < 12 → a.1 33 (12 * nr + c) = 0 ∧ a.1 34 (12 * nr + c) = 0 := fun d hd => Z.2.2.1 nr d (by omega) hd (fun y => absurd y.1 (Nat.lt_irrefl _))
  have fin : ∀ bw, ((bw = none ∧ nx = -1) ∨ ∃ q : Nat, nx.toInt = (q : Int) ∧ q < nr ∧ bw = some (T 10 q)) → vX11_reach_90 (fun _ u => ∃ T' N', T' 20 = T 20 ∧ n22_ T' N' (nr + 1) (fs_ (fs_ (fs_ (fs_ a 13 nr nx) 14 nr ln) 15 nr cr) 16 nr jm) ∧ qE_ T' N' g st na (nr + 1) nl m day RL no nc (fs_ (fs_ (fs_ (fs_ a 13 nr nx) 14 nr ln) 15 nr cr) 16 nr jm) u) (g 0) ln cr jm bw σ := fun bw hbw => vq_reach90 hB3 hn2 (by omega) J hs H n22 hc0 (by omega) (by omega) c6 hbw (Z18 nr (Nat.le_refl _)) (Z.2.2.2 nr (Nat.le_refl _)) z33 z2 (fun u v T' N' e x y => ⟨T', N', e, x, y⟩)
  refine ⟨fun q => fin none (.inl ⟨rfl, ?_⟩), fun q _ a64 e64 _ => ?_⟩
  · rw [ki_lt, ki_z0] at q
    exact ki_eq.2 (by rw [ki_zm]; omega)
  · rw [ki_lt, ki_z0] at q
    obtain rfl := Option.some.inj ((yg1 J).1.symm.trans e64)
    obtain ⟨j, hj⟩ : ∃ k : Nat, nx.toInt = (k : Int) := ⟨nx.toInt.toNat, by omega⟩
    refine vy_get (fun _ _ => ?_)
    rw [ki_toN hj, ((h1.2 j (by omega)).1).1]
    intro a69 e69 _
    obtain rfl := Option.some.inj e69
    exact fin _ (.inr ⟨j, hj, by omega, rfl⟩)
end
