/-! the class: things that are made. X: the lists that may grow; W: the int fields that may be written -/
def hx_ (X : Nat → Prop) (W : List Nat) (σ τ : kx_S) : Prop := fg_ σ τ ∧ (∀ f b, f ∉ W → f ≠ 16 → f ≠ 18 → xt σ b ≠ 0 → xi τ f b = xi σ f b) ∧ (∀ l, xt σ l = 1 → ¬ X l → xi τ 18 l = xi σ 18 l) ∧ (∀ l, xt σ l = 1 → (xi σ 18 l).toInt ≤ (xi τ 18 l).toInt ∧ ∀ i : Nat, (i : Int) < (xi σ 18 l).toInt → xe τ l i = xe σ l i) ∧ ∀ b, xt σ b ≠ 0 → xai τ b = xai σ b
theorem hx_refl {X : Nat → Prop} {W : List Nat} {σ : kx_S} : hx_ X W σ σ := ⟨fg_refl, fun _ _ _ _ _ _ => rfl, fun _ _ _ => rfl, fun _ _ => ⟨Int.le_refl _, fun _ _ => rfl⟩, fun _ _ => rfl⟩
theorem hx_mono {X Y : Nat → Prop} {W : List Nat} {σ τ : kx_S} (h : hx_ X W σ τ) (s : ∀ l, X l → Y l) : hx_ Y W σ τ := ⟨h.1, h.2.1, fun l a b => h.2.2.1 l a (fun q => b (s l q)), h.2.2.2⟩
theorem hx_trans {X : Nat → Prop} {W : List Nat} {a b c : kx_S} (h : hx_ X W a b) (k : hx_ X W b c) : hx_ X W a c := by
  have tg : ∀ x, xt a x ≠ 0 → xt b x ≠ 0 := fun x hx => by rw [h.1.1 x hx]; exact hx
  refine ⟨fg_trans h.1 k.1, fun f x h1 h2 h3 h4 => (k.2.1 f x h1 h2 h3 (tg x h4)).trans (h.2.1 f x h1 h2 h3 h4), fun l h1 h2 => ?_, fun l h1 => ?_, fun x h1 => (k.2.2.2.2 x (tg x h1)).trans (h.2.2.2.2 x h1)⟩
  · exact (k.2.2.1 l (fg_tag h.1 h1 (by decide)) h2).trans (h.2.2.1 l h1 h2)
  · obtain ⟨p1, p2⟩ := h.2.2.2.1 l h1
    obtain ⟨q1, q2⟩ := k.2.2.2.1 l (fg_tag h.1 h1 (by decide))
    exact ⟨Int.le_trans p1 q1, fun i hi => (q2 i (by omega)).trans (p2 i hi)⟩
theorem hx_new {X : Nat → Prop} {W : List Nat} {σ τ : kx_S} {p t : Nat} (h : hx_ X W σ τ) (hp : xt τ p = 0) : hx_ X W σ (xnew τ p t) := by
  obtain ⟨h1, h2, h3, h4, h5⟩ := h
  have ne : ∀ b, xt σ b ≠ 0 → b ≠ p := fun b hb e => hb (by rw [← h1.1 b hb, e]; exact hp)
  have k18 : ∀ l, xt σ l = 1 → xi (xnew τ p t) 18 l = xi τ 18 l := fun l a1 => va_up_ne _ _ (ne l (by rw [a1]; decide))
  refine ⟨fg_trans h1 (fg_new hp), fun f b a1 a2 a3 a4 => (va_up_ne _ _ (ne b a4)).trans (h2 f b a1 a2 a3 a4), fun l a1 a2 => (k18 l a1).trans (h3 l a1 a2), fun l a1 => ⟨by rw [k18 l a1]; exact (h4 l a1).1, fun i hi => ?_⟩, h5⟩
  refine Eq.trans ?_ ((h4 l a1).2 i hi)
  have e : xr (xnew τ p t) 17 l = xr τ 17 l := va_up_ne _ _ (ne l (by rw [a1]; decide))
  unfold xe
  rw [e]
  rfl
theorem hx_siP {X : Nat → Prop} {W : List Nat} {σ τ : kx_S} {f p : Nat} {v : Int32} (h : hx_ X W σ τ) (hp : xt σ p = 0) : hx_ X W σ (xsi τ f p v) := by
  obtain ⟨h1, h2, h3, h4, h5⟩ := h
  have ne : ∀ b, xt σ b ≠ 0 → b ≠ p := fun b hb e => hb (by rw [e]; exact hp)
  have k : ∀ g b, xt σ b ≠ 0 → xi (xsi τ f p v) g b = xi τ g b := fun g b hb => by
    show (if g = f then va_up (τ.2.1 f) p v else τ.2.1 g) b = τ.2.1 g b
    by_cases c : g = f
    · rw [if_pos c, va_up_ne _ _ (ne b hb), c]
    · rw [if_neg c]
  have k18 : ∀ l, xt σ l = 1 → xi (xsi τ f p v) 18 l = xi τ 18 l := fun l a1 => k 18 l (by rw [a1]; decide)
  exact ⟨h1, fun g b a1 a2 a3 a4 => (k g b a4).trans (h2 g b a1 a2 a3 a4), fun l a1 a2 => (k18 l a1).trans (h3 l a1 a2), fun l a1 => ⟨by rw [k18 l a1]; exact (h4 l a1).1, (h4 l a1).2⟩, h5⟩
theorem hx_srP {X : Nat → Prop} {W : List Nat} {σ τ : kx_S} {f p : Nat} {v : Option Nat} (h : hx_ X W σ τ) (hp : xt σ p = 0) : hx_ X W σ (xsr τ f p v) := by
  obtain ⟨h1, h2, h3, h4, h5⟩ := h
  have ne : ∀ b, xt σ b ≠ 0 → b ≠ p := fun b hb e => hb (by rw [e]; exact hp)
  have k : ∀ g b, xt σ b ≠ 0 → xr (xsr τ f p v) g b = xr τ g b := fun g b hb => by
    show (if g = f then va_up (τ.2.2.1 f) p v else τ.2.2.1 g) b = τ.2.2.1 g b
    by_cases c : g = f
    · rw [if_pos c, va_up_ne _ _ (ne b hb), c]
    · rw [if_neg c]
  refine ⟨⟨h1.1, fun g b a1 a2 => (k g b a2).trans (h1.2.1 g b a1 a2), h1.2.2⟩, h2, h3, fun l a1 => ⟨(h4 l a1).1, fun i hi => ?_⟩, h5⟩
  refine Eq.trans ?_ ((h4 l a1).2 i hi)
  have e := k 17 l (by rw [a1]; decide)
  unfold xe
  rw [e]
  rfl
theorem hx_ya {X : Nat → Prop} {W : List Nat} {σ τ u : kx_S} {l y : Nat} (h : hx_ X W σ τ) (A : ya_ l y τ u) (hX : X l) (hs : 0 ≤ (xi τ 18 l).toInt ∧ (xi τ 18 l).toInt ≤ 100000) (hq : ∀ b, xt τ b ≠ 0 → xai u b = xai τ b) : hx_ X W σ u := by
  obtain ⟨h1, h2, h3, h4, h5⟩ := h
  obtain ⟨a1, a2, a3, a4, a5, a6, a7, a8⟩ := A
  have tg : ∀ b, xt σ b ≠ 0 → xt τ b ≠ 0 := fun b hb => by rw [h1.1 b hb]; exact hb
  have up : ∀ l', (xi τ 18 l').toInt ≤ (xi u 18 l').toInt := fun l' => by
    rw [a4]
    by_cases c : l' = l
    · rw [c, va_up_self, ki_add (by rw [ki_z1]; omega) (by rw [ki_z1]; omega), ki_z1]
      omega
    · rw [va_up_ne _ _ c]
      exact Int.le_refl _
  refine ⟨fg_trans h1 a1, fun f b b1 b2 b3 b4 => by rw [a3 f b2 b3]; exact h2 f b b1 b2 b3 b4, fun l' b1 b2 => ?_, fun l' b1 => ⟨Int.le_trans (h4 l' b1).1 (up l'), fun i hi => ?_⟩, fun b hb => (hq b (tg b hb)).trans (h5 b hb)⟩
  · rw [a4, va_up_ne _ _ (fun e => b2 (by rw [e]; exact hX))]
    exact h3 l' b1 b2
  · have t' : xt τ l' = 1 := fg_tag h1 b1 (by decide)
    obtain ⟨c1, c2⟩ := h4 l' b1
    rw [a6 l' t' i (by omega)]
    exact c2 i hi
section
variable {T : Nat → Nat → Nat} {N : Nat → Nat} {g κ : Nat → Nat} {st na nr nl nc no m : Nat} {day : Nat → Int32} {RL : Nat → List (Bool × List Int32)} {a : ra_T} {σ τ : kx_S} {X : Nat → Prop} {W : List Nat}
theorem q1_hx (h : q1_ T (g 1) nr a σ) (F : hx_ X W σ τ) (t1 : xt σ (g 1) = 1) (x1 : ¬ X (g 1)) (xc : ∀ r, r < nr → ¬ X (T 21 r)) (hW : ∀ f ∈ W, f ∉ [160, 162, 165, 169, 170, 171, 34, 35]) : q1_ T (g 1) nr a τ := by
  obtain ⟨h1, h2⟩ := h
  have f1 := F.2.2.1 (g 1) t1 x1
  have f2 := (F.2.2.2.1 (g 1) t1).2
  refine ⟨by rw [f1]; exact h1, fun r hr => ?_⟩
  obtain ⟨⟨a1, a2⟩, a3, ⟨a4, a5, a6, a7, a8⟩, a9, a10, a11, a12, a13, a14⟩ := h2 r hr
  have tR : xt σ (T 10 r) ≠ 0 := by rw [a2]; decide
  have xk : ∀ {f b : Nat}, f ∈ [160, 162, 165, 169, 170, 171, 34, 35] → xt σ b ≠ 0 → xi τ f b = xi σ f b := fun {f b} hf hb => F.2.1 f b (fun q => hW f q hf) (by intro e; rw [e] at hf; exact absurd hf (by decide)) (by intro e; rw [e] at hf; exact absurd hf (by decide)) hb
  have c1 := F.2.2.1 (T 21 r) a12 (xc r hr)
  refine ⟨⟨by rw [f2 r (by omega)]; exact a1, fg_tag F.1 a2 (by decide)⟩, by rw [xk (by decide) tR]; exact a3, ⟨by rw [xk (by decide) tR]; exact a4, by rw [xk (by decide) tR]; exact a5, by rw [xk (by decide) tR]; exact a6, by rw [xk (by decide) tR]; exact a7, by rw [xk (by decide) tR]; exact a8⟩, ?_, ?_, by rw [F.1.2.1 163 _ (by decide) tR]; exact a11, fg_tag F.1 a12 (by decide), by rw [c1]; exact a13, a14⟩
  · rw [F.1.2.1 161 _ (by decide) tR]
    exact a9
  · rw [F.1.2.1 172 _ (by decide) tR]
    rcases a10 with q | ⟨q1, q2, q3, q4, q5, q6, q7⟩
    · exact .inl q
    · have tB : xt σ (T 2 r) ≠ 0 := by rw [q3]; decide
      exact .inr ⟨q1, q2, fg_tag F.1 q3 (by decide), by rw [F.1.2.1 32 _ (by decide) tB]; exact q4, by rw [F.1.2.1 33 _ (by decide) tB]; exact q5, by rw [xk (by decide) tB]; exact q6, by rw [xk (by decide) tB]; exact q7⟩
theorem q2_hx (h : q2_ T nr a σ) (h1 : q1_ T (g 1) nr a σ) (F : hx_ X W σ τ) (hW : ∀ f ∈ W, f ∉ [48, 50, 51]) : q2_ T nr a τ := by
  intro r hr c hc
  obtain ⟨⟨a1, a2⟩, a3, a4, a5, a6⟩ := h r hr c hc
  obtain ⟨_, _, _, _, _, b1, b2, b3, b4⟩ := h1.2 r hr
  have c2 := (F.2.2.2.1 (T 21 r) b2).2
  have tC : xt σ (T 3 (12 * r + c)) ≠ 0 := by rw [a2]; decide
  have xk : ∀ {f : Nat}, f ∈ [48, 50, 51] → xi τ f (T 3 (12 * r + c)) = xi σ f (T 3 (12 * r + c)) := fun {f} hf => F.2.1 f _ (fun q => hW f q hf) (by intro e; rw [e] at hf; exact absurd hf (by decide)) (by intro e; rw [e] at hf; exact absurd hf (by decide)) tC
  exact ⟨⟨by rw [c2 c (by omega)]; exact a1, fg_tag F.1 a2 (by decide)⟩, by rw [xk (by decide)]; exact a3, by rw [F.1.2.1 49 _ (by decide) tC]; exact a4, by rw [xk (by decide)]; exact a5, by rw [xk (by decide)]; exact a6⟩
theorem q3_hx (h : q3_ T nr a σ) (F : hx_ X W σ τ) (hX : ∀ k, vk_ nr a k → ¬ X (T 1 k)) : q3_ T nr a τ := by
  intro k hk
  obtain ⟨a1, a2, a3⟩ := h k hk
  refine ⟨fg_tag F.1 a1 (by decide), by rw [F.2.2.1 _ a1 (hX k hk)]; exact a2, fun i x hx => ?_⟩
  have hlt := (List.getElem?_eq_some_iff.1 hx).1
  rw [(F.2.2.2.1 _ a1).2 i (by omega)]
  exact a3 i x hx
theorem q4_hx (h : q4_ T (g 2) nl a σ) (F : hx_ X W σ τ) (t2 : xt σ (g 2) = 1) (x2 : ¬ X (g 2)) (hW : ∀ f ∈ W, f ∉ [128, 129, 130, 131, 132, 133, 134, 135, 136]) : q4_ T (g 2) nl a τ := by
  obtain ⟨h1, h2⟩ := h
  have f1 := F.2.2.1 (g 2) t2 x2
  have f2 := (F.2.2.2.1 (g 2) t2).2
  refine ⟨by rw [f1]; exact h1, fun j hj => ?_⟩
  obtain ⟨⟨a1, a2⟩, a3, ⟨a4, a5, a6⟩, a7, a8, a9, a10, a11⟩ := h2 j hj
  have tL : xt σ (T 8 j) ≠ 0 := by rw [a2]; decide
  have xk : ∀ {f : Nat}, f ∈ [128, 129, 130, 131, 132, 133, 134, 135, 136] → xi τ f (T 8 j) = xi σ f (T 8 j) := fun {f} hf => F.2.1 f _ (fun q => hW f q hf) (by intro e; rw [e] at hf; exact absurd hf (by decide)) (by intro e; rw [e] at hf; exact absurd hf (by decide)) tL
  exact ⟨⟨by rw [f2 j (by omega)]; exact a1, fg_tag F.1 a2 (by decide)⟩, by rw [xk (by decide)]; exact a3, ⟨by rw [xk (by decide)]; exact a4, by rw [xk (by decide)]; exact a5, by rw [xk (by decide)]; exact a6⟩, by rw [xk (by decide)]; exact a7, by rw [xk (by decide)]; exact a8, by rw [xk (by decide)]; exact a9, by rw [xk (by decide)]; exact a10, by rw [xk (by decide)]; exact a11⟩
theorem q5_hx (h : q5_ T N (g 4) nr nc a σ) (F : hx_ X W σ τ) (t4 : xt σ (g 4) = 1) (x4 : ¬ X (g 4)) (hW : 65 ∉ W) : q5_ T N (g 4) nr nc a τ := by
  obtain ⟨h1, h2, h3⟩ := h
  have f2 := (F.2.2.2.1 (g 4) t4).2
  refine ⟨by rw [F.2.2.1 (g 4) t4 x4]; exact h1, h2, fun k hk => ?_⟩
  obtain ⟨⟨a1, a2⟩, a3, a4, a5⟩ := h3 k hk
  have tC : xt σ (T 4 k) ≠ 0 := by rw [a2]; decide
  exact ⟨⟨by rw [f2 k (by omega)]; exact a1, fg_tag F.1 a2 (by decide)⟩, by rw [F.1.2.1 64 _ (by decide) tC]; exact a3, by rw [F.2.1 65 _ hW (by decide) (by decide) tC]; exact a4, a5⟩
theorem q6_hx (h : q6_ T N (g 5) nr no a σ) (F : hx_ X W σ τ) (t5 : xt σ (g 5) = 1) (x5 : ¬ X (g 5)) (x22 : ∀ r, r < nr → ¬ a.1 22 r = 0 → ¬ X (T 22 r)) (hW : ∀ f ∈ W, f ∉ [144, 145, 146]) : q6_ T N (g 5) nr no a τ := by
  obtain ⟨h1, h2, h3, h4⟩ := h
  have f2 := (F.2.2.2.1 (g 5) t5).2
  refine ⟨by rw [F.2.2.1 (g 5) t5 x5]; exact h1, h2, fun o ho => ?_, fun r hr hb => ?_⟩
  · obtain ⟨⟨a1, a2⟩, a3, a4, a5, a6, a7⟩ := h3 o ho
    have tO : xt σ (T 9 o) ≠ 0 := by rw [a2]; decide
    have xk : ∀ {f : Nat}, f ∈ [144, 145, 146] → xi τ f (T 9 o) = xi σ f (T 9 o) := fun {f} hf => F.2.1 f _ (fun q => hW f q hf) (by intro e; rw [e] at hf; exact absurd hf (by decide)) (by intro e; rw [e] at hf; exact absurd hf (by decide)) tO
    exact ⟨⟨by rw [f2 o (by omega)]; exact a1, fg_tag F.1 a2 (by decide)⟩, by rw [xk (by decide)]; exact a3, by rw [xk (by decide)]; exact a4, by rw [xk (by decide)]; exact a5, a6, a7⟩
  · obtain ⟨b1, b2, b3⟩ := h4 r hr hb
    have c2 := (F.2.2.2.1 (T 22 r) b1).2
    refine ⟨fg_tag F.1 b1 (by decide), by rw [F.2.2.1 _ b1 (x22 r hr hb)]; exact b2, fun i o hi => ?_⟩
    have hlt := (List.getElem?_eq_some_iff.1 hi).1
    rw [c2 i (by omega)]
    exact b3 i o hi
theorem q7_hx (h : q7_ T (g 3) m day RL st na σ) (F : hx_ X W σ τ) (t3 : xt σ (g 3) = 1) (x3 : ¬ X (g 3)) (hW : 96 ∉ W) : q7_ T (g 3) m day RL st na τ := by
  obtain ⟨h1, h2, h3⟩ := h
  have f2 := (F.2.2.2.1 (g 3) t3).2
  refine ⟨by rw [F.2.2.1 (g 3) t3 x3]; exact h1, h2, fun i hi => ?_⟩
  obtain ⟨⟨a1, a2⟩, a3, ⟨⟨b1, b2, b3, b4⟩, b5⟩, a4, a5, a6⟩ := h3 i hi
  have t6 : xt σ (T 6 i) ≠ 0 := by rw [a2]; decide
  have t20 : xt σ (T 20 i) ≠ 0 := by rw [b5]; decide
  refine ⟨⟨by rw [f2 i (by omega)]; exact a1, fg_tag F.1 a2 (by decide)⟩, by rw [F.2.1 96 _ hW (by decide) (by decide) t6]; exact a3, ⟨⟨by rw [F.1.2.1 97 _ (by decide) t6]; exact b1, by rw [F.1.2.2.1 _ t20]; exact b2, b3, fun j hj => ?_⟩, fg_tag F.1 b5 (by decide)⟩, a4, a5, a6⟩
  rw [F.2.2.2.2 _ t20]
  exact b4 j hj
theorem qj_hx (h : qj_ (g 8) st na σ) (F : hx_ X W σ τ) : qj_ (g 8) st na τ := by
  obtain ⟨⟨a1, a2, a3, a4, a5⟩, b1, b2, b3⟩ := h
  refine ⟨⟨?_, ?_, ?_, ?_, a5⟩, fg_tag F.1 b1 (by decide), fg_tag F.1 b2 (by decide), fg_tag F.1 b3 (by decide)⟩
  · rw [F.1.2.1 80 _ (by decide) (by rw [b1]; decide)]; exact a1
  · rw [F.1.2.1 81 _ (by decide) (by rw [b1]; decide)]; exact a2
  · rw [F.1.2.2.1 _ (by rw [b2]; decide)]; exact a3
  · rw [F.1.2.2.1 _ (by rw [b3]; decide)]; exact a4
end
