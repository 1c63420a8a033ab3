/-! the class at a call's bounds: nothing of kinds and budgets -/
def q0n_ (T : Nat → Nat → Nat) (N : Nat → Nat) (nr nl : Nat) (a : ra_T) : Prop := (∀ k, vk_ nr a k → N (T 1 k) = k) ∧ (∀ r c, r < nr → c < ln_ a r → N (T 3 (12 * r + c)) = 12 * r + c) ∧ (∀ r, r < nr → N (T 10 r) = r) ∧ ∀ j, j < nl → N (T 8 j) = j
def qE_ (T : Nat → Nat → Nat) (N g : Nat → Nat) (st na nr nl m : Nat) (day : Nat → Int32) (RL : Nat → List (Bool × List Int32)) (no nc : Nat) (a : ra_T) (σ : kx_S) : Prop := q0n_ T N nr nl a ∧ q1_ T (g 1) nr a σ ∧ q2_ T nr a σ ∧ q3_ T nr a σ ∧ q4_ T (g 2) nl a σ ∧ q7_ T (g 3) m day RL st na σ ∧ qj_ (g 8) st na σ ∧ q6_ T N (g 5) nr no a σ ∧ xi σ 218 (g 0) = a.1 6 0 ∧ q5_ T N (g 4) nr nc a σ
section
variable {T : Nat → Nat → Nat} {N : Nat → Nat} {g κ : Nat → Nat} {st na nr nl nc no m : Nat} {day : Nat → Int32} {RL : Nat → List (Bool × List Int32)} {s : sz_T} {B n : Nat} {a : ra_T} {w : wt_T} {σ τ : kx_S}
theorem qF_E (h : qF_ T N g κ st na nr nl m day RL s B n no nc a w σ) : qE_ T N g st na nr nl m day RL no nc a σ := by
  obtain ⟨⟨⟨J, h0, h1, h2, h3, h4, h7, hj⟩, h6, hb, k22⟩, h5, V⟩ := h
  exact ⟨⟨fun k hk => (h0.1 k hk).2.2, h0.2.1, fun r hr => (h0.2.2.1 r hr).2, h0.2.2.2⟩, h1, h2, h3, h4, h7, hj, h6, hb, h5⟩
theorem qE_q0 (J : yJ_ s g κ B n σ) (h : qE_ T N g st na nr nl m day RL no nc a σ) : q0_ T N g κ nr nl a ∧ ∀ r, r < nr → ¬ a.1 22 r = 0 → κ (T 22 r) = 9 ∧ T 22 r ≠ g 5 := by
  obtain ⟨h0, h1, h2, h3, h4, h7, hj, h6, hb, h5⟩ := h
  have kb : ∀ r, r < nr → ¬ a.1 22 r = 0 → (κ (T 1 (120 + r)) = 8 ∧ T 1 (120 + r) ≠ g 2) ∧ κ (T 22 r) = 9 ∧ T 22 r ≠ g 5 := by
    intro r hr hz
    obtain ⟨_, _, _, _, b172, _⟩ := h1.2 r hr
    rcases b172 with z | ⟨_, _, z3, z4, z5, _⟩
    · exact absurd z.2 hz
    · obtain ⟨⟨x, x1, x2, x3, x4⟩, y, y1, y2, y3, y4⟩ := yp2 J z3
      obtain rfl := Option.some.inj (z4.symm.trans x1)
      obtain rfl := Option.some.inj (z5.symm.trans y1)
      exact ⟨⟨x3, x4⟩, y3, y4⟩
  refine ⟨⟨fun k hk => ?_, h0.2.1, fun r hr => ⟨?_, h0.2.2.1 r hr⟩, h0.2.2.2⟩, fun r hr hz => (kb r hr hz).2⟩
  · refine ⟨?_, ?_, h0.1 k hk⟩
    · rcases hk with ⟨r, c, hr, hc, rfl⟩ | ⟨r, hr, hz, rfl⟩
      · obtain ⟨⟨_, b2⟩, _, b4, _⟩ := h2 r hr c hc
        obtain ⟨x, x1, x2, x3, x4⟩ := yp3 J b2
        obtain rfl := Option.some.inj (b4.symm.trans x1)
        exact x3
      · exact (kb r hr hz).1.1
    · rcases hk with ⟨r, c, hr, hc, rfl⟩ | ⟨r, hr, hz, rfl⟩
      · obtain ⟨⟨_, b2⟩, _, b4, _⟩ := h2 r hr c hc
        obtain ⟨x, x1, x2, x3, x4⟩ := yp3 J b2
        obtain rfl := Option.some.inj (b4.symm.trans x1)
        exact x4
      · exact (kb r hr hz).1.2
  · obtain ⟨⟨_, b2⟩, _, _, _, _, b11, _⟩ := h1.2 r hr
    obtain ⟨_, ⟨x, x1, x2, x3⟩, _⟩ := yp10 J b2
    obtain rfl := Option.some.inj (b11.symm.trans x1)
    exact x3
theorem qE_F (J : yJ_ s g κ B n σ) (h : qE_ T N g st na nr nl m day RL no nc a σ) (V : Yw_ nr w (g 0) σ) : qF_ T N g κ st na nr nl m day RL s B n no nc a w σ := by
  obtain ⟨z1, z2⟩ := qE_q0 J h
  obtain ⟨h0, h1, h2, h3, h4, h7, hj, h6, hb, h5⟩ := h
  exact ⟨⟨⟨J, z1, h1, h2, h3, h4, h7, hj⟩, h6, hb, fun r hr hz => (z2 r hr hz).1⟩, h5, V⟩
theorem qE_bump (h : qE_ T N g st na nr nl m day RL no nc a σ) : qE_ T N g st na nr nl m day RL no nc a (xbump σ) := h
/-- nothing but fields of W changed -/
def nW_ (W : List Nat) (σ τ : kx_S) : Prop := (∀ f b, f ∉ W → xi τ f b = xi σ f b) ∧ τ.1 = σ.1 ∧ (∀ f b, f ∉ W → xr τ f b = xr σ f b) ∧ xn τ = xn σ ∧ xai τ = xai σ ∧ τ.2.2.2.2.2.2.2.1 = σ.2.2.2.2.2.2.2.1 ∧ xz τ = xz σ
theorem nW_refl {W : List Nat} : nW_ W σ σ := ⟨fun _ _ _ => rfl, rfl, fun _ _ _ => rfl, rfl, rfl, rfl, rfl⟩
theorem nW_fw {W : List Nat} (hW : ∀ x ∈ W, x < 1000 ∨ x = 1005) : fw_ (nW_ W σ) W := by
  intro u h
  refine ⟨fun f hf => ⟨fun b v => ⟨fun e x he => ?_, h.2⟩, fun b v => ⟨h.1, h.2.1, fun e x he => ?_, h.2.2.2⟩, fun b v => h⟩, fun q => absurd (hW _ q) (by decide), fun q => absurd (hW _ q) (by decide), fun q => absurd (hW _ q) (by decide), fun q => absurd (hW _ q) (by decide), fun _ => h, fun t ht => ?_, fun t ht => ?_⟩
  · refine Eq.trans ?_ (h.1 e x he)
    show (if e = f then va_up (u.2.1 f) b v else u.2.1 e) x = u.2.1 e x
    rw [if_neg (fun q => he (by rw [q]; exact hf))]
  · refine Eq.trans ?_ (h.2.2.1 e x he)
    show (if e = f then va_up (u.2.2.1 f) b v else u.2.2.1 e) x = u.2.2.1 e x
    rw [if_neg (fun q => he (by rw [q]; exact hf))]
  · have := hW _ ht
    omega
  · have := hW _ ht
    omega
theorem nW_xe {W : List Nat} (h : nW_ W σ τ) (h17 : 17 ∉ W) (l i : Nat) : xe τ l i = xe σ l i := by
  have e1 : xr τ 17 l = xr σ 17 l := h.2.2.1 17 l h17
  unfold xe
  rw [e1]
  split
  · show τ.2.2.2.2.2.2.2.1 _ _ = σ.2.2.2.2.2.2.2.1 _ _
    rw [h.2.2.2.2.2.1]
  · rfl
abbrev qE_W : List Nat := [17, 18, 32, 33, 34, 35, 48, 49, 50, 51, 64, 65, 80, 81, 96, 97, 128, 129, 130, 131, 132, 133, 134, 135, 136, 144, 145, 146, 160, 161, 162, 163, 165, 169, 170, 171, 172, 218]
theorem qE_nW {W : List Nat} (h : qE_ T N g st na nr nl m day RL no nc a σ) (F : nW_ W σ τ) (hW : ∀ f ∈ W, f ∉ qE_W) : qE_ T N g st na nr nl m day RL no nc a τ := by
  have k : ∀ f, f ∈ qE_W → f ∉ W := fun f hf q => hW f q hf
  have ki : ∀ f, f ∈ qE_W → ∀ x, xi τ f x = xi σ f x := fun f hf x => F.1 f x (k f hf)
  have kr : ∀ f, f ∈ qE_W → ∀ x, xr τ f x = xr σ f x := fun f hf x => F.2.2.1 f x (k f hf)
  have kt : ∀ x, xt τ x = xt σ x := fun x => by show τ.1 x = σ.1 x; rw [F.2.1]
  have ke : ∀ l i, xe τ l i = xe σ l i := nW_xe F (k 17 (by decide))
  have kn : ∀ x, xn τ x = xn σ x := fun x => by rw [F.2.2.2.1]
  have ka : ∀ x i, xai τ x i = xai σ x i := fun x i => by rw [F.2.2.2.2.1]
  obtain ⟨h0, h1, h2, h3, h4, h7, hj, h6, hb, h5⟩ := h
  refine ⟨h0, ?_, ?_, ?_, ?_, ?_, ?_, ?_, ?_, ?_⟩
  · unfold q1_ at h1 ⊢
    simp only [ke, kt, ki 18 (by decide), ki 160 (by decide), ki 162 (by decide), ki 165 (by decide), ki 169 (by decide), ki 170 (by decide), ki 171 (by decide), ki 34 (by decide), ki 35 (by decide), kr 161 (by decide), kr 172 (by decide), kr 32 (by decide), kr 33 (by decide), kr 163 (by decide)]
    exact h1
  · unfold q2_ at h2 ⊢
    simp only [ke, kt, ki 48 (by decide), ki 50 (by decide), ki 51 (by decide), kr 49 (by decide)]
    exact h2
  · unfold q3_ at h3 ⊢
    simp only [ke, kt, ki 18 (by decide)]
    exact h3
  · unfold q4_ at h4 ⊢
    simp only [ke, kt, ki 18 (by decide), ki 128 (by decide), ki 129 (by decide), ki 130 (by decide), ki 131 (by decide), ki 132 (by decide), ki 133 (by decide), ki 134 (by decide), ki 135 (by decide), ki 136 (by decide)]
    exact h4
  · unfold q7_ lc_ at h7 ⊢
    simp only [ke, kt, kn, ka, ki 18 (by decide), ki 96 (by decide), kr 97 (by decide)]
    exact h7
  · unfold qj_ j0_ at hj ⊢
    simp only [kt, kn, kr 80 (by decide), kr 81 (by decide)]
    exact hj
  · unfold q6_ at h6 ⊢
    simp only [ke, kt, ki 18 (by decide), ki 144 (by decide), ki 145 (by decide), ki 146 (by decide)]
    exact h6
  · rw [ki 218 (by decide)]; exact hb
  · unfold q5_ at h5 ⊢
    simp only [ke, kt, ki 18 (by decide), ki 65 (by decide), kr 64 (by decide)]
    exact h5
theorem q6_f {g5 : Nat} {b : ra_T} (h : q6_ T N g5 nr no a σ) (e : ∀ f, f ∈ [22, 47, 48, 49, 50] → b.1 f = a.1 f) : q6_ T N g5 nr no b σ := by
  unfold q6_ at h ⊢
  have o : ∀ r, od_ b r no 0 = od_ a r no 0 := fun r => od_qm (e 47 (by decide)) no 0
  simp only [o, e 22 (by decide), e 47 (by decide), e 48 (by decide), e 49 (by decide), e 50 (by decide)]
  exact h
theorem q1_165 {q : Nat} {v : Int32} (h : q1_ T (g 1) nr a σ) (hN : ∀ r, r < nr → N (T 10 r) = r) (hq : q < nr) : q1_ T (g 1) nr (fs_ a 21 q v) (xsi σ 165 (T 10 q) v) := by
  refine ⟨h.1, fun r hr => ?_⟩
  obtain ⟨a1, a2, ⟨a4, a5, a6, a7, a8⟩, a9⟩ := h.2 r hr
  refine ⟨a1, a2, ⟨a4, ?_, a6, a7, a8⟩, a9⟩
  show va_up (xi σ 165) (T 10 q) v (T 10 r) = upd (a.1 21) q v r
  by_cases c : r = q
  · rw [c, va_up_self, w_updS]
  · rw [va_up_ne _ _ (fun e => c (by rw [← hN r hr, e, hN q hq])), w_updN c]
    exact a5
theorem q1_171 {q : Nat} {v : Int32} (h : q1_ T (g 1) nr a σ) (hN : ∀ r, r < nr → N (T 10 r) = r) (hq : q < nr) : q1_ T (g 1) nr (fs_ a 23 q v) (xsi σ 171 (T 10 q) v) := by
  refine ⟨h.1, fun r hr => ?_⟩
  obtain ⟨a1, a2, ⟨a4, a5, a6, a7, a8⟩, a9⟩ := h.2 r hr
  refine ⟨a1, a2, ⟨a4, a5, a6, a7, ?_⟩, a9⟩
  show va_up (xi σ 171) (T 10 q) v (T 10 r) = upd (a.1 23) q v r
  by_cases c : r = q
  · rw [c, va_up_self, w_updS]
  · rw [va_up_ne _ _ (fun e => c (by rw [← hN r hr, e, hN q hq])), w_updN c]
    exact a8
theorem vq_dam {r v : Int32} (h10 : nr ≤ 10) (hs : s.1.1.toInt = (nr : Int)) (J : yJ_ s g κ B n σ) (h : qE_ T N g st na nr nl m day RL no nc a σ) : vX11_dam (g 0) r v σ (fun _ u => qE_ T N g st na nr nl m day RL no nc (ab_dam r v s a) u) (fun _ u => qE_ T N g st na nr nl m day RL no nc (ab_dam r v s a) u) := by
  have H := h
  obtain ⟨h0, h1, h2, h3, h4, h7, hj, h6, hb, h5⟩ := h
  have z0 : (100000 : Int32).toInt = 100000 := by decide
  have no_ : ¬ (z_is r s ∧ ¬ (v < 0 ∨ ¬ v ≤ 100000)) → ab_dam r v s a = a := fun c => if_neg c
  unfold vX11_dam
  intro _
  refine vq_reachAt h10 J h1 (fun q hq hlt => ?_) (fun c => ?_)
  · have hz : z_is r s := ⟨by omega, by omega⟩
    refine vy_within (fun d => ⟨fun x => absurd rfl x, fun _ => ?_⟩) (fun c1 c2 => ⟨fun _ _ => ?_, fun x => absurd x (by decide)⟩)
    · rw [no_ (fun x => x.2 (by rw [ki_lt, ki_z0, ki_le, z0]; rw [ki_z0, z0] at d; omega))]
      exact H
    · rintro σ8 rfl σ10 rfl
      have ea : ab_dam r v s a = fs_ a 21 q 1 := by
        unfold ab_dam
        rw [if_pos ⟨hz, by rw [ki_lt, ki_z0, ki_le, z0]; rw [ki_z0] at c1; rw [z0] at c2; omega⟩, ki_toN hq]
      rw [ea]
      have r1 := q1_165 (v := 1) h1 h0.2.2.1 hlt
      have r6 := q6_f (b := fs_ a 21 q 1) h6 (fun f hf => fs_n (by intro e; rw [e] at hf; exact absurd hf (by decide)))
      exact ⟨h0, r1, h2, h3, h4, h7, hj, r6, hb, h5⟩
  · rw [no_ (fun x => c ⟨x.1.1, by have := x.1.2; omega⟩)]
    exact H
theorem vq_watch {r v : Int32} (h10 : nr ≤ 10) (hs : s.1.1.toInt = (nr : Int)) (J : yJ_ s g κ B n σ) (h : qE_ T N g st na nr nl m day RL no nc a σ) : vX11_watch (g 0) r v σ (fun _ u => qE_ T N g st na nr nl m day RL no nc (ab_watch r v s a) u) (fun _ u => qE_ T N g st na nr nl m day RL no nc (ab_watch r v s a) u) := by
  have H := h
  obtain ⟨h0, h1, h2, h3, h4, h7, hj, h6, hb, h5⟩ := h
  unfold vX11_watch
  intro _
  refine vq_reachAt h10 J h1 (fun q hq hlt => ?_) (fun c => ?_)
  · have hz : z_is r s := ⟨by omega, by omega⟩
    rintro - v5 - - σ7 rfl -
    have ea : ab_watch r v s a = fs_ a 23 q v := by
      unfold ab_watch
      rw [if_pos hz, ki_toN hq]
    rw [ea]
    have r1 := q1_171 (v := v) h1 h0.2.2.1 hlt
    have r6 := q6_f (b := fs_ a 23 q v) h6 (fun f hf => fs_n (by intro e; rw [e] at hf; exact absurd hf (by decide)))
    exact ⟨h0, r1, h2, h3, h4, h7, hj, r6, hb, h5⟩
  · have ea : ab_watch r v s a = a := if_neg (fun x => c ⟨x.1, by have := x.2; omega⟩)
    rw [ea]
    exact H
end
