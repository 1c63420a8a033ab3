/-! the class: a log that is cut -/
def n22_ (T : Nat → Nat → Nat) (N : Nat → Nat) (nr : Nat) (a : ra_T) : Prop := ∀ r, r < nr → ¬ a.1 22 r = 0 → N (T 22 r) = r
section
variable {T : Nat → Nat → Nat} {N : Nat → Nat} {g κ : Nat → Nat} {st na nr nl nc no m : Nat} {day : Nat → Int32} {RL : Nat → List (Bool × List Int32)} {s : sz_T} {B n : Nat} {a : ra_T} {σ τ : kx_S} {p : Nat}
def t8_ (T : Nat → Nat → Nat) (k i p : Nat) : Nat → Nat → Nat := fun j => if j = k then va_up (T k) i p else T j
theorem N_new {x v : Nat} (hp : xt σ p = 0) (hx : xt σ x ≠ 0) : va_up N p v x = N x := va_up_ne _ _ (fun e => hx (by rw [e]; exact hp))
theorem vq_cut {mk z t : Int32} (hB : B + 1 ≤ 3000) (hn : n ≤ 200) (l4 : nl ≤ 400) (hs : s.1.2.1.toInt = (nl : Int)) (A2 : ∀ k x, x ∈ a.2 k → x < nl) (z41 : a.1 41 nl = 0) (n22 : n22_ T N nr a) (J : yJ_ s g κ B n σ) (h : qE_ T N g st na nr nl m day RL no nc a σ) : vX11_cut (g 0) mk z t σ (fun _ u => ∃ T' N', T' 20 = T 20 ∧ n22_ T' N' nr (ab_cut mk z t s a) ∧ qE_ T' N' g st na nr (if s.1.2.1 = 400 ∨ mk < 0 ∨ 15 < mk ∨ z < 1 ∨ 9 < z ∨ t < 0 ∨ ¬ t ≤ 1000000 then nl else nl + 1) m day RL no nc (ab_cut mk z t s a) u) := by
  have H := h
  obtain ⟨Q0, Q22⟩ := qE_q0 J h
  obtain ⟨h0, h1, h2, h3, h4, h7, hj, h6, hb, h5⟩ := h
  have ids := yG_idx J
  have z400 : (400 : Int32).toInt = 400 := by decide
  have z15 : (15 : Int32).toInt = 15 := by decide
  have z9 : (9 : Int32).toInt = 9 := by decide
  have zM : (1000000 : Int32).toInt = 1000000 := by decide
  have no_ : (s.1.2.1 = 400 ∨ mk < 0 ∨ 15 < mk ∨ z < 1 ∨ 9 < z ∨ t < 0 ∨ ¬ t ≤ 1000000) → ∃ T' N', T' 20 = T 20 ∧ n22_ T' N' nr (ab_cut mk z t s a) ∧ qE_ T' N' g st na nr (if s.1.2.1 = 400 ∨ mk < 0 ∨ 15 < mk ∨ z < 1 ∨ 9 < z ∨ t < 0 ∨ ¬ t ≤ 1000000 then nl else nl + 1) m day RL no nc (ab_cut mk z t s a) σ := fun c => ⟨T, N, by
    unfold ab_cut
    rw [if_pos c, if_pos c]
    exact ⟨rfl, n22, H⟩⟩
  unfold vX11_cut
  intro _ a2 e2 _
  obtain rfl := Option.some.inj ((yg2 J).1.symm.trans e2)
  unfold vJx4a65c_size_8abf5
  intro _
  rw [ids.2.1, ki_le, z400, hs]
  refine ⟨fun c => no_ (.inl (ki_eq.2 (by rw [z400, hs]; omega))), fun c => ?_⟩
  refine vy_within (fun d => ⟨fun x => absurd rfl x, fun _ => no_ (.inr ?_)⟩) (fun c1 c2 => ⟨fun _ => ?_, fun x => absurd x (by decide)⟩)
  · rw [ki_z0, z15] at d
    rw [ki_lt, ki_z0, ki_lt, z15]
    by_cases q : mk.toInt < 0
    · exact .inl q
    · exact .inr (.inl (by omega))
  rw [ki_z0] at c1
  rw [z15] at c2
  refine vy_within (fun d => ⟨fun _ => no_ (.inr (.inr (.inr ?_))), fun x => absurd rfl x⟩) (fun c3 c4 => ⟨fun x => absurd x (by decide), fun _ => ?_⟩)
  · rw [ki_z1, z9] at d
    rw [ki_lt (b := 1), ki_z1, ki_lt (b := z), z9]
    by_cases q : z.toInt < 1
    · exact .inl q
    · exact .inr (.inl (by omega))
  rw [ki_z1] at c3
  rw [z9] at c4
  refine vy_within (fun d => ⟨fun x => absurd rfl x, fun _ => no_ (.inr (.inr (.inr (.inr (.inr ?_)))))⟩) (fun c5 c6 => ⟨fun _ => ?_, fun x => absurd x (by decide)⟩)
  · rw [ki_z0, zM] at d
    rw [ki_lt, ki_z0, ki_le, zM]
    by_cases q : t.toInt < 0
    · exact .inl q
    · exact .inr (by omega)
  rw [ki_z0] at c5
  rw [zM] at c6
  have ok : ¬ (s.1.2.1 = 400 ∨ mk < 0 ∨ 15 < mk ∨ z < 1 ∨ 9 < z ∨ t < 0 ∨ ¬ t ≤ 1000000) := by
    intro q
    rw [ki_lt, ki_lt, ki_lt, ki_lt, ki_lt, ki_le, ki_z0, z15, ki_z1, z9, zM] at q
    rcases q with q | q
    · have q' := congrArg Int32.toInt q
      rw [z400, hs] at q'
      omega
    · omega
  clear no_
  have en : s.1.2.1.toNatClampNeg = nl := ki_toN hs
  unfold ab_cut
  rw [if_neg ok, if_neg ok, en]
  intro _ p hp hz τ1 e1 _ a24 e24 _
  have I1 : yJ_ s g κ (B + 1) n τ1 := by rw [e1]; exact yI_new0 J hp hz (.inl rfl)
  obtain rfl := Option.some.inj ((yg2 I1).1.symm.trans e24)
  have sz1 : xi τ1 18 (g 2) = s.1.2.1 := (yG_idx I1).2.1
  intro _
  rw [sz1]
  have F1 : hx_ (fun l => l = g 2) [] σ τ1 := by rw [e1]; exact hx_new hx_refl hp
  have tp1 : xt τ1 p = 8 := by rw [e1]; exact va_up_self _ _ _
  have p135 : xi τ1 135 p = 0 := by rw [e1]; exact va_up_self _ _ _
  clear e1
  unfold vX6_init
  intro _ b2 f2 b4 f4 b6 f6 b8 f8 b10 f10 b12 f12 b14 f14 b16 f16 _ a31 e31 _
  have I2 : yJ_ s g κ (B + 1) n b16 := by
    rw [f16, f14, f12, f10, f8, f6, f4, f2]
    exact yI_si (by decide) (yI_si (by decide) (yI_si (by decide) (yI_si (by decide) (yI_si (by decide) (yI_si (by decide) (yI_129 ⟨c1, c2⟩ (yI_si (by decide) I1)))))))
  have F2 : hx_ (fun l => l = g 2) [] σ b16 := by
    rw [f16, f14, f12, f10, f8, f6, f4, f2]
    exact hx_siP (hx_siP (hx_siP (hx_siP (hx_siP (hx_siP (hx_siP (hx_siP F1 hp) hp) hp) hp) hp) hp) hp) hp
  have tp2 : xt b16 p = 8 := by rw [f16, f14, f12, f10, f8, f6, f4, f2]; exact tp1
  have v128 : xi b16 128 p = s.1.2.1 := by rw [f16, f14, f12, f10, f8, f6, f4, f2]; exact va_up_self _ _ _
  have v129 : xi b16 129 p = mk := by rw [f16, f14, f12, f10, f8, f6, f4, f2]; exact va_up_self _ _ _
  have v130 : xi b16 130 p = z := by rw [f16, f14, f12, f10, f8, f6, f4, f2]; exact va_up_self _ _ _
  have v131 : xi b16 131 p = t := by rw [f16, f14, f12, f10, f8, f6, f4, f2]; exact va_up_self _ _ _
  have v132 : xi b16 132 p = 0 := by rw [f16, f14, f12, f10, f8, f6, f4, f2]; exact va_up_self _ _ _
  have v133 : xi b16 133 p = -1 := by rw [f16, f14, f12, f10, f8, f6, f4, f2]; exact va_up_self _ _ _
  have v134 : xi b16 134 p = -1 := by rw [f16, f14, f12, f10, f8, f6, f4, f2]; exact va_up_self _ _ _
  have v136 : xi b16 136 p = -1 := by rw [f16, f14, f12, f10, f8, f6, f4, f2]; exact va_up_self _ _ _
  have v135 : xi b16 135 p = 0 := by rw [f16, f14, f12, f10, f8, f6, f4, f2]; exact p135
  clear f16 f14 f12 f10 f8 f6 f4 f2 p135 tp1 F1
  obtain rfl := Option.some.inj ((yg2 I2).1.symm.trans e31)
  have s2 : xi b16 18 (g 2) = s.1.2.1 := (yG_idx I2).2.1
  refine jaJx4a65c_add_9ea2d (Q := fun _ τ => ya_ (g 2) p b16 τ ∧ ∀ b, xt b16 b ≠ 0 → xt τ b = xt b16 b ∧ xai τ b = xai b16 b) (fun _ τ hh _ => ?_) _ _ _ (jcJx4a65c_add_9ea2d (Q := fun _ τ => ya_ (g 2) p b16 τ) (Q' := fun _ τ => ∀ b, xt b16 b ≠ 0 → xt τ b = xt b16 b ∧ xai τ b = xai b16 b) (fun _ _ x y => ⟨x, y⟩) _ _ _ (ry_add I2.1 hB hn (yg2 I2).2.1 (by rw [tp2, (yg2 I2).2.2]) (by unfold ylb; rw [if_pos rfl, s2, hs]; omega) (fun _ _ A => A)) vy_xai)
  obtain ⟨A3, X3⟩ := hh
  have F3 : hx_ (fun l => l = g 2) [] σ τ := hx_ya F2 A3 rfl (by rw [s2, hs]; omega) (fun b hb => (X3 b hb).2)
  have ne8 : ∀ x, κ x ≠ 8 → ¬ x = g 2 := fun x hx e => hx (by rw [e]; exact (yg2 J).2.2)
  have nn : ∀ f ∈ ([] : List Nat), ∀ L : List Nat, f ∉ L := fun f hf => absurd hf (List.not_mem_nil)
  have r1 := q1_hx h1 F3 (yg1 J).2.1 (ne8 _ (by rw [(yg1 J).2.2]; decide)) (fun r hr => ne8 _ (by rw [(Q0.2.2.1 r hr).1]; decide)) (fun f hf => nn f hf _)
  have r2 := q2_hx h2 h1 F3 (fun f hf => nn f hf _)
  have r3 := q3_hx h3 F3 (fun k hk => (Q0.1 k hk).2.1)
  have r5 := q5_hx h5 F3 (yg4 J).2.1 (ne8 _ (by rw [(yg4 J).2.2]; decide)) (List.not_mem_nil)
  have r6 := q6_hx h6 F3 (yg5 J).2.1 (ne8 _ (by rw [(yg5 J).2.2]; decide)) (fun r hr hb => ne8 _ (by rw [(Q22 r hr hb).1]; decide)) (fun f hf => nn f hf _)
  have r7 := q7_hx h7 F3 (yg3 J).2.1 (ne8 _ (by rw [(yg3 J).2.2]; decide)) (List.not_mem_nil)
  have rj := qj_hx hj F3
  have rb : xi τ 218 (g 0) = a.1 6 0 := by rw [F3.2.1 218 _ (List.not_mem_nil) (by decide) (by decide) (by rw [yg0 J]; decide)]; exact hb
  have k3 : ∀ f, f ≠ 16 → f ≠ 18 → xi τ f p = xi b16 f p := fun f x y => by rw [A3.2.2.1 f x y]
  have N_ : ∀ x, xt σ x ≠ 0 → va_up N p nl x = N x := fun x hx => N_new hp hx
  refine ⟨t8_ T 8 nl p, va_up N p nl, rfl, ?_, ⟨?_, ?_, ?_, ?_⟩, r1, r2, ?_, ⟨?_, ?_⟩, r7, rj, ?_, rb, ?_⟩
  · intro r hr hz
    have hz : ¬ a.1 22 r = 0 := hz
    show va_up N p nl (T 22 r) = r
    rw [N_ _ (by rw [(h6.2.2.2 r hr hz).1]; decide)]
    exact n22 r hr hz
  · intro k hk
    have hk : vk_ nr a k := hk
    show va_up N p nl (T 1 k) = k
    rw [N_ _ (by rw [(h3 k hk).1]; decide)]
    exact h0.1 k hk
  · intro r c hr hc
    have hc : c < ln_ a r := hc
    show va_up N p nl (T 3 (12 * r + c)) = _
    rw [N_ _ (by rw [((h2 r hr c hc).1).2]; decide)]
    exact h0.2.1 r c hr hc
  · intro r hr
    show va_up N p nl (T 10 r) = r
    rw [N_ _ (by rw [((h1.2 r hr).1).2]; decide)]
    exact h0.2.2.1 r hr
  · intro j hj'
    show va_up N p nl (va_up (T 8) nl p j) = j
    by_cases c : j = nl
    · rw [c, va_up_self, va_up_self]
    · rw [va_up_ne (T 8) _ c, N_ _ (by rw [((h4.2 j (by omega)).1).2]; decide)]
      exact h0.2.2.2 j (by omega)
  · intro k hk
    have hk : vk_ nr a k := hk
    obtain ⟨d1, d2, d3⟩ := r3 k hk
    refine ⟨d1, d2, fun i x hx => ?_⟩
    show xe τ (T 1 k) i = some (va_up (T 8) nl p x)
    have hx' : (a.2 k)[i]? = some x := hx
    have := A2 k x (List.mem_of_getElem? hx')
    rw [va_up_ne _ _ (by omega)]
    exact d3 i x hx'
  · rw [A3.2.2.2.1, va_up_self, s2]
    exact ki_addN hs ki_z1 (by omega)
  · intro j hj'
    by_cases c : j = nl
    · subst c
      have ep : t8_ T 8 j p 8 j = p := va_up_self _ _ _
      rw [ep]
      have ex := A3.2.2.2.2.2.2.1
      rw [s2, en] at ex
      refine ⟨⟨ex, fg_tag A3.1 tp2 (by decide)⟩, by rw [k3 128 (by decide) (by decide), v128]; exact hs, ⟨by rw [k3 129 (by decide) (by decide), v129]; exact w_updS.symm, by rw [k3 130 (by decide) (by decide), v130]; exact w_updS.symm, by rw [k3 131 (by decide) (by decide), v131]; exact w_updS.symm⟩, by rw [k3 132 (by decide) (by decide), v132]; exact w_updS.symm, by rw [k3 133 (by decide) (by decide), v133]; exact w_updS.symm, by rw [k3 134 (by decide) (by decide), v134]; exact w_updS.symm, by rw [k3 135 (by decide) (by decide), v135]; exact z41.symm, by rw [k3 136 (by decide) (by decide), v136]; exact w_updS.symm⟩
    · have hj2 : j < nl := by omega
      have ep : t8_ T 8 nl p 8 j = T 8 j := va_up_ne _ _ c
      rw [ep]
      obtain ⟨⟨a1, a2⟩, a3, ⟨a4, a5, a6⟩, a7, a8, a9, a10, a11⟩ := h4.2 j hj2
      have tL : xt σ (T 8 j) ≠ 0 := by rw [a2]; decide
      have xk : ∀ f, f ≠ 16 → f ≠ 18 → xi τ f (T 8 j) = xi σ f (T 8 j) := fun f x y => F3.2.1 f _ (List.not_mem_nil) x y tL
      have sz := h4.1
      refine ⟨⟨by rw [(F3.2.2.2.1 (g 2) (yg2 J).2.1).2 j (by omega)]; exact a1, fg_tag F3.1 a2 (by decide)⟩, by rw [xk 128 (by decide) (by decide)]; exact a3, ⟨by rw [xk 129 (by decide) (by decide), a4]; exact (w_updN c).symm, by rw [xk 130 (by decide) (by decide), a5]; exact (w_updN c).symm, by rw [xk 131 (by decide) (by decide), a6]; exact (w_updN c).symm⟩, by rw [xk 132 (by decide) (by decide), a7]; exact (w_updN c).symm, by rw [xk 133 (by decide) (by decide), a8]; exact (w_updN c).symm, by rw [xk 134 (by decide) (by decide), a9]; exact (w_updN c).symm, by rw [xk 135 (by decide) (by decide), a10]; rfl, by rw [xk 136 (by decide) (by decide), a11]; exact (w_updN c).symm⟩
  · obtain ⟨o1, o2, o3, o4⟩ := q6_f (b := fs_ (fs_ (fs_ (fs_ (fs_ (fs_ (fs_ a 35 nl mk) 36 nl z) 37 nl t) 38 nl 0) 39 nl (-1)) 40 nl (-1)) 42 nl (-1)) r6 (fun f hf => by
      simp at hf
      rcases hf with e | e | e | e | e <;> (rw [e]; rfl))
    refine ⟨o1, o2, fun o ho => ?_, o4⟩
    obtain ⟨b1, b3, b4, b5, b6, b7⟩ := o3 o ho
    refine ⟨b1, b3, b4, b5, ?_, b7⟩
    show va_up N p nl (T 9 o) = o
    rw [N_ _ (by rw [((h6.2.2.1 o ho).1).2]; decide)]
    exact b6
  · obtain ⟨o1, o2, o3⟩ := r5
    refine ⟨o1, o2, fun k hk => ?_⟩
    obtain ⟨b1, b3, b4, b5⟩ := o3 k hk
    refine ⟨b1, b3, b4, ?_⟩
    show va_up N p nl (T 4 k) = k
    rw [N_ _ (by rw [((h5.2.2 k hk).1).2]; decide)]
    exact b5
end
