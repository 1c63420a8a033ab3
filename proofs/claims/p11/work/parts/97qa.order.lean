/-! the class: orders -/
theorem od_snoc {a b : ra_T} {r : Nat} : ∀ (m o : Nat), (∀ x, x < o + m → b.1 47 x = a.1 47 x) → od_ b r (m + 1) o = od_ a r m o ++ (if (b.1 47 (o + m)).toInt = (r : Int) then [o + m] else []) := by
  intro m
  induction m with
  | zero =>
    intro o _
    show (if (b.1 47 o).toInt = (r : Int) then o :: od_ b r 0 (o + 1) else od_ b r 0 (o + 1)) = [] ++ _
    rw [List.nil_append, Nat.add_zero]
    rfl
  | succ m ih =>
    intro o h
    have e : o + 1 + m = o + (m + 1) := by omega
    have i := ih (o + 1) (fun x hx => h x (by omega))
    rw [e] at i
    show (if (b.1 47 o).toInt = (r : Int) then o :: od_ b r (m + 1) (o + 1) else od_ b r (m + 1) (o + 1)) = (if (a.1 47 o).toInt = (r : Int) then o :: od_ a r m (o + 1) else od_ a r m (o + 1)) ++ _
    rw [i, h o (by omega)]
    split
    · rfl
    · rfl
section
variable {T : Nat → Nat → Nat} {N : Nat → Nat} {g κ : Nat → Nat} {st na nr nl nc no m : Nat} {day : Nat → Int32} {RL : Nat → List (Bool × List Int32)} {s : sz_T} {B n : Nat} {a : ra_T} {σ τ : kx_S}
theorem vq_order {r mk z w : Int32} (hB : B + 1 ≤ 3000) (hn : n ≤ 200) (h10 : nr ≤ 10) (hs1 : s.1.1.toInt = (nr : Int)) (hs : s.1.2.2.2.1.toInt = (no : Int)) (h22 : ∀ q, q < nr → (s.2.2.2.2.2 q = 0 ↔ a.1 22 q = 0)) (n22 : n22_ T N nr a) (J : yJ_ s g κ B n σ) (h : qE_ T N g st na nr nl m day RL no nc a σ) : vX11_order (g 0) r mk z w σ (fun _ u => ∃ T' N', T' 20 = T 20 ∧ n22_ T' N' nr (ab_order r mk z w s a) ∧ qE_ T' N' g st na nr nl m day RL (if z_is r s ∧ ¬ (s.2.2.2.2.2 r.toNatClampNeg = 0 ∨ mk < 0 ∨ 15 < mk ∨ z < 1 ∨ 9 < z ∨ w < 1 ∨ 100 < w ∨ s.1.2.2.2.1 = 60) then no + 1 else no) nc (ab_order r mk z w s a) u) (fun _ u => ∃ T' N', T' 20 = T 20 ∧ n22_ T' N' nr (ab_order r mk z w s a) ∧ qE_ T' N' g st na nr nl m day RL (if z_is r s ∧ ¬ (s.2.2.2.2.2 r.toNatClampNeg = 0 ∨ mk < 0 ∨ 15 < mk ∨ z < 1 ∨ 9 < z ∨ w < 1 ∨ 100 < w ∨ s.1.2.2.2.1 = 60) then no + 1 else no) nc (ab_order r mk z w s a) u) := by
  have H := h
  obtain ⟨Q0, Q22⟩ := qE_q0 J h
  obtain ⟨h0, h1, h2, h3, h4, h7, hj, h6, hb, h5⟩ := h
  have ids := yG_idx J
  have o60 := h6.2.1
  have z60 : (60 : Int32).toInt = 60 := by decide
  have z15 : (15 : Int32).toInt = 15 := by decide
  have z9 : (9 : Int32).toInt = 9 := by decide
  have z100 : (100 : Int32).toInt = 100 := by decide
  have no_ : ¬ (z_is r s ∧ ¬ (s.2.2.2.2.2 r.toNatClampNeg = 0 ∨ mk < 0 ∨ 15 < mk ∨ z < 1 ∨ 9 < z ∨ w < 1 ∨ 100 < w ∨ s.1.2.2.2.1 = 60)) → ∀ u, qE_ T N g st na nr nl m day RL no nc a u → ∃ T' N', T' 20 = T 20 ∧ n22_ T' N' nr (ab_order r mk z w s a) ∧ qE_ T' N' g st na nr nl m day RL (if z_is r s ∧ ¬ (s.2.2.2.2.2 r.toNatClampNeg = 0 ∨ mk < 0 ∨ 15 < mk ∨ z < 1 ∨ 9 < z ∨ w < 1 ∨ 100 < w ∨ s.1.2.2.2.1 = 60) then no + 1 else no) nc (ab_order r mk z w s a) u := fun c u hu => ⟨T, N, by
    unfold ab_order
    rw [if_neg c, if_neg c]
    exact ⟨rfl, n22, hu⟩⟩
  unfold vX11_order
  intro _
  refine vq_reachAt h10 J h1 (fun q hq hlt => ?_) (fun c => no_ (fun x => c ⟨x.1.1, by have := x.1.2; omega⟩) _ H)
  have hz : z_is r s := ⟨by omega, by omega⟩
  obtain ⟨_, _, _, _, b172, _⟩ := h1.2 q hlt
  have eq : r.toNatClampNeg = q := ki_toN hq
  intro _
  refine ⟨fun c => no_ (fun x => x.2 (.inl ?_)) _ H, fun a6 e6 _ a8 e8 _ => ?_⟩
  · rw [eq, h22 q hlt]
    rcases b172 with z | ⟨_, z, _⟩
    · exact z.2
    · rw [z] at c; exact absurd c (by simp)
  obtain ⟨nz, y1, y2, y3, y4, _⟩ : ¬ a.1 22 q = 0 ∧ xr σ 172 (T 10 q) = some (T 2 q) ∧ xt σ (T 2 q) = 2 ∧ xr σ 32 (T 2 q) = some (T 1 (120 + q)) ∧ xr σ 33 (T 2 q) = some (T 22 q) ∧ True := by
    rcases b172 with z | z
    · rw [z.1] at e6; exact absurd e6 (by simp)
    · exact ⟨z.1, z.2.1, z.2.2.1, z.2.2.2.1, z.2.2.2.2.1, trivial⟩
  have nb0 : ¬ s.2.2.2.2.2 r.toNatClampNeg = 0 := by rw [eq, h22 q hlt]; exact nz
  obtain rfl := Option.some.inj ((yg5 J).1.symm.trans e8)
  unfold vJx4a65c_size_8abf5
  intro _
  rw [ids.2.2.2.1, ki_lt, z60, hs]
  refine ⟨fun c => ?_, fun c => no_ (fun x => x.2 (.inr (.inr (.inr (.inr (.inr (.inr (.inr (ki_eq.2 (by rw [z60, hs]; omega))))))))) ) _ H⟩
  refine vy_within (fun d => ⟨fun _ => no_ (fun x => x.2 (.inr ?_)) _ H, fun x => absurd rfl x⟩) (fun c1 c2 => ⟨fun x => absurd x (by decide), fun _ => ?_⟩)
  · rw [ki_z0, z15] at d
    rw [ki_lt, ki_z0, ki_lt, z15]
    by_cases q : mk.toInt < 0
    · exact .inl q
    · exact .inr (.inl (by omega))
  rw [ki_z0] at c1
  rw [z15] at c2
  refine vy_within (fun d => ⟨fun _ => no_ (fun x => x.2 (.inr (.inr (.inr ?_)))) _ H, fun x => absurd rfl x⟩) (fun c3 c4 => ⟨fun x => absurd x (by decide), fun _ => ?_⟩)
  · rw [ki_z1, z9] at d
    rw [ki_lt (b := 1), ki_z1, ki_lt (b := z), z9]
    by_cases q : z.toInt < 1
    · exact .inl q
    · exact .inr (.inl (by omega))
  rw [ki_z1] at c3
  rw [z9] at c4
  refine vy_within (fun d => ⟨fun x => absurd rfl x, fun _ => no_ (fun x => x.2 (.inr (.inr (.inr (.inr (.inr ?_)))))) _ H⟩) (fun c5 c6 => ⟨fun _ => ?_, fun x => absurd x (by decide)⟩)
  · rw [ki_z1, z100] at d
    rw [ki_lt (b := 1), ki_z1, ki_lt (b := w), z100]
    by_cases q : w.toInt < 1
    · exact .inl q
    · exact .inr (.inl (by omega))
  rw [ki_z1] at c5
  rw [z100] at c6
  have ok : ¬ (s.2.2.2.2.2 r.toNatClampNeg = 0 ∨ mk < 0 ∨ 15 < mk ∨ z < 1 ∨ 9 < z ∨ w < 1 ∨ 100 < w ∨ s.1.2.2.2.1 = 60) := by
    intro x
    rw [ki_lt, ki_lt, ki_lt, ki_lt, ki_lt, ki_lt, ki_z0, z15, ki_z1, z9, z100] at x
    rcases x with x | x | x | x | x | x | x | x
    · exact nb0 x
    · omega
    · omega
    · omega
    · omega
    · omega
    · omega
    · have x' := congrArg Int32.toInt x
      rw [z60, hs] at x'
      omega
  clear no_
  have en : s.1.2.2.2.1.toNatClampNeg = no := ki_toN hs
  unfold ab_order
  rw [if_pos ⟨hz, ok⟩, if_pos ⟨hz, ok⟩, en]
  intro _ p hp hpz τ1 e1
  have I1 : yJ_ s g κ (B + 1) n τ1 := by rw [e1]; exact yI_new0 J hp hpz (.inr rfl)
  have F1 : hx_ (fun l => l = g 5) [] σ τ1 := by rw [e1]; exact hx_new hx_refl hp
  have tp1 : xt τ1 p = 9 := by rw [e1]; exact va_up_self _ _ _
  clear e1
  unfold vX7_init
  intro _ b2 f2 b4 f4 b6 f6 _ a31 e31 _
  have I2 : yJ_ s g κ (B + 1) n b6 := by
    rw [f6, f4, f2]
    exact yI_si (by decide) (yI_si (by decide) (yI_si (by decide) I1))
  have F2 : hx_ (fun l => l = g 5) [] σ b6 := by
    rw [f6, f4, f2]
    exact hx_siP (hx_siP (hx_siP F1 hp) hp) hp
  have tp2 : xt b6 p = 9 := by rw [f6, f4, f2]; exact tp1
  have v144 : xi b6 144 p = mk := by rw [f6, f4, f2]; exact va_up_self _ _ _
  have v145 : xi b6 145 p = z := by rw [f6, f4, f2]; exact va_up_self _ _ _
  have v146 : xi b6 146 p = w := by rw [f6, f4, f2]; exact va_up_self _ _ _
  clear f6 f4 f2 tp1 F1
  obtain rfl := Option.some.inj ((yg5 I2).1.symm.trans e31)
  have s2 : xi b6 18 (g 5) = s.1.2.2.2.1 := (yG_idx I2).2.2.2.1
  have k9 := Q22 q hlt nz
  have ne82 : ∀ x, κ x = 9 → x ≠ g 2 := fun x hx e => by rw [e, (yg2 J).2.2] at hx; exact absurd hx (by decide)
  refine jaJx4a65c_add_9ea2d (Q := fun _ τ => (yL_ g κ (B + 1) n τ ∧ ya_ (g 5) p b6 τ) ∧ ∀ b, xt b6 b ≠ 0 → xt τ b = xt b6 b ∧ xai τ b = xai b6 b) (fun _ τ3 hh => ?_) _ _ _ (jcJx4a65c_add_9ea2d (Q := fun _ τ => yL_ g κ (B + 1) n τ ∧ ya_ (g 5) p b6 τ) (Q' := fun _ τ => ∀ b, xt b6 b ≠ 0 → xt τ b = xt b6 b ∧ xai τ b = xai b6 b) (fun _ _ x y => ⟨x, y⟩) _ _ _ (ry_add I2.1 hB hn (yg5 I2).2.1 (by rw [tp2, (yg5 I2).2.2]) (by unfold ylb; rw [if_neg (ne82 _ (yg5 I2).2.2), s2, hs]; omega) (fun _ L A => ⟨L, A⟩)) vy_xai)
  obtain ⟨⟨L3, A3⟩, X3⟩ := hh
  have F3 : hx_ (fun l => l = g 5) [] σ τ3 := hx_ya F2 A3 rfl (by rw [s2, hs]; omega) (fun b hb => (X3 b hb).2)
  have tp3 : xt τ3 p = 9 := fg_tag A3.1 tp2 (by decide)
  obtain ⟨t1, t2, t3⟩ := h6.2.2.2 q hlt nz
  have tq3 : xt τ3 (T 22 q) = 1 := fg_tag F3.1 t1 (by decide)
  have odl := (od_lt (a := a) (r := q) no 0).2
  have s18 : xi τ3 18 (T 22 q) = xi σ 18 (T 22 q) := F3.2.2.1 (T 22 q) t1 k9.2
  have tR : xt σ (T 10 q) ≠ 0 := by rw [((h1.2 q hlt).1).2]; decide
  intro _ a37 e37 _ a40 e40 _
  rw [F3.1.2.1 172 _ (by decide) tR] at e37
  obtain rfl := Option.some.inj (y1.symm.trans e37)
  rw [F3.1.2.1 33 _ (by decide) (by rw [y2]; decide)] at e40
  obtain rfl := Option.some.inj (y4.symm.trans e40)
  refine jaJx4a65c_add_9ea2d (Q := fun _ τ => ya_ (T 22 q) p τ3 τ ∧ ∀ b, xt τ3 b ≠ 0 → xt τ b = xt τ3 b ∧ xai τ b = xai τ3 b) (fun _ τ hh => ?_) _ _ _ (jcJx4a65c_add_9ea2d (Q := fun _ τ => ya_ (T 22 q) p τ3 τ) (Q' := fun _ τ => ∀ b, xt τ3 b ≠ 0 → xt τ b = xt τ3 b ∧ xai τ b = xai τ3 b) (fun _ _ x y => ⟨x, y⟩) _ _ _ (ry_add L3 hB hn tq3 (by rw [tp3, k9.1]) (by unfold ylb; rw [if_neg (ne82 _ k9.1), s18, t2]; omega) (fun _ _ A => A)) vy_xai)
  obtain ⟨A4, X4⟩ := hh
  have F4 : hx_ (fun l => l = T 22 q) [] τ3 τ := hx_ya hx_refl A4 rfl (by rw [s18, t2]; omega) (fun b hb => (X4 b hb).2)
  have F : hx_ (fun l => l = g 5 ∨ l = T 22 q) [] σ τ := hx_trans (hx_mono F3 (fun _ x => .inl x)) (hx_mono F4 (fun _ x => .inr x))
  have ne9 : ∀ x, κ x ≠ 9 → ¬ (x = g 5 ∨ x = T 22 q) := fun x hx e => hx (by
    rcases e with e | e
    · rw [e]; exact (yg5 J).2.2
    · rw [e]; exact k9.1)
  have nn : ∀ f ∈ ([] : List Nat), ∀ L : List Nat, f ∉ L := fun f hf => absurd hf (List.not_mem_nil)
  have r1 := q1_hx h1 F (yg1 J).2.1 (ne9 _ (by rw [(yg1 J).2.2]; decide)) (fun r hr => ne9 _ (by rw [(Q0.2.2.1 r hr).1]; decide)) (fun f hf => nn f hf _)
  have r2 := q2_hx h2 h1 F (fun f hf => nn f hf _)
  have r3 := q3_hx h3 F (fun k hk => ne9 _ (by rw [(Q0.1 k hk).1]; decide))
  have r4 := q4_hx h4 F (yg2 J).2.1 (ne9 _ (by rw [(yg2 J).2.2]; decide)) (fun f hf => nn f hf _)
  have r5 := q5_hx h5 F (yg4 J).2.1 (ne9 _ (by rw [(yg4 J).2.2]; decide)) (List.not_mem_nil)
  have r7 := q7_hx h7 F (yg3 J).2.1 (ne9 _ (by rw [(yg3 J).2.2]; decide)) (List.not_mem_nil)
  have rj := qj_hx hj F
  have rb : xi τ 218 (g 0) = a.1 6 0 := by rw [F.2.1 218 _ (List.not_mem_nil) (by decide) (by decide) (by rw [yg0 J]; decide)]; exact hb
  have N_ : ∀ x, xt σ x ≠ 0 → va_up N p no x = N x := fun x hx => N_new hp hx
  intro _ a46 e46 _ _
  have g5q : g 5 ≠ T 22 q := fun e => k9.2 e.symm
  have sz5 : (xi τ 18 (g 5)).toInt = ((no + 1 : Nat) : Int) := by
    rw [A4.2.2.2.1, va_up_ne _ _ g5q, A3.2.2.2.1, va_up_self, s2]
    exact ki_addN hs ki_z1 (by omega)
  have x5 : xe τ (g 5) no = some p := by
    have ex := A3.2.2.2.2.2.2.1
    rw [s2, en] at ex
    have z5 : (xi τ3 18 (g 5)).toInt = ((no + 1 : Nat) : Int) := by
      rw [A3.2.2.2.1, va_up_self, s2]
      exact ki_addN hs ki_z1 (by omega)
    rw [A4.2.2.2.2.2.1 (g 5) (fg_tag F3.1 (yg5 J).2.1 (by decide)) no (by omega)]
    exact ex
  have kp : ∀ f, f ≠ 16 → f ≠ 18 → xi τ f p = xi b6 f p := fun f x y => by rw [A4.2.2.1 f x y, A3.2.2.1 f x y]
  refine ⟨t8_ T 9 no p, va_up N p no, rfl, ?_, ⟨?_, ?_, ?_, ?_⟩, r1, r2, r3, r4, r7, rj, ⟨sz5, by omega, ?_, ?_⟩, rb, ?_⟩
  · intro r' hr' hz'
    have hz' : ¬ a.1 22 r' = 0 := hz'
    show va_up N p no (T 22 r') = r'
    rw [N_ _ (by rw [(h6.2.2.2 r' hr' hz').1]; decide)]
    exact n22 r' hr' hz'
  · intro k hk
    have hk : vk_ nr a k := hk
    show va_up N p no (T 1 k) = k
    rw [N_ _ (by rw [(h3 k hk).1]; decide)]
    exact h0.1 k hk
  · intro r c hr hc
    have hc : c < ln_ a r := hc
    show va_up N p no (T 3 (12 * r + c)) = _
    rw [N_ _ (by rw [((h2 r hr c hc).1).2]; decide)]
    exact h0.2.1 r c hr hc
  · intro r hr
    show va_up N p no (T 10 r) = r
    rw [N_ _ (by rw [((h1.2 r hr).1).2]; decide)]
    exact h0.2.2.1 r hr
  · intro j hj'
    show va_up N p no (T 8 j) = j
    rw [N_ _ (by rw [((h4.2 j hj').1).2]; decide)]
    exact h0.2.2.2 j hj'
  · intro o ho
    by_cases c : o = no
    · subst c
      have ep : t8_ T 9 o p 9 o = p := va_up_self _ _ _
      rw [ep]
      refine ⟨⟨x5, fg_tag A4.1 tp3 (by decide)⟩, by rw [kp 144 (by decide) (by decide), v144]; exact w_updS.symm, by rw [kp 145 (by decide) (by decide), v145]; exact w_updS.symm, by rw [kp 146 (by decide) (by decide), v146]; exact w_updS.symm, va_up_self _ _ _, q, hlt, ?_, nz⟩
      have e : (fs_ (fs_ (fs_ (fs_ a 47 o r) 48 o mk) 49 o z) 50 o w).1 47 o = r := w_updS
      rw [e]
      exact hq
    · have ho2 : o < no := by omega
      have ep : t8_ T 9 no p 9 o = T 9 o := va_up_ne _ _ c
      rw [ep]
      obtain ⟨⟨a1, a2⟩, a3, a4, a5, a6, r0, a7, a8, a9⟩ := h6.2.2.1 o ho2
      have sz := h6.1
      have tO : xt σ (T 9 o) ≠ 0 := by rw [a2]; decide
      have xk : ∀ f, f ≠ 16 → f ≠ 18 → xi τ f (T 9 o) = xi σ f (T 9 o) := fun f x y => F.2.1 f _ (List.not_mem_nil) x y tO
      refine ⟨⟨by rw [(F.2.2.2.1 (g 5) (yg5 J).2.1).2 o (by omega)]; exact a1, fg_tag F.1 a2 (by decide)⟩, by rw [xk 144 (by decide) (by decide), a3]; exact (w_updN c).symm, by rw [xk 145 (by decide) (by decide), a4]; exact (w_updN c).symm, by rw [xk 146 (by decide) (by decide), a5]; exact (w_updN c).symm, by rw [N_ _ tO]; exact a6, r0, a7, ?_, a9⟩
      have e : (fs_ (fs_ (fs_ (fs_ a 47 no r) 48 no mk) 49 no z) 50 no w).1 47 o = a.1 47 o := w_updN c
      rw [e]
      exact a8
  · intro r' hr' hz'
    have hz' : ¬ a.1 22 r' = 0 := hz'
    obtain ⟨u1, u2, u3⟩ := h6.2.2.2 r' hr' hz'
    have od' : od_ (fs_ (fs_ (fs_ (fs_ a 47 no r) 48 no mk) 49 no z) 50 no w) r' (no + 1) 0 = od_ a r' no 0 ++ (if q = r' then [no] else []) := by
      rw [od_snoc (a := a) no 0 (fun x hx => (w_updN (by omega) : upd (a.1 47) no r x = a.1 47 x)), Nat.zero_add]
      have e : (fs_ (fs_ (fs_ (fs_ a 47 no r) 48 no mk) 49 no z) 50 no w).1 47 no = r := w_updS
      rw [e, hq]
      congr 1
      by_cases c : q = r'
      · rw [if_pos c, if_pos (by rw [c])]
      · rw [if_neg c, if_neg (by omega)]
    rw [od']
    show xt τ (T 22 r') = 1 ∧ (xi τ 18 (T 22 r')).toInt = _ ∧ ∀ (i o : Nat), _ → xe τ (T 22 r') i = some (va_up (T 9) no p o)
    have old : ∀ (i o : Nat), (od_ a r' no 0)[i]? = some o → xe τ (T 22 r') i = some (va_up (T 9) no p o) := by
      intro i o hi
      have hlt2 := (List.getElem?_eq_some_iff.1 hi).1
      have ho := ((od_lt (a := a) (r := r') no 0).1 o (List.mem_of_getElem? hi)).2.1
      rw [(F.2.2.2.1 (T 22 r') u1).2 i (by omega), va_up_ne _ _ (by omega)]
      exact u3 i o hi
    by_cases c : q = r'
    · subst c
      rw [if_pos rfl]
      refine ⟨fg_tag F.1 u1 (by decide), ?_, fun i o hi => ?_⟩
      · rw [A4.2.2.2.1, va_up_self, s18, List.length_append]
        exact ki_addN (k := 1) u2 ki_z1 (by omega)
      · by_cases ci : i < (od_ a q no 0).length
        · rw [List.getElem?_append_left ci] at hi
          exact old i o hi
        · rw [List.getElem?_append_right (by omega)] at hi
          have hi2 := (List.getElem?_eq_some_iff.1 hi).1
          have ei : i - (od_ a q no 0).length = 0 := by
            have : ([no] : List Nat).length = 1 := rfl
            omega
          rw [ei] at hi
          have eo : no = o := Option.some.inj hi
          rw [← eo, va_up_self]
          have ex := A4.2.2.2.2.2.2.1
          rw [s18, ki_toN u2] at ex
          rw [show i = (od_ a q no 0).length by omega]
          exact ex
    · rw [if_neg c, List.append_nil]
      have nT : ¬ (T 22 r' = g 5 ∨ T 22 r' = T 22 q) := by
        rintro (e | e)
        · exact (Q22 r' hr' hz').2 e
        · exact c (by rw [← n22 q hlt nz, ← e, n22 r' hr' hz'])
      exact ⟨fg_tag F.1 u1 (by decide), by rw [F.2.2.1 _ u1 nT]; exact u2, old⟩
  · obtain ⟨o1, o2, o3⟩ := r5
    refine ⟨o1, o2, fun k hk => ?_⟩
    obtain ⟨b1, b3, b4, b5⟩ := o3 k hk
    refine ⟨b1, b3, b4, ?_⟩
    show va_up N p no (T 4 k) = k
    rw [N_ _ (by rw [((h5.2.2 k hk).1).2]; decide)]
    exact b5
end
