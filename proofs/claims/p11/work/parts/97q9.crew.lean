/-! the class: crews -/
theorem w_updI {F : Nat → Int32} {i : Nat} {v : Int32} (h : F i = v) : upd F i v = F := by
  funext j
  by_cases c : j = i
  · rw [c, w_updS, h]
  · rw [w_updN c]
theorem fs_id {a : ra_T} {f i : Nat} {v : Int32} (h : a.1 f i = v) : fs_ a f i v = a := by
  refine Prod.ext ?_ rfl
  funext e
  show (if e = f then upd (a.1 f) i v else a.1 e) = a.1 e
  by_cases c : e = f
  · rw [if_pos c, w_updI h, c]
  · rw [if_neg c]
section
variable {T : Nat → Nat → Nat} {N : Nat → Nat} {g κ : Nat → Nat} {st na nr nl nc no m : Nat} {day : Nat → Int32} {RL : Nat → List (Bool × List Int32)} {s : sz_T} {B n : Nat} {a : ra_T} {σ τ : kx_S}
theorem vq_newCrew {q : Nat} {r : Int32} {Q : Int32 → kx_S → Prop} (hB : B + 1 ≤ 3000) (hn : n ≤ 200) (hs : s.1.2.2.1.toInt = (nc : Int)) (hr : r.toInt = (q : Int)) (hq : q < nr) (hnow : 0 ≤ s.1.2.2.2.2.2.toInt ∧ s.1.2.2.2.2.2.toInt ≤ 20000) (n22 : n22_ T N nr a) (J : yJ_ s g κ B n σ) (h : qE_ T N g st na nr nl m day RL no nc a σ) (k0 : s.1.2.2.1 = 6 → Q (-1) σ) (k1 : ¬ s.1.2.2.1 = 6 → ∀ T' N' x u, T' 20 = T 20 → n22_ T' N' nr (ab_come r s.1.2.2.2.2.2 nc (fs_ (fs_ a 44 nc (-1)) 46 nc (-5))) → qE_ T' N' g st na nr nl m day RL no (nc + 1) (ab_come r s.1.2.2.2.2.2 nc (fs_ (fs_ a 44 nc (-1)) 46 nc (-5))) u → Q x u) : vX11_newCrew (g 0) (T 10 q) σ Q := by
  obtain ⟨Q0, Q22⟩ := qE_q0 J h
  obtain ⟨h0, h1, h2, h3, h4, h7, hj, h6, hb, h5⟩ := h
  have ids := yG_idx J
  have z6 : (6 : Int32).toInt = 6 := by decide
  have zm5 : (-5 : Int32).toInt = -5 := by decide
  have tR : xt σ (T 10 q) = 10 := ((h1.2 q hq).1).2
  unfold vX11_newCrew
  intro _ a2 e2 _
  obtain rfl := Option.some.inj ((yg4 J).1.symm.trans e2)
  unfold vJx4a65c_size_8abf5
  intro _
  rw [ids.2.2.1, ki_lt, z6, hs]
  refine ⟨fun c _ a9 e9 _ p hp hz τ1 e1 _ => ?_, fun c => k0 (ki_eq.2 (by rw [z6, hs]; have := h5.2.1; omega))⟩
  obtain rfl := Option.some.inj ((yg4 J).1.symm.trans e9)
  have ne6 : ¬ s.1.2.2.1 = 6 := fun x => by have := congrArg Int32.toInt x; rw [z6, hs] at this; omega
  have I1 : yI_ s (fun a => False ∨ a = p) g κ (B + 1) n τ1 := by rw [e1]; exact yI_new J hp hz (by decide)
  have F1 : hx_ (fun l => l = g 4) [] σ τ1 := by rw [e1]; exact hx_new hx_refl hp
  have tp1 : xt τ1 p = 4 := by rw [e1]; exact va_up_self _ _ _
  have p0 : p ≠ g 0 := fun e => by have := yg0 J; rw [← e, hp] at this; omega
  have w217 : xi τ1 217 (g 0) = s.1.2.2.2.2.2 := (yG_idx I1).2.2.2.2.2
  rw [w217]
  clear e1
  unfold vX2_init
  intro _ τ2 e2 τ3 e3 _
  have I2' : yI_ s (fun a => False ∨ a = p) g κ (B + 1) n τ3 := by rw [e3, e2]; exact yI_si (by decide) (yI_srE I1 (.inr rfl) (by decide) (by decide) p0)
  have F3 : hx_ (fun l => l = g 4) [] σ τ3 := by rw [e3, e2]; exact hx_siP (hx_srP F1 hp) hp
  have tp3 : xt τ3 p = 4 := by rw [e3, e2]; exact tp1
  have tR3 : xt τ3 (T 10 q) = 10 := fg_tag F3.1 tR (by decide)
  have r3 : xr τ3 64 p = some (T 10 q) := by rw [e3, e2]; exact va_up_self _ _ _
  have v65 : xi τ3 65 p = s.1.2.2.2.2.2 + 1 := by rw [e3]; exact va_up_self _ _ _
  clear e3 e2
  have I2 : yJ_ s g κ (B + 1) n τ3 := ⟨I2'.1, yP_add I2'.2.1 tp3 (fun q => absurd q (by decide)) (fun q => absurd q (by decide)) (fun _ => ⟨T 10 q, r3, tR3⟩) (fun q => absurd q (by decide)) (fun q => absurd q (by decide)) (by decide), I2'.2.2⟩
  have s3 : xi τ3 18 (g 4) = s.1.2.2.1 := (yG_idx I2).2.2.1
  have ne := yG_ne I2.2.2.1
  refine jaJx4a65c_add_9ea2d (Q := fun _ τ => ya_ (g 4) p τ3 τ ∧ ∀ b, xt τ3 b ≠ 0 → xt τ b = xt τ3 b ∧ xai τ b = xai τ3 b) (fun _ τ hh => ?_) _ _ _ (jcJx4a65c_add_9ea2d (Q := fun _ τ => ya_ (g 4) p τ3 τ) (Q' := fun _ τ => ∀ b, xt τ3 b ≠ 0 → xt τ b = xt τ3 b ∧ xai τ b = xai τ3 b) (fun _ _ x y => ⟨x, y⟩) _ _ _ (ry_add I2.1 hB hn (yg4 I2).2.1 (by rw [tp3, (yg4 I2).2.2]) (by unfold ylb; rw [if_neg (fun e => ne.2.2.2.2.2.1 e.symm), s3, hs]; omega) (fun _ _ A => A)) vy_xai)
  obtain ⟨A4, X4⟩ := hh
  have F4 : hx_ (fun l => l = g 4) [] σ τ := hx_ya F3 A4 rfl (by rw [s3, hs]; omega) (fun b hb => (X4 b hb).2)
  have ne4 : ∀ x, κ x ≠ 4 → ¬ x = g 4 := fun x hx e => hx (by rw [e]; exact (yg4 J).2.2)
  have nn : ∀ f ∈ ([] : List Nat), ∀ L : List Nat, f ∉ L := fun f hf => absurd hf (List.not_mem_nil)
  have r1 := q1_hx h1 F4 (yg1 J).2.1 (ne4 _ (by rw [(yg1 J).2.2]; decide)) (fun r hr => ne4 _ (by rw [(Q0.2.2.1 r hr).1]; decide)) (fun f hf => nn f hf _)
  have r2 := q2_hx h2 h1 F4 (fun f hf => nn f hf _)
  have r3' := q3_hx h3 F4 (fun k hk => ne4 _ (by rw [(Q0.1 k hk).1]; decide))
  have r4 := q4_hx h4 F4 (yg2 J).2.1 (ne4 _ (by rw [(yg2 J).2.2]; decide)) (fun f hf => nn f hf _)
  have r6 := q6_hx h6 F4 (yg5 J).2.1 (ne4 _ (by rw [(yg5 J).2.2]; decide)) (fun r hr hb => ne4 _ (by rw [(Q22 r hr hb).1]; decide)) (fun f hf => nn f hf _)
  have r7 := q7_hx h7 F4 (yg3 J).2.1 (ne4 _ (by rw [(yg3 J).2.2]; decide)) (List.not_mem_nil)
  have rj := qj_hx hj F4
  have rb : xi τ 218 (g 0) = a.1 6 0 := by rw [F4.2.1 218 _ (List.not_mem_nil) (by decide) (by decide) (by rw [yg0 J]; decide)]; exact hb
  have N_ : ∀ x, xt σ x ≠ 0 → va_up N p nc x = N x := fun x hx => N_new hp hx
  have er : ¬ (fs_ (fs_ a 44 nc (-1)) 46 nc (-5)).1 44 nc = r := by
    have e : (fs_ (fs_ a 44 nc (-1)) 46 nc (-5)).1 44 nc = -1 := w_updS
    rw [e]
    intro x
    rw [← x, ki_zm] at hr
    omega
  intro _ a23 e23 _ _
  have n22' : n22_ (t8_ T 4 nc p) (va_up N p nc) nr (ab_come r s.1.2.2.2.2.2 nc (fs_ (fs_ a 44 nc (-1)) 46 nc (-5))) := by
    intro r' hr' hz
    have hz : ¬ a.1 22 r' = 0 := by
      unfold ab_come at hz
      rw [if_neg er] at hz
      exact hz
    show va_up N p nc (T 22 r') = r'
    rw [N_ _ (by rw [(h6.2.2.2 r' hr' hz).1]; decide)]
    exact n22 r' hr' hz
  refine k1 ne6 (t8_ T 4 nc p) (va_up N p nc) _ τ rfl n22' ?_
  unfold ab_come
  rw [if_neg er]
  refine ⟨⟨?_, ?_, ?_, ?_⟩, r1, r2, r3', r4, r7, rj, ?_, rb, ⟨?_, by omega, ?_⟩⟩
  · intro k hk
    have hk : vk_ nr a k := hk
    show va_up N p nc (T 1 k) = k
    rw [N_ _ (by rw [(h3 k hk).1]; decide)]
    exact h0.1 k hk
  · intro r c hr hc
    have hc : c < ln_ a r := hc
    show va_up N p nc (T 3 (12 * r + c)) = _
    rw [N_ _ (by rw [((h2 r hr c hc).1).2]; decide)]
    exact h0.2.1 r c hr hc
  · intro r hr
    show va_up N p nc (T 10 r) = r
    rw [N_ _ (by rw [((h1.2 r hr).1).2]; decide)]
    exact h0.2.2.1 r hr
  · intro j hj'
    show va_up N p nc (T 8 j) = j
    rw [N_ _ (by rw [((h4.2 j hj').1).2]; decide)]
    exact h0.2.2.2 j hj'
  · obtain ⟨o1, o2, o3, o4⟩ := q6_f (b := fs_ (fs_ (fs_ (fs_ a 44 nc (-1)) 46 nc (-5)) 45 nc s.1.2.2.2.2.2) 44 nc r) r6 (fun f hf => by
      simp at hf
      rcases hf with e | e | e | e | e <;> (rw [e]; rfl))
    refine ⟨o1, o2, fun o ho => ?_, o4⟩
    obtain ⟨b1, b3, b4, b5, b6, b7⟩ := o3 o ho
    refine ⟨b1, b3, b4, b5, ?_, b7⟩
    show va_up N p nc (T 9 o) = o
    rw [N_ _ (by rw [((h6.2.2.1 o ho).1).2]; decide)]
    exact b6
  · rw [A4.2.2.2.1, va_up_self, s3]
    exact ki_addN hs ki_z1 (by omega)
  · intro k hk
    by_cases c : k = nc
    · subst c
      have ep : t8_ T 4 k p 4 k = p := va_up_self _ _ _
      rw [ep]
      have ex := A4.2.2.2.2.2.2.1
      rw [s3, ki_toN hs] at ex
      refine ⟨⟨ex, fg_tag A4.1 tp3 (by decide)⟩, ⟨q, hq, ?_, ?_⟩, ?_, va_up_self _ _ _⟩
      · have e : (fs_ (fs_ (fs_ (fs_ a 44 k (-1)) 46 k (-5)) 45 k s.1.2.2.2.2.2) 44 k r).1 44 k = r := w_updS
        rw [e]
        exact hr
      · rw [A4.2.2.2.2.1 64 (by decide)]
        exact r3
      · have e45 : (fs_ (fs_ (fs_ (fs_ a 44 k (-1)) 46 k (-5)) 45 k s.1.2.2.2.2.2) 44 k r).1 45 k = s.1.2.2.2.2.2 := w_updS
        have e46 : (fs_ (fs_ (fs_ (fs_ a 44 k (-1)) 46 k (-5)) 45 k s.1.2.2.2.2.2) 44 k r).1 46 k = -5 := w_updS
        rw [e45, e46, zm5, A4.2.2.1 65 (by decide) (by decide), v65, ki_add (by rw [ki_z1]; omega) (by rw [ki_z1]; omega), ki_z1]
        omega
    · have hk2 : k < nc := by omega
      have ep : t8_ T 4 nc p 4 k = T 4 k := va_up_ne _ _ c
      rw [ep]
      obtain ⟨⟨a1, a2⟩, a3, a4, a5⟩ := h5.2.2 k hk2
      have sz := h5.1
      have tC : xt σ (T 4 k) ≠ 0 := by rw [a2]; decide
      have e44 : (fs_ (fs_ (fs_ (fs_ a 44 nc (-1)) 46 nc (-5)) 45 nc s.1.2.2.2.2.2) 44 nc r).1 44 k = a.1 44 k := (w_updN c).trans (w_updN c)
      have e45 : (fs_ (fs_ (fs_ (fs_ a 44 nc (-1)) 46 nc (-5)) 45 nc s.1.2.2.2.2.2) 44 nc r).1 45 k = a.1 45 k := w_updN c
      have e46 : (fs_ (fs_ (fs_ (fs_ a 44 nc (-1)) 46 nc (-5)) 45 nc s.1.2.2.2.2.2) 44 nc r).1 46 k = a.1 46 k := w_updN c
      rw [e44, e45, e46]
      refine ⟨⟨by rw [(F4.2.2.2.1 (g 4) (yg4 J).2.1).2 k (by omega)]; exact a1, fg_tag F4.1 a2 (by decide)⟩, ?_, by rw [F4.2.1 65 _ (List.not_mem_nil) (by decide) (by decide) tC]; exact a4, ?_⟩
      · rw [F4.1.2.1 64 _ (by decide) tC]
        exact a3
      · rw [N_ _ tC]
        exact a5
theorem vq_crew {c r : Int32} (hB : B + 1 ≤ 3000) (hn : n ≤ 200) (h10 : nr ≤ 10) (hs1 : s.1.1.toInt = (nr : Int)) (hs : s.1.2.2.1.toInt = (nc : Int)) (C : co_ nr nc s.1.2.2.2.2.2 0 a) (n22 : n22_ T N nr a) (J : yJ_ s g κ B n σ) (h : qE_ T N g st na nr nl m day RL no nc a σ) : vX11_crew (g 0) c r σ (fun _ u => ∃ T' N', T' 20 = T 20 ∧ n22_ T' N' nr (ab_crew c r s a) ∧ qE_ T' N' g st na nr nl m day RL no (if z_is r s ∧ c = -1 ∧ ¬ s.1.2.2.1 = 6 then nc + 1 else nc) (ab_crew c r s a) u) (fun _ u => ∃ T' N', T' 20 = T 20 ∧ n22_ T' N' nr (ab_crew c r s a) ∧ qE_ T' N' g st na nr nl m day RL no (if z_is r s ∧ c = -1 ∧ ¬ s.1.2.2.1 = 6 then nc + 1 else nc) (ab_crew c r s a) u) := by
  have H := h
  obtain ⟨h0, h1, h2, h3, h4, h7, hj, h6, hb, h5⟩ := h
  have ids := yG_idx J
  have nc6 := h5.2.1
  have en : s.1.2.2.1.toNatClampNeg = nc := ki_toN hs
  have same : ab_crew c r s a = a → ¬ (z_is r s ∧ c = -1 ∧ ¬ s.1.2.2.1 = 6) → ∀ u, qE_ T N g st na nr nl m day RL no nc a u → ∃ T' N', T' 20 = T 20 ∧ n22_ T' N' nr (ab_crew c r s a) ∧ qE_ T' N' g st na nr nl m day RL no (if z_is r s ∧ c = -1 ∧ ¬ s.1.2.2.1 = 6 then nc + 1 else nc) (ab_crew c r s a) u := fun e1 e2 u hu => ⟨T, N, rfl, by rw [e1]; exact n22, by rw [e1, if_neg e2]; exact hu⟩
  unfold vX11_crew
  intro _
  refine vq_reachAt h10 J h1 (fun q hq hlt => ?_) (fun z => ?_)
  · have hz : z_is r s := ⟨by omega, by omega⟩
    refine ⟨fun d _ a6 e6 _ => ?_, fun d _ => ?_⟩
    · obtain rfl := Option.some.inj ((yg4 J).1.symm.trans e6)
      unfold vJx4a65c_size_8abf5
      intro _
      have hp := ki_pred h5.1 (by omega)
      have d' : c.toInt ≠ -1 := fun x => d (ki_eq.2 (x.trans ki_zm.symm))
      have nz : ¬ (z_is r s ∧ c = -1 ∧ ¬ s.1.2.2.1 = 6) := fun x => d x.2.1
      refine vy_within (fun q' => ⟨fun x => absurd rfl x, fun _ => same ?_ nz _ H⟩) (fun c1 c2 => ⟨fun _ _ a15 e15 _ => ?_, fun x => absurd x (by decide)⟩)
      · rw [ki_z0, hp] at q'
        unfold ab_crew
        rw [if_pos hz, if_neg d, if_pos (by rw [ki_lt, ki_zm, ki_le, hs]; omega)]
      · rw [ki_z0] at c1
        rw [hp] at c2
        obtain rfl := Option.some.inj ((yg4 J).1.symm.trans e15)
        obtain ⟨k, hk⟩ : ∃ k : Nat, c.toInt = (k : Int) := ⟨c.toInt.toNat, by omega⟩
        have hkn : k < nc := by omega
        have ec : ab_crew c r s a = ab_come r s.1.2.2.2.2.2 k a := by
          unfold ab_crew
          rw [if_pos hz, if_neg d, if_neg (by rw [ki_lt, ki_zm, ki_le, hs]; omega), ki_toN hk]
        obtain ⟨⟨b1, b2⟩, ⟨r0, b3, b4, b5⟩, b6, b7⟩ := h5.2.2 k hkn
        refine vy_get (fun _ _ => ?_)
        rw [ki_toN hk, b1]
        intro a20 e20 _ a23 e23 _
        obtain rfl := Option.some.inj e20
        obtain rfl := Option.some.inj (b5.symm.trans e23)
        have e160 := (h1.2 r0 b3).2.1
        refine ⟨fun x => ?_, fun x _ => ?_⟩
        · have e44 : a.1 44 k = r := ki_eq.2 (by rw [b4, ← e160, x])
          refine same ?_ nz _ H
          rw [ec]
          unfold ab_come
          rw [if_pos e44]
          exact fs_id e44
        · have e44 : ¬ a.1 44 k = r := fun y => x (ki_eq.2 (by rw [e160, ← b4, y]))
          unfold vX2_come
          rintro - σ2 rfl σ4 rfl
          rw [ids.2.2.2.2.2]
          refine ⟨T, N, rfl, ?_, ?_⟩
          · rw [ec]
            unfold ab_come
            rw [if_neg e44]
            exact n22
          rw [if_neg nz, ec]
          unfold ab_come
          rw [if_neg e44]
          have r6 := q6_f (b := fs_ (fs_ a 45 k s.1.2.2.2.2.2) 44 k r) h6 (fun f hf => by
            simp at hf
            rcases hf with e | e | e | e | e <;> (rw [e]; rfl))
          refine ⟨h0, h1, h2, h3, h4, h7, hj, r6, hb, h5.1, h5.2.1, fun j hj' => ?_⟩
          obtain ⟨⟨c1', c2'⟩, c3', c4', c5'⟩ := h5.2.2 j hj'
          obtain ⟨⟨n1, n2⟩, n3⟩ := C
          obtain ⟨_, _, m3, m4⟩ := n3 k hkn
          have m4 := m4 (Nat.zero_le k)
          by_cases cj : j = k
          · subst cj
            refine ⟨⟨c1', c2'⟩, ⟨q, hlt, ?_, va_up_self _ _ _⟩, ?_, c5'⟩
            · have e : (fs_ (fs_ a 45 j s.1.2.2.2.2.2) 44 j r).1 44 j = r := w_updS
              rw [e]
              exact hq
            · have e45 : (fs_ (fs_ a 45 j s.1.2.2.2.2.2) 44 j r).1 45 j = s.1.2.2.2.2.2 := w_updS
              have e46 : (fs_ (fs_ a 45 j s.1.2.2.2.2.2) 44 j r).1 46 j = a.1 46 j := rfl
              have e65 : xi (xsi (xsr σ 64 (T 4 j) (some (T 10 q))) 65 (T 4 j) (s.1.2.2.2.2.2 + 1)) 65 (T 4 j) = s.1.2.2.2.2.2 + 1 := va_up_self _ _ _
              rw [e45, e46, e65, ki_add (by rw [ki_z1]; omega) (by rw [ki_z1]; omega), ki_z1]
              omega
          · have nT : T 4 j ≠ T 4 k := fun e => cj (by rw [← c5', e, b7])
            have e44' : (fs_ (fs_ a 45 k s.1.2.2.2.2.2) 44 k r).1 44 j = a.1 44 j := w_updN cj
            have e45 : (fs_ (fs_ a 45 k s.1.2.2.2.2.2) 44 k r).1 45 j = a.1 45 j := w_updN cj
            have e46 : (fs_ (fs_ a 45 k s.1.2.2.2.2.2) 44 k r).1 46 j = a.1 46 j := rfl
            have e65 : xi (xsi (xsr σ 64 (T 4 k) (some (T 10 q))) 65 (T 4 k) (s.1.2.2.2.2.2 + 1)) 65 (T 4 j) = xi σ 65 (T 4 j) := va_up_ne _ _ nT
            have e64 : xr (xsi (xsr σ 64 (T 4 k) (some (T 10 q))) 65 (T 4 k) (s.1.2.2.2.2.2 + 1)) 64 (T 4 j) = xr σ 64 (T 4 j) := va_up_ne _ _ nT
            rw [e44', e45, e46, e65, e64]
            exact ⟨⟨c1', c2'⟩, c3', c4', c5'⟩
    · refine vq_newCrew hB hn hs hq hlt C.1 n22 J H (fun e6 => same ?_ (fun x => x.2.2 e6) _ H) (fun e6 T' N' x u h20 h22' hu => ⟨T', N', h20, ?_, ?_⟩)
      · unfold ab_crew
        rw [if_pos hz, if_pos d, if_pos e6]
      · unfold ab_crew
        rw [if_pos hz, if_pos d, if_neg e6, en]
        exact h22'
      · unfold ab_crew
        rw [if_pos hz, if_pos d, if_neg e6, if_pos ⟨hz, d, e6⟩, en]
        exact hu
  · have nz : ¬ z_is r s := fun x => z ⟨x.1, by have := x.2; omega⟩
    refine same ?_ (fun x => nz x.1) _ H
    unfold ab_crew
    rw [if_neg nz]
end
