/-! the class: crews, what is seen -/
def q5_ (T : Nat → Nat → Nat) (N : Nat → Nat) (g4 nr nc : Nat) (a : ra_T) (σ : kx_S) : Prop := (xi σ 18 g4).toInt = (nc : Int) ∧ nc ≤ 6 ∧ ∀ k, k < nc → (xe σ g4 k = some (T 4 k) ∧ xt σ (T 4 k) = 4) ∧ (∃ r, r < nr ∧ (a.1 44 k).toInt = (r : Int) ∧ xr σ 64 (T 4 k) = some (T 10 r)) ∧ (xi σ 65 (T 4 k)).toInt = max ((a.1 45 k).toInt + 1) ((a.1 46 k).toInt + 2) ∧ N (T 4 k) = k
section
variable {T : Nat → Nat → Nat} {N : Nat → Nat} {g κ : Nat → Nat} {st na nr nl nc m : Nat} {day : Nat → Int32} {RL : Nat → List (Bool × List Int32)} {s : sz_T} {B n : Nat}
theorem q5_hf {W : List Nat} {a b : ra_T} {σ τ : kx_S} (h : q5_ T N (g 4) nr nc a σ) (F : hf_ W g κ st na σ τ) (t4 : xt σ (g 4) = 1) (k4 : κ (g 4) = 4) (hW : 65 ∉ W) (e44 : b.1 44 = a.1 44) (e45 : b.1 45 = a.1 45) (e46 : b.1 46 = a.1 46) : q5_ T N (g 4) nr nc b τ := by
  obtain ⟨h1, h2, h3⟩ := h
  obtain ⟨f1, f2⟩ := F.2.2.1 (g 4) t4 (.inl (by rw [k4]; decide))
  refine ⟨by rw [f1]; exact h1, h2, fun k hk => ?_⟩
  obtain ⟨⟨a1, a2⟩, a3, a4, a5⟩ := h3 k hk
  have tC : xt σ (T 4 k) ≠ 0 := by rw [a2]; decide
  rw [e44, e45, e46]
  exact ⟨⟨by rw [f2 k (by omega)]; exact a1, fg_tag F.1 a2 (by decide)⟩, by rw [F.1.2.1 64 _ (by decide) tC]; exact a3, by rw [F.2.1 65 _ hW (by decide) (by decide) tC]; exact a4, a5⟩
theorem vq_low {a : ra_T} {r : Nat} {Q : Int32 → kx_S → Prop} {σ : kx_S} (h1 : q1_ T (g 1) nr a σ) (h2 : q2_ T nr a σ) (hr : r < nr) (k0 : a_low a r (ln_ a r) = none → Q 0 σ) (k1 : ∀ c, a_low a r (ln_ a r) = some c → Q 1 (xsi (xsi σ 50 (T 3 (12 * r + c)) 0) 51 (T 3 (12 * r + c)) 0)) : vX8_freesLowestJam (T 10 r) σ Q := by
  obtain ⟨_, _, _, _, _, b1, b2, b3, b4, b5⟩ := h1.2 r hr
  have loop : ∀ (j c : Nat) (l1 : Int32), l1.toInt = (c : Int) - 1 → c ≤ ln_ a r → a_low a r (ln_ a r) = a_low a r c → vX8_freesLowestJam_12 (vX8_freesLowestJam_37 Q) Q j (T 10 r) l1 σ := by
    intro j
    induction j with
    | zero => intro _ _ _ _ _; exact trivial
    | succ j ih =>
      intro c l1 hl hc e
      unfold vX8_freesLowestJam_12
      rw [ki_lt, ki_z0, hl]
      cases c with
      | zero => exact ⟨fun _ => k0 e, fun q => absurd (by omega) q⟩
      | succ c =>
        refine ⟨fun q => absurd q (by omega), fun _ _ a8 e8 _ => ?_⟩
        obtain rfl := Option.some.inj (b1.symm.trans e8)
        refine vy_get (fun _ _ => ?_)
        have hl' : l1.toInt = (c : Int) := by omega
        obtain ⟨⟨c1, c2⟩, c3, c4, c5, c6⟩ := h2 r hr c (by omega)
        rw [ki_toN hl', c1]
        intro a13 e13 _
        obtain rfl := Option.some.inj e13
        rw [c5]
        refine ⟨fun d v17 e17 => ih c v17 ?_ (by omega) (e.trans (if_pos d)), fun d => ?_⟩
        · rw [e17, ki_add (by rw [hl', ki_zm]; omega) (by rw [hl', ki_zm]; omega), hl', ki_zm]
          omega
        · unfold vX8_freesLowestJam_37
          rintro _ σ2 rfl σ4 rfl
          exact k1 c (e.trans (if_neg d))
  unfold vX8_freesLowestJam
  intro _ a19 e19 _
  obtain rfl := Option.some.inj (b1.symm.trans e19)
  unfold vJx4a65c_size_8abf5
  rintro _ v24 e24 j
  refine loop j (ln_ a r) v24 ?_ (Nat.le_refl _) rfl
  rw [e24, ki_sub (by rw [b3, ki_z1]; omega) (by rw [b3, ki_z1]; omega), b3, ki_z1]
/-- writes to fields 50, 51, 65 alone -/
abbrev fr_W : List Nat := [50, 51, 65]
theorem vq_free {Q : kx_S → Prop} {σ : kx_S} {now : Int32} (h10 : nr ≤ 10) (hnow : s.1.2.2.2.2.2 = now) : ∀ (j mm k : Nat) (a : ra_T) (i : Int32) (τ : kx_S), i.toInt = (k : Int) → k + mm = nc → co_ nr nc now k a → qa_ T N g κ st na nr nl m day RL s B n a τ → q5_ T N (g 4) nr nc a τ → hn_ fr_W σ τ → (∀ v, qa_ T N g κ st na nr nl m day RL s B n (a_free now mm k a) v → q5_ T N (g 4) nr nc (a_free now mm k a) v → hn_ fr_W σ v → Q v) → vX11_freeJams_2 Q j (g 0) i τ := by
  have z2 : (2 : Int32).toInt = 2 := by decide
  intro j
  induction j with
  | zero => intro _ _ _ _ _ _ _ _ _ _ _ _; exact trivial
  | succ j ih =>
    intro mm k a i τ hi hm C H h5 F kk
    have HH := H
    obtain ⟨J, h0, h1, h2, h3, h4, h7, hj⟩ := HH
    unfold vX11_freeJams_2
    intro _ a3 e3 _
    obtain rfl := Option.some.inj ((yg4 J).1.symm.trans e3)
    unfold vJx4a65c_size_8abf5
    intro _
    rw [ki_le, h5.1, hi]
    refine ⟨fun q => ?_, fun q _ => ?_⟩
    · have : mm = 0 := by omega
      subst this
      exact kk τ H h5 F
    · obtain ⟨mm, rfl⟩ : ∃ x, mm = x + 1 := ⟨mm - 1, by omega⟩
      have hk : k < nc := by omega
      have c6 := h5.2.1
      intro a10 e10 _
      obtain rfl := Option.some.inj ((yg4 J).1.symm.trans e10)
      refine vy_get (fun _ _ => ?_)
      obtain ⟨⟨x1, x2⟩, ⟨r, x3, x4, x5⟩, x6, x7⟩ := h5.2.2 k hk
      rw [ki_toN hi, x1]
      intro a15 e15 _ _
      obtain rfl := Option.some.inj e15
      have e217 : xi τ 217 (g 0) = now := (congrArg (fun p => p.2.2.2.2.2) J.2.2.2.2.1).trans hnow
      rw [e217, ki_lt, x6]
      obtain ⟨⟨t1, t2⟩, ⟨t3, t4⟩, ⟨t5, t6⟩, t7⟩ := C.2 k hk
      have t7 := t7 (Nat.le_refl k)
      obtain ⟨n0, n20⟩ := C.1
      have er : a_cr a k = r := ki_toN x4
      have nxt : ∀ (v : kx_S) (b : ra_T), b = a_free1 now a k → qa_ T N g κ st na nr nl m day RL s B n b v → q5_ T N (g 4) nr nc b v → hn_ fr_W σ v → vX11_freeJams_58 (vX11_freeJams_2 Q j) Q (g 0) i v := by
        intro v b eb Hb hb Fv
        subst eb
        unfold vX11_freeJams_58
        intro v1 e1
        exact ih mm (k + 1) (a_free1 now a k) v1 v (by rw [e1]; exact ki_addN hi ki_z1 (by omega)) (by omega) (co_free1 C) Hb hb Fv kk
      have ef : a_free1 now a k = match a_low a r (ln_ a r) with
          | none => a
          | some c => if (a.1 45 k).toInt + 1 ≤ now.toInt ∧ (a.1 46 k).toInt + 2 ≤ now.toInt then fs_ (fs_ (fs_ a 33 (12 * r + c) 0) 34 (12 * r + c) 0) 46 k now else a := by
        unfold a_free1
        rw [er]
        rfl
      refine ⟨fun d => nxt τ a ?_ H h5 F, fun d a20 e20 _ => ?_⟩
      · rw [ef]
        split
        · rfl
        · exact (if_neg (by omega)).symm
      · obtain rfl := Option.some.inj (x5.symm.trans e20)
        refine vq_low h1 h2 x3 (fun e => ⟨fun _ => nxt τ a ?_ H h5 F, fun q => absurd rfl q⟩) (fun c e => ⟨fun q => absurd q (by decide), fun _ => ?_⟩)
        · rw [ef, e]
        · intro _ _
          unfold vX2_rest
          rintro _ σ2 rfl
          have hc := a_low_lt _ _ e
          have cond : (a.1 45 k).toInt + 1 ≤ now.toInt ∧ (a.1 46 k).toInt + 2 ≤ now.toInt := by omega
          rw [e] at ef
          have ef2 := ef.trans (if_pos cond)
          have e217' : xi (xsi (xsi τ 50 (T 3 (12 * r + c)) 0) 51 (T 3 (12 * r + c)) 0) 217 (g 0) = now := e217
          rw [e217']
          have F1 : hn_ fr_W τ (xsi (xsi (xsi τ 50 (T 3 (12 * r + c)) 0) 51 (T 3 (12 * r + c)) 0) 65 (T 4 k) (now + 2)) := hn_si (hn_si (hn_si hn_refl (by decide)) (by decide)) (by decide)
          have J1 : yJ_ s g κ B n (xsi (xsi (xsi τ 50 (T 3 (12 * r + c)) 0) 51 (T 3 (12 * r + c)) 0) 65 (T 4 k) (now + 2)) := yI_si (by decide) (yI_si (by decide) (yI_si (by decide) J))
          obtain ⟨p1, p3, p4, p7, pj⟩ := qa_hn H J1 F1 (by decide)
          have hN : ∀ r c, r < nr → c < ln_ a r → N (T 3 (12 * r + c)) = 12 * r + c := fun r c h1 h2 => h0.2.1 r c h1 h2
          have p2 := q2_51 (N := N) (v := 0) (q2_50 (N := N) (v := 0) h2 hN x3 hc) hN x3 hc
          refine nxt _ _ ef2.symm ⟨J1, h0, p1, p2, p3, p4, p7, pj⟩ ⟨h5.1, h5.2.1, fun k' hk' => ?_⟩ (hn_trans F F1)
          obtain ⟨y1, y2, y3, y4⟩ := h5.2.2 k' hk'
          refine ⟨y1, y2, ?_, y4⟩
          show (va_up (xi τ 65) (T 4 k) (now + 2) (T 4 k')).toInt = max ((a.1 45 k').toInt + 1) ((upd (a.1 46) k now k').toInt + 2)
          by_cases ek : k' = k
          · rw [ek, va_up_self, w_updS, ki_add (by rw [z2]; omega) (by rw [z2]; omega), z2]
            omega
          · rw [va_up_ne _ _ (fun z => ek (by rw [← y4, z, x7])), w_updN ek]
            exact y3
theorem vq_freeJams {a : ra_T} {Q : kx_S → Prop} {σ : kx_S} {now : Int32} (h10 : nr ≤ 10) (hnow : s.1.2.2.2.2.2 = now) (C : co_ nr nc now 0 a) (H : qa_ T N g κ st na nr nl m day RL s B n a σ) (h5 : q5_ T N (g 4) nr nc a σ) (kk : ∀ v, qa_ T N g κ st na nr nl m day RL s B n (a_free now nc 0 a) v → q5_ T N (g 4) nr nc (a_free now nc 0 a) v → hn_ fr_W σ v → Q v) : vX11_freeJams (g 0) σ Q := by
  unfold vX11_freeJams
  intro j
  exact vq_free h10 hnow j nc 0 a 0 σ (by decide) (by omega) C H h5 hn_refl kk
/-- one reach is seen -/
theorem vq_known1 {a : ra_T} {r : Nat} {P : Nat → Prop} {Q : kx_S → Prop} {σ τ0 : kx_S} (H : qa_ T N g κ st na nr nl m day RL s B n a σ) (hr : r < nr) (J0 : yJ_ s g κ B n τ0) (F0 : hn_ [51] σ τ0) (h20 : q2_ T nr (ff_ a 34 (kn_f P 1 (a.1 34))) τ0) (kk : ∀ v, yJ_ s g κ B n v → hn_ [51] σ v → q2_ T nr (ff_ a 34 (kn_f (fun k => P k ∨ ∃ c, c < ln_ a r ∧ k = 12 * r + c ∧ ¬ a.1 33 k = 0) 1 (a.1 34))) v → Q v) : vX8_makeJamsKnown (T 10 r) τ0 Q := by
  have loop : ∀ (j c : Nat) (l1 : Int32) (τ : kx_S), l1.toInt = (c : Int) → c ≤ ln_ a r → yJ_ s g κ B n τ → hn_ [51] σ τ → q2_ T nr (ff_ a 34 (kn_f (fun k => P k ∨ ∃ c', c' < c ∧ k = 12 * r + c' ∧ ¬ a.1 33 k = 0) 1 (a.1 34))) τ → vX8_makeJamsKnown_2 Q j (T 10 r) l1 τ := by
    intro j
    induction j with
    | zero => intro _ _ _ _ _ _ _ _; exact trivial
    | succ j ih =>
      intro c l1 τ h1 hc J F h2
      obtain ⟨p1, p3, p4, p7, pj⟩ := qa_hn H J F (by decide)
      obtain ⟨_, _, _, _, _, b1, b2, b3, b4, b5⟩ := p1.2 r hr
      have nx : ∀ v : Int32, v = l1 + 1 → v.toInt = ((c + 1 : Nat) : Int) := fun v e => by rw [e]; exact ki_addN h1 ki_z1 (by omega)
      unfold vX8_makeJamsKnown_2
      intro _ a3 e3 _
      obtain rfl := Option.some.inj (b1.symm.trans e3)
      unfold vJx4a65c_size_8abf5
      intro _
      rw [ki_le, b3, h1]
      refine ⟨fun q => ?_, fun q _ => ?_⟩
      · have : c = ln_ a r := by omega
        subst this
        exact kk τ J F h2
      · have hlt : c < ln_ a r := by omega
        intro a10 e10 _
        obtain rfl := Option.some.inj (b1.symm.trans e10)
        refine vy_get (fun _ _ => ?_)
        obtain ⟨⟨c1, c2⟩, c3, c4, c5, c6⟩ := h2 r hr c hlt
        have c5 : xi τ 50 (T 3 (12 * r + c)) = a.1 33 (12 * r + c) := c5
        rw [ki_toN h1, c1]
        intro a15 e15 _
        obtain rfl := Option.some.inj e15
        rw [c5]
        unfold vX8_makeJamsKnown_41
        refine ⟨fun d v1 e1 => ih (c + 1) v1 τ (nx v1 e1) hlt J F ?_, fun d => ?_⟩
        · rw [kn_c (P' := fun k => P k ∨ ∃ c', c' < c ∧ k = 12 * r + c' ∧ ¬ a.1 33 k = 0) (fun k => ?_)]
          · exact h2
          · constructor
            · rintro (z | ⟨c', z1, z2, z3⟩)
              · exact .inl z
              · by_cases e : c' = c
                · rw [e] at z2; rw [z2] at z3; exact absurd d z3
                · exact .inr ⟨c', by omega, z2, z3⟩
            · rintro (z | ⟨c', z1, z2, z3⟩)
              · exact .inl z
              · exact .inr ⟨c', by omega, z2, z3⟩
        · rintro σ19 rfl v1 e1
          refine ih (c + 1) v1 _ (nx v1 e1) hlt (yI_si (by decide) J) (hn_si F (by decide)) ?_
          have z := q2_51 (N := N) (v := 1) h2 (fun r c h1 h2 => H.2.1.2.1 r c h1 h2) hr hlt
          rw [ff_fs, kn_u] at z
          rw [kn_c (P' := fun k => (P k ∨ ∃ c', c' < c ∧ k = 12 * r + c' ∧ ¬ a.1 33 k = 0) ∨ k = 12 * r + c) (fun k => ?_)]
          · exact z
          · constructor
            · rintro (z | ⟨c', z1, z2, z3⟩)
              · exact .inl (.inl z)
              · by_cases e : c' = c
                · rw [e] at z2; exact .inr z2
                · exact .inl (.inr ⟨c', by omega, z2, z3⟩)
            · rintro ((z | ⟨c', z1, z2, z3⟩) | z)
              · exact .inl z
              · exact .inr ⟨c', by omega, z2, z3⟩
              · exact .inr ⟨c, by omega, z, by rw [z]; exact d⟩
  unfold vX8_makeJamsKnown
  intro j
  refine loop j 0 0 τ0 (by decide) (Nat.zero_le _) J0 F0 ?_
  rw [kn_c (P' := P) (fun k => ⟨fun z => z.elim id (fun ⟨c', z1, _⟩ => by omega), .inl⟩)]
  exact h20
/-- the cells in jams of reaches of a kind -/
def sk_ (nr : Nat) (a : ra_T) (S : Nat → Prop) (k : Nat) : Prop := ∃ r c, r < nr ∧ c < ln_ a r ∧ k = 12 * r + c ∧ ¬ a.1 33 k = 0 ∧ S r
theorem sk_or {nr : Nat} {a : ra_T} {S : Nat → Prop} {r : Nat} (hr : r < nr) (k : Nat) : (sk_ nr a S k ∨ ∃ c, c < ln_ a r ∧ k = 12 * r + c ∧ ¬ a.1 33 k = 0) ↔ sk_ nr a (fun q => S q ∨ q = r) k := by
  constructor
  · rintro (⟨r', c', h1, h2, h3, h4, h5⟩ | ⟨c', h1, h2, h3⟩)
    · exact ⟨r', c', h1, h2, h3, h4, .inl h5⟩
    · exact ⟨r, c', hr, h1, h2, h3, .inr rfl⟩
  · rintro ⟨r', c', h1, h2, h3, h4, h5⟩
    rcases h5 with z | z
    · exact .inl ⟨r', c', h1, h2, h3, h4, z⟩
    · rw [z] at h2 h3; exact .inr ⟨c', h2, h3, h4⟩
theorem sk_c {nr : Nat} {a : ra_T} {S S' : Nat → Prop} (h : ∀ r, r < nr → (S r ↔ S' r)) (k : Nat) : sk_ nr a S k ↔ sk_ nr a S' k := by
  constructor
  · rintro ⟨r', c', h1, h2, h3, h4, h5⟩; exact ⟨r', c', h1, h2, h3, h4, (h r' h1).1 h5⟩
  · rintro ⟨r', c', h1, h2, h3, h4, h5⟩; exact ⟨r', c', h1, h2, h3, h4, (h r' h1).2 h5⟩
theorem vq_known {a : ra_T} {Q : kx_S → Prop} {σ : kx_S} (h10 : nr ≤ 10) (H : qa_ T N g κ st na nr nl m day RL s B n a σ) (h5 : q5_ T N (g 4) nr nc a σ) (kk : ∀ τ, qa_ T N g κ st na nr nl m day RL s B n (a_known nr nc a) τ → hn_ [51] σ τ → Q τ) : vX11_makeJamsKnown (g 0) σ Q := by
  have fin : ∀ τ, yJ_ s g κ B n τ → hn_ [51] σ τ → q2_ T nr (ff_ a 34 (kn_f (sk_ nr a (fun r => ¬ a.1 23 r = 0 ∨ ∃ k, k < nc ∧ (a.1 44 k).toInt = (r : Int))) 1 (a.1 34))) τ → Q τ := by
    intro τ J F h2
    obtain ⟨p1, p3, p4, p7, pj⟩ := qa_hn H J F (by decide)
    refine kk τ ⟨J, H.2.1, p1, ?_, p3, p4, p7, pj⟩ F
    unfold a_known
    rw [kn_c (P' := sk_ nr a (fun r => ¬ a.1 23 r = 0 ∨ ∃ k, k < nc ∧ (a.1 44 k).toInt = (r : Int))) (fun k => ?_)]
    · exact h2
    · constructor
      · rintro ⟨r', c', h1, h2, h3, h4, _⟩
        exact ⟨r', c', h1, h2, h3, by rw [h3]; exact h4.1, h4.2⟩
      · rintro ⟨r', c', h1, h2, h3, h4, h5⟩
        exact ⟨r', c', h1, h2, h3, ⟨by rw [← h3]; exact h4, h5⟩, .inl h1⟩
  have loop2 : ∀ (j k : Nat) (i : Int32) (τ : kx_S), i.toInt = (k : Int) → k ≤ nc → yJ_ s g κ B n τ → hn_ [51] σ τ → q2_ T nr (ff_ a 34 (kn_f (sk_ nr a (fun r => ¬ a.1 23 r = 0 ∨ ∃ k', k' < k ∧ (a.1 44 k').toInt = (r : Int))) 1 (a.1 34))) τ → vX11_makeJamsKnown_58 Q j (g 0) i τ := by
    intro j
    induction j with
    | zero => intro _ _ _ _ _ _ _ _; exact trivial
    | succ j ih =>
      intro k i τ hi hk J F h2
      have c6 := h5.2.1
      have g5 : q5_ T N (g 4) nr nc a τ := q5_hf (W := [51]) (st := st) (na := na) h5 (hn_hf F (by decide)) (yg4 H.1).2.1 (yg4 H.1).2.2 (by decide) rfl rfl rfl
      unfold vX11_makeJamsKnown_58
      intro _ a3 e3 _
      obtain rfl := Option.some.inj ((yg4 J).1.symm.trans e3)
      unfold vJx4a65c_size_8abf5
      intro _
      rw [ki_le, g5.1, hi]
      refine ⟨fun q => ?_, fun q _ => ?_⟩
      · have : k = nc := by omega
        subst this
        exact fin τ J F h2
      · have hlt : k < nc := by omega
        intro a10 e10 _
        obtain rfl := Option.some.inj ((yg4 J).1.symm.trans e10)
        refine vy_get (fun _ _ => ?_)
        obtain ⟨⟨x1, x2⟩, ⟨r, x3, x4, x5⟩, x6, x7⟩ := g5.2.2 k hlt
        rw [ki_toN hi, x1]
        intro a15 e15 _
        obtain rfl := Option.some.inj e15
        intro a18 e18 _
        obtain rfl := Option.some.inj (x5.symm.trans e18)
        refine vq_known1 H x3 J F h2 (fun v Jv Fv hv => ?_)
        intro v22 e22
        refine ih (k + 1) v22 v (by rw [e22]; exact ki_addN hi ki_z1 (by omega)) hlt Jv Fv ?_
        rw [kn_c (fun q => (sk_or x3 q).trans (sk_c (S' := fun r => ¬ a.1 23 r = 0 ∨ ∃ k', k' < k + 1 ∧ (a.1 44 k').toInt = (r : Int)) (fun r' _ => ?_) q))] at hv
        · exact hv
        · constructor
          · rintro ((z | ⟨k', z1, z2⟩) | z)
            · exact .inl z
            · exact .inr ⟨k', by omega, z2⟩
            · exact .inr ⟨k, by omega, by rw [z]; exact x4⟩
          · rintro (z | ⟨k', z1, z2⟩)
            · exact .inl (.inl z)
            · by_cases e : k' = k
              · rw [e, x4] at z2; exact .inr (by omega)
              · exact .inl (.inr ⟨k', by omega, z2⟩)
  have loop1 : ∀ (j r : Nat) (i : Int32) (τ : kx_S), i.toInt = (r : Int) → r ≤ nr → yJ_ s g κ B n τ → hn_ [51] σ τ → q2_ T nr (ff_ a 34 (kn_f (sk_ nr a (fun q => ¬ a.1 23 q = 0 ∧ q < r)) 1 (a.1 34))) τ → vX11_makeJamsKnown_2 (vX11_makeJamsKnown_56 Q) Q j (g 0) i τ := by
    intro j
    induction j with
    | zero => intro _ _ _ _ _ _ _ _; exact trivial
    | succ j ih =>
      intro r i τ hi hr J F h2
      obtain ⟨p1, p3, p4, p7, pj⟩ := qa_hn H J F (by decide)
      unfold vX11_makeJamsKnown_2
      intro _ a25 e25 _
      obtain rfl := Option.some.inj ((yg1 J).1.symm.trans e25)
      unfold vJx4a65c_size_8abf5
      intro _
      rw [ki_le, p1.1, hi]
      refine ⟨fun q => ?_, fun q _ => ?_⟩
      · have : r = nr := by omega
        subst this
        unfold vX11_makeJamsKnown_56
        intro j2
        refine loop2 j2 0 0 τ (by decide) (Nat.zero_le _) J F ?_
        rw [kn_c (fun q => sk_c (S' := fun q => ¬ a.1 23 q = 0 ∧ q < r) (fun r' hr' => ⟨fun z => z.elim (fun y => ⟨y, hr'⟩) (fun ⟨k', y, _⟩ => by omega), fun z => .inl z.1⟩) q)]
        exact h2
      · have hlt : r < nr := by omega
        have nx : ∀ v : Int32, v = i + 1 → v.toInt = ((r + 1 : Nat) : Int) := fun v e => by rw [e]; exact ki_addN hi ki_z1 (by omega)
        intro a32 e32 _
        obtain rfl := Option.some.inj ((yg1 J).1.symm.trans e32)
        refine vy_get (fun _ _ => ?_)
        obtain ⟨⟨b0, b00⟩, _, ⟨_, _, _, _, b171⟩, _⟩ := p1.2 r hlt
        rw [ki_toN hi, b0]
        intro a37 e37 _
        obtain rfl := Option.some.inj e37
        rw [b171]
        refine ⟨fun d => ?_, fun d _ a42 e42 _ => ?_⟩
        · unfold vX11_makeJamsKnown_50
          intro v1 e1
          refine ih (r + 1) v1 τ (nx v1 e1) hlt J F ?_
          rw [kn_c (fun q => sk_c (S' := fun q => ¬ a.1 23 q = 0 ∧ q < r) (fun r' _ => ⟨fun z => ⟨z.1, by
            by_cases e : r' = r
            · rw [e] at z; exact absurd d z.1
            · have := z.2; omega⟩, fun z => ⟨z.1, by have := z.2; omega⟩⟩) q)]
          exact h2
        · obtain rfl := Option.some.inj ((yg1 J).1.symm.trans e42)
          refine vy_get (fun _ _ => ?_)
          rw [ki_toN hi, b0]
          intro a47 e47 _
          obtain rfl := Option.some.inj e47
          refine vq_known1 H hlt J F h2 (fun v Jv Fv hv => ?_)
          unfold vX11_makeJamsKnown_50
          intro v1 e1
          refine ih (r + 1) v1 v (nx v1 e1) hlt Jv Fv ?_
          rw [kn_c (fun q => (sk_or hlt q).trans (sk_c (S' := fun q => ¬ a.1 23 q = 0 ∧ q < r + 1) (fun r' _ => ?_) q))] at hv
          · exact hv
          · constructor
            · rintro (z | z)
              · exact ⟨z.1, by have := z.2; omega⟩
              · rw [z]; exact ⟨d, by omega⟩
            · intro z
              by_cases e : r' = r
              · exact .inr e
              · exact .inl ⟨z.1, by have := z.2; omega⟩
  unfold vX11_makeJamsKnown
  intro j
  refine loop1 j 0 0 σ (by decide) (Nat.zero_le _) H.1 hn_refl ?_
  rw [ff_id (kn_0 (fun k => ?_))]
  · exact H.2.2.2.1
  · rintro ⟨r', c', _, _, _, _, z⟩
    have := z.2
    omega
end
