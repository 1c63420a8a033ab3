/-! the class: each log afloat is an hour older -/
def qt_ (a b : ra_T) : Prop := ∀ f, f ∈ [13, 14, 15, 16, 18, 19, 21, 22, 23, 27, 28, 33, 34] → b.1 f = a.1 f
theorem qt_ln {a b : ra_T} (h : qt_ a b) (r : Nat) : ln_ b r = ln_ a r := by
  unfold ln_
  rw [h 14 (by decide)]
theorem qt_vk {a b : ra_T} {nr k : Nat} (h : qt_ a b) : vk_ nr b k ↔ vk_ nr a k := by
  unfold vk_
  have e := fun r => qt_ln h r
  simp only [e, h 22 (by decide)]
theorem qt_vk2 {a b : ra_T} {nr k : Nat} (h : qt_ a b) : vk2_ nr b k ↔ vk2_ nr a k := by
  unfold vk2_
  have e := fun r => qt_ln h r
  simp only [e]
theorem qt_ag {P : Nat → Prop} {a : ra_T} : qt_ a (ag_ P a) := fun f hf => ag_o (by intro e; rw [e] at hf; exact absurd hf (by decide)) (by intro e; rw [e] at hf; exact absurd hf (by decide))
section
variable {T : Nat → Nat → Nat} {N : Nat → Nat} {g κ : Nat → Nat} {st na nr nl m : Nat} {a b : ra_T} {day : Nat → Int32} {RL : Nat → List (Bool × List Int32)} {s : sz_T} {B n : Nat}
theorem q0_qt (h : q0_ T N g κ nr nl a) (k : qt_ a b) : q0_ T N g κ nr nl b := by
  refine ⟨fun x hx => h.1 x ((qt_vk k).1 hx), fun r c h1 h2 => h.2.1 r c h1 (by rw [← qt_ln k]; exact h2), h.2.2⟩
theorem q1_qt {σ : kx_S} (h : q1_ T (g 1) nr a σ) (k : qt_ a b) : q1_ T (g 1) nr b σ := by
  unfold q1_ at h ⊢
  simp only [qt_ln k, k 16 (by decide), k 21 (by decide), k 18 (by decide), k 19 (by decide), k 23 (by decide), k 13 (by decide), k 22 (by decide), k 27 (by decide), k 28 (by decide)]
  exact h
theorem q2_qt {σ : kx_S} (h : q2_ T nr a σ) (k : qt_ a b) : q2_ T nr b σ := by
  unfold q2_ at h ⊢
  simp only [qt_ln k, k 15 (by decide), k 33 (by decide), k 34 (by decide)]
  exact h
theorem qa_gen {W : List Nat} {σ τ : kx_S} (H : qa_ T N g κ st na nr nl m day RL s B n a σ) (k : qt_ a b) (J : yJ_ s g κ B n τ) (F : hf_ W g κ st na σ τ) (hW : ∀ f ∈ W, f ∉ [160, 162, 165, 169, 170, 171, 34, 35, 48, 50, 51, 96]) (h3 : q3_ T nr b τ) (h4 : q4_ T (g 2) nl b τ) : qa_ T N g κ st na nr nl m day RL s B n b τ := by
  obtain ⟨J0, a0, a1, a2, a3, a4, a7, aj⟩ := H
  have kc : ∀ r, r < nr → κ (T 21 r) = 3 := fun r hr => (a0.2.2.1 r hr).1
  refine ⟨J, q0_qt a0 k, q1_qt (q1_hf a1 F (yg1 J0).2.1 (yg1 J0).2.2 kc (fun f hf q => hW f hf ?_)) k, q2_qt (q2_hf a2 a1 F kc (fun f hf q => hW f hf ?_)) k, h3, h4, q7_hf a7 F (yg3 J0).2.1 (yg3 J0).2.2 (fun q => hW 96 q (by decide)), qj_hf aj F⟩
  · simp at q ⊢; omega
  · simp at q ⊢; omega
abbrev ag_W : List Nat := [132, 135]
theorem vq_age12 {D : Nat → Prop} {r c : Nat} {Q : kx_S → Prop} {σ : kx_S} (h10 : nr ≤ 10) (A : ao_ nr nl a) (hr : r < nr) (hc : c < ln_ a r) (hD : ∀ y, y ∈ a.2 (12 * r + c) → ¬ D y) : ∀ (j : Nat) (P R : List Nat) (l1 : Int32) (τ : kx_S), a.2 (12 * r + c) = P ++ R → l1.toInt = (P.length : Int) - 1 → qa_ T N g κ st na nr nl m day RL s B n (ag_ (fun y => D y ∨ y ∈ R) a) τ → hf_ ag_W g κ st na σ τ → (∀ v, qa_ T N g κ st na nr nl m day RL s B n (ag_ (fun y => D y ∨ y ∈ a.2 (12 * r + c)) a) v → hf_ ag_W g κ st na σ v → Q v) → vX1_ageLogs_12 Q j (T 3 (12 * r + c)) l1 τ := by
  obtain ⟨A1, A2, A3, A4, A5, A6⟩ := A
  have c12 : c < 12 := by have := (A1 r hr).1; omega
  have hcap := (A4 r c hr hc).1
  have hcar := (A1 r hr).2.2.1.2
  intro j
  induction j with
  | zero => intro _ _ _ _ _ _ _ _ _; exact trivial
  | succ j ih =>
    intro P R l1 τ hL hl H F kk
    unfold vX1_ageLogs_12
    rw [ki_lt, ki_z0, hl]
    rcases List.eq_nil_or_concat P with hP | ⟨P', x, hP⟩
    · rw [hP] at hL hl ⊢
      rw [List.nil_append] at hL
      rw [hL] at kk
      exact ⟨fun _ => kk τ H F, fun q => absurd (by simp) q⟩
    · rw [List.concat_eq_append] at hP
      rw [hP] at hL
      have hPl : P.length = P'.length + 1 := by rw [hP, List.length_append]; rfl
      have hlen : (a.2 (12 * r + c)).length = P'.length + 1 + R.length := by rw [hL, List.length_append, List.length_append]; rfl
      have hL2 : a.2 (12 * r + c) = P' ++ x :: R := by rw [hL, List.append_assoc]; rfl
      refine ⟨fun q => absurd q (by omega), fun _ _ a4 e4 _ => ?_⟩
      have hl' : l1.toInt = (P'.length : Int) := by omega
      have HH := H
      obtain ⟨J, h0, h1, h2, h3, h4, h7, hj⟩ := HH
      have kt := qt_ag (P := fun y => D y ∨ y ∈ R) (a := a)
      have hcb : c < ln_ (ag_ (fun y => D y ∨ y ∈ R) a) r := by rw [qt_ln kt]; exact hc
      obtain ⟨_, _, c4, _⟩ := h2 r hr c hcb
      obtain rfl := Option.some.inj (c4.symm.trans e4)
      have hk := vk_cell (nr := nr) hr hcb
      obtain ⟨d1, d2, d3⟩ := h3 _ hk
      obtain ⟨t1, t2, t3⟩ := h0.1 _ hk
      have hxm : x ∈ a.2 (12 * r + c) := by rw [hL2]; exact List.mem_append.2 (.inr (List.mem_cons_self))
      obtain ⟨x38, x39, x40⟩ := (A4 r c hr hc).2 x hxm
      have hxl := (A2 _ x hxm).1
      have nd := A3 (12 * r + c)
      rw [hL2, List.nodup_append] at nd
      obtain ⟨nd1, nd2, nd3⟩ := nd
      rw [List.nodup_cons] at nd2
      have hxR : ¬ (D x ∨ x ∈ R) := fun z => z.elim (hD x hxm) nd2.1
      -- the row as it stands
      have row : (ag_ (fun y => D y ∨ y ∈ R) a).2 (12 * r + c) = P' ++ x :: (R.filter (fun y => @decide (¬ ((D y ∨ y ∈ R) ∧ su_ a y)) (Classical.propDecidable _))) := by
        have hp : (fun y => @decide (¬ ((D y ∨ y ∈ R) ∧ su_ a y)) (Classical.propDecidable _)) x = true := @decide_eq_true _ (Classical.propDecidable _) (fun (z : (D x ∨ x ∈ R) ∧ su_ a x) => hxR z.1)
        show (a.2 (12 * r + c)).filter (fun y => @decide (¬ ((D y ∨ y ∈ R) ∧ su_ a y)) (Classical.propDecidable _)) = _
        have flt : ∀ (p : Nat → Bool), p x = true → (∀ y ∈ P', p y = true) → (P' ++ x :: R).filter p = P' ++ x :: R.filter p := by
          intro p hp1 hp2
          rw [List.filter_append, List.filter_cons_of_pos hp1, List.filter_eq_self.2 hp2]
        rw [hL2]
        refine flt _ hp (fun y hy => ?_)
        refine @decide_eq_true _ (Classical.propDecidable _) (fun z => ?_)
        rcases z.1 with w | w
        · exact hD y (by rw [hL2]; exact List.mem_append.2 (.inl hy)) w
        · exact nd3 y hy y (List.mem_cons_of_mem x w) rfl
      have hxe : xe τ (T 1 (12 * r + c)) P'.length = some (T 8 x) := d3 P'.length x (by rw [row, List.getElem?_append_right (Nat.le_refl _), Nat.sub_self]; rfl)
      refine vy_get (fun _ _ => ?_)
      rw [ki_toN hl', hxe]
      intro a9 e9 _
      obtain rfl := Option.some.inj e9
      obtain ⟨⟨l1', l2'⟩, _, ⟨_, l130, _⟩, _, _, _, l135, _⟩ := h4.2 x hxl
      have b41 : (ag_ (fun y => D y ∨ y ∈ R) a).1 41 x = a.1 41 x := ag_41n (fun z => hxR z.1)
      have e135 : xi τ 135 (T 8 x) = a.1 41 x := l135.trans b41
      have e130 : xi τ 130 (T 8 x) = a.1 36 x := l130.trans (by rw [ag_o (by decide) (by decide)])
      rw [e135]
      rintro σ12 rfl
      have y135 : xi (xsi τ 135 (T 8 x) (a.1 41 x + 1)) 135 (T 8 x) = a.1 41 x + 1 := va_up_self _ _ _
      have y130 : xi (xsi τ 135 (T 8 x) (a.1 41 x + 1)) 130 (T 8 x) = a.1 36 x := e130
      rw [y135, y130]
      have hN := h0.2.2.2
      have J1 : yJ_ s g κ B n (xsi τ 135 (T 8 x) (a.1 41 x + 1)) := yI_si (by decide) J
      have q41 := q4_135 (v := a.1 41 x + 1) h4 hN hxl
      have F1 : hf_ ag_W g κ st na τ (xsi τ 135 (T 8 x) (a.1 41 x + 1)) := hf_si hf_refl (by decide) (by decide)
      have dec : ∀ v : Int32, v = l1 + (-1) → v.toInt = (P'.length : Int) - 1 := by
        intro v e
        rw [e, ki_add (by rw [hl', ki_zm]; omega) (by rw [hl', ki_zm]; omega), hl', ki_zm]
        omega
      have ec : ag_ (fun y => (D y ∨ y ∈ R) ∨ y = x) a = ag_ (fun y => D y ∨ y ∈ x :: R) a := ag_c (fun y _ => by
        constructor
        · rintro ((z | z) | z)
          · exact .inl z
          · exact .inr (List.mem_cons_of_mem x z)
          · exact .inr (by rw [z]; exact List.mem_cons_self)
        · rintro (z | z)
          · exact .inl (.inl z)
          · rcases List.mem_cons.1 z with w | w
            · exact .inr w
            · exact .inl (.inr w))
      refine ⟨fun sk => ?_, fun sk => ?_⟩
      · have ns : ¬ su_ a x := fun z => by have := z.2; rw [ki_le] at this; rw [ki_lt] at sk; omega
        unfold vX1_ageLogs_70
        intro v1 e1
        refine ih P' (x :: R) v1 _ hL2 (dec v1 e1) ?_ (hf_trans F F1) kk
        rw [← ec, ← ag_stay x38 ns]
        rw [← ag_stay x38 ns] at ec
        refine qa_gen H (fun f hf => fs_n (by intro e; rw [e] at hf; exact absurd hf (by decide))) J1 F1 (by decide) h3 q41
      · have hs : su_ a x := ⟨x38, by rw [ki_le]; rw [ki_lt] at sk; omega⟩
        rintro σ15 rfl
        have J2 : yJ_ s g κ B n (xsi (xsi τ 135 (T 8 x) (a.1 41 x + 1)) 132 (T 8 x) 5) := yI_si (by decide) J1
        have F2 : hf_ ag_W g κ st na τ (xsi (xsi τ 135 (T 8 x) (a.1 41 x + 1)) 132 (T 8 x) 5) := hf_si F1 (by decide) (by decide)
        have q42 := q4_132 (v := 5) q41 hN hxl
        intro _ a18 e18 _
        have e18 : xr τ 49 (T 3 (12 * r + c)) = some a18 := e18
        obtain rfl := Option.some.inj (c4.symm.trans e18)
        have hrl : ((ag_ (fun y => D y ∨ y ∈ R) a).2 (12 * r + c)).length ≤ 400 := by
          show ((a.2 (12 * r + c)).filter _).length ≤ 400
          exact Nat.le_trans (List.length_filter_le _ _) (by omega)
        have hpl : P'.length < ((ag_ (fun y => D y ∨ y ∈ R) a).2 (12 * r + c)).length := by
          rw [row, List.length_append, List.length_cons]
          omega
        refine vy_remlog J2 (l := T 1 (12 * r + c)) d1 t1 t2 hl' d2 hpl (fun q τ3 J3 B1 B2 B3 X3 => ?_)
        have q33 := q3_rem (N := N) (a := fs_ (fs_ (ag_ (fun y => D y ∨ y ∈ R) a) 41 x (a.1 41 x + 1)) 38 x 5) (σ := xsi (xsi τ 135 (T 8 x) (a.1 41 x + 1)) 132 (T 8 x) 5) h3 hk (fun k hk' => (h0.1 k hk').2.2) hrl row B1 B2 B3
        have F3 : hf_ ag_W g κ st na τ τ3 := hf_rem F2 B1 X3 t1 t2
        have q43 := q4_hf (W := []) (κ := κ) (st := st) (na := na) q42 (hf_rem hf_refl B1 X3 t1 t2) (yg2 J2).2.1 (fun f hf => absurd hf (List.not_mem_nil))
        unfold vX1_ageLogs_70
        intro v1 e1
        refine ih P' (x :: R) v1 τ3 hL2 (dec v1 e1) ?_ (hf_trans F F3) kk
        have hk0 : ∀ k, x ∈ a.2 k → k = 12 * r + c := by
          intro k hk'
          rcases (A2 k x hk').2 with ⟨r', c', z1, z2, z3⟩ | ⟨r', z1, z2⟩
          · rw [z3] at hk'
            obtain ⟨_, w2, w3⟩ := (A4 r' c' z1 z2).2 x hk'
            omega
          · rw [z2] at hk'
            have := ((A5 r' z1).2 x hk').1
            rw [x38] at this
            exact absurd this (by decide)
        have ef : fs_ (a_drop (fs_ (ag_ (fun y => D y ∨ y ∈ R) a) 41 x (a.1 41 x + 1)) x (12 * r + c)) 38 x 5 = ks_ (fs_ (fs_ (ag_ (fun y => D y ∨ y ∈ R) a) 41 x (a.1 41 x + 1)) 38 x 5) (12 * r + c) (P' ++ R.filter (fun y => @decide (¬ ((D y ∨ y ∈ R) ∧ su_ a y)) (Classical.propDecidable _))) := by
          have nd' : ((ag_ (fun y => D y ∨ y ∈ R) a).2 (12 * r + c)).Nodup := (A3 _).filter _
          have er : (fs_ (ag_ (fun y => D y ∨ y ∈ R) a) 41 x (a.1 41 x + 1)).2 (12 * r + c) = P' ++ x :: (R.filter (fun y => @decide (¬ ((D y ∨ y ∈ R) ∧ su_ a y)) (Classical.propDecidable _))) := row
          unfold a_drop
          rw [er, fil_one (by rw [← row]; exact nd')]
          rfl
        rw [← ec, ← ag_sink hs hk0, ef]
        refine qa_gen H (fun f hf => ?_) J3 F3 (by decide) q33 q43
        show (fs_ (fs_ (ag_ (fun y => D y ∨ y ∈ R) a) 41 x (a.1 41 x + 1)) 38 x 5).1 f = _
        rw [fs_n (by intro e; rw [e] at hf; exact absurd hf (by decide)), fs_n (by intro e; rw [e] at hf; exact absurd hf (by decide))]
/-- the logs in the cells ahead of a place -/
def dl_ (nr : Nat) (a : ra_T) (r c y : Nat) : Prop := ∃ r' c', r' < nr ∧ c' < ln_ a r' ∧ y ∈ a.2 (12 * r' + c') ∧ bf_ r c r' c'
theorem vq_age {Q : kx_S → Prop} {σ : kx_S} (h10 : nr ≤ 10) (A : ao_ nr nl a) (hz : ∀ x, nl ≤ x → ¬ a.1 38 x = 1) (H0 : qa_ T N g κ st na nr nl m day RL s B n a σ) (kk : ∀ τ, qa_ T N g κ st na nr nl m day RL s B n (a_age a) τ → hf_ ag_W g κ st na σ τ → Q τ) : vX11_ageLogs (g 0) σ Q := by
  have A' := A
  obtain ⟨A1, A2, A3, A4, A5, A6⟩ := A'
  have loop2 : ∀ (r : Nat) (ri : Int32) (K : Nat → Int32 → kx_S → Prop), r < nr → (∀ v, qa_ T N g κ st na nr nl m day RL s B n (ag_ (dl_ nr a (r + 1) 0) a) v → hf_ ag_W g κ st na σ v → K (g 0) ri v) → ∀ (j c : Nat) (l3 : Int32) (τ : kx_S), l3.toInt = (c : Int) → c ≤ ln_ a r → qa_ T N g κ st na nr nl m day RL s B n (ag_ (dl_ nr a r c) a) τ → hf_ ag_W g κ st na σ τ → vX11_ageLogs_31 K Q j (g 0) ri (T 10 r) l3 τ := by
    intro r ri K hr kq j
    induction j with
    | zero => intro _ _ _ _ _ _ _; exact trivial
    | succ j ih =>
      intro c l3 τ h3' hc H F
      have kt := qt_ag (P := dl_ nr a r c) (a := a)
      have HH := H
      obtain ⟨J, h0, h1, h2, h3, h4, h7, hj⟩ := HH
      obtain ⟨_, _, _, _, _, b1, b2, b3, b4, b5⟩ := h1.2 r hr
      rw [qt_ln kt] at b3 b4
      unfold vX11_ageLogs_31
      intro _ a3 e3 _
      obtain rfl := Option.some.inj (b1.symm.trans e3)
      unfold vJx4a65c_size_8abf5
      intro _
      rw [ki_le, b3, h3']
      refine ⟨fun q => ?_, fun q _ => ?_⟩
      · have e : c = ln_ a r := by omega
        refine kq τ ?_ F
        rw [ag_c (P' := dl_ nr a r c) (fun y _ => ⟨?_, ?_⟩)]
        · exact H
        · rintro ⟨r', c', z1, z2, z3, z4⟩
          refine ⟨r', c', z1, z2, z3, ?_⟩
          rcases z4 with w | w
          · by_cases d : r' = r
            · exact .inr ⟨d, by rw [d] at z2; omega⟩
            · exact .inl (by omega)
          · omega
        · rintro ⟨r', c', z1, z2, z3, z4⟩
          exact ⟨r', c', z1, z2, z3, .inl (by rcases z4 with w | w <;> omega)⟩
      · have hlt : c < ln_ a r := by omega
        have hcb : c < ln_ (ag_ (dl_ nr a r c) a) r := by rw [qt_ln kt]; exact hlt
        intro a10 e10 _
        obtain rfl := Option.some.inj (b1.symm.trans e10)
        refine vy_get (fun _ _ => ?_)
        obtain ⟨⟨c1, c2⟩, c3, c4, c5, c6⟩ := h2 r hr c hcb
        obtain ⟨d1, d2, d3⟩ := h3 _ (vk_cell hr hcb)
        have hD : ∀ y, y ∈ a.2 (12 * r + c) → ¬ dl_ nr a r c y := by
          rintro y hy ⟨r', c', z1, z2, z3, z4⟩
          obtain ⟨_, w2, w3⟩ := (A4 r' c' z1 z2).2 y z3
          obtain ⟨_, v2, v3⟩ := (A4 r c hr hlt).2 y hy
          rcases z4 with w | w <;> omega
        have rowe : (ag_ (dl_ nr a r c) a).2 (12 * r + c) = a.2 (12 * r + c) := by
          show (a.2 (12 * r + c)).filter _ = _
          rw [List.filter_eq_self]
          intro y hy
          exact @decide_eq_true _ (Classical.propDecidable _) (fun z => hD y hy z.1)
        rw [ki_toN h3', c1]
        intro a15 e15 _
        obtain rfl := Option.some.inj e15
        unfold vX1_ageLogs
        intro _ a24 e24 _
        obtain rfl := Option.some.inj (c4.symm.trans e24)
        unfold vJx4a65c_size_8abf5
        rintro _ v29 e29 j2
        have hcap := (A4 r c hr hlt).1
        have hcar := (A1 r hr).2.2.1.2
        refine vq_age12 (N := N) (m := m) (day := day) (RL := RL) (s := s) (B := B) (n := n) h10 A hr hlt hD j2 (a.2 (12 * r + c)) [] v29 τ (List.append_nil _).symm ?_ ?_ F (fun v Hv Fv => ?_)
        · rw [rowe] at d2
          rw [e29, ki_sub (by rw [d2, ki_z1]; omega) (by rw [d2, ki_z1]; omega), d2, ki_z1]
        · rw [ag_c (P' := dl_ nr a r c) (fun y _ => ⟨fun z => z.elim id (fun w => absurd w (List.not_mem_nil)), .inl⟩)]
          exact H
        · intro v19 e19
          refine ih (c + 1) v19 v (by rw [e19]; exact ki_addN h3' ki_z1 (by omega)) hlt ?_ Fv
          rw [ag_c (P' := fun y => dl_ nr a r c y ∨ y ∈ a.2 (12 * r + c)) (fun y _ => ⟨?_, ?_⟩)]
          · exact Hv
          · rintro ⟨r', c', z1, z2, z3, z4⟩
            rcases z4 with w | w
            · exact .inl ⟨r', c', z1, z2, z3, .inl w⟩
            · by_cases d : c' = c
              · rw [w.1, d] at z3; exact .inr z3
              · exact .inl ⟨r', c', z1, z2, z3, .inr ⟨w.1, by omega⟩⟩
          · rintro (⟨r', c', z1, z2, z3, z4⟩ | z)
            · exact ⟨r', c', z1, z2, z3, z4.elim .inl (fun w => .inr ⟨w.1, by omega⟩)⟩
            · exact ⟨r, c, hr, hlt, z, .inr ⟨rfl, by omega⟩⟩
  have loop : ∀ (j r : Nat) (i : Int32) (τ : kx_S), i.toInt = (r : Int) → r ≤ nr → qa_ T N g κ st na nr nl m day RL s B n (ag_ (dl_ nr a r 0) a) τ → hf_ ag_W g κ st na σ τ → vX11_ageLogs_2 Q j (g 0) i τ := by
    intro j
    induction j with
    | zero => intro _ _ _ _ _ _ _; exact trivial
    | succ j ih =>
      intro r i τ hi hr H F
      have HH := H
      obtain ⟨J, h0, h1, h2, h3, h4, h7, hj⟩ := HH
      unfold vX11_ageLogs_2
      intro _ a21 e21 _
      obtain rfl := Option.some.inj ((yg1 J).1.symm.trans e21)
      unfold vJx4a65c_size_8abf5
      intro _
      rw [ki_le, h1.1, hi]
      refine ⟨fun q => ?_, fun q _ => ?_⟩
      · have e : r = nr := by omega
        refine kk τ ?_ F
        unfold a_age
        rw [ag_c (P' := dl_ nr a r 0) (fun y hy => ⟨fun _ => ?_, fun _ => trivial⟩)]
        · exact H
        · by_cases hl : y < nl
          · obtain ⟨r', c', z1, z2, z3⟩ := A6 y hl hy
            exact ⟨r', c', z1, z2, z3, .inl (by omega)⟩
          · exact absurd hy (hz y (by omega))
      · have hlt : r < nr := by omega
        intro a28 e28 _
        obtain rfl := Option.some.inj ((yg1 J).1.symm.trans e28)
        refine vy_get (fun _ _ => ?_)
        obtain ⟨⟨b0, b00⟩, _⟩ := h1.2 r hlt
        rw [ki_toN hi, b0]
        intro a33 e33 _
        obtain rfl := Option.some.inj e33
        intro j2
        refine loop2 r i _ hlt (fun v Hv Fv => ?_) j2 0 0 τ (by decide) (Nat.zero_le _) H F
        unfold vX11_ageLogs_66
        intro v1 e1
        exact ih (r + 1) v1 v (by rw [e1]; exact ki_addN hi ki_z1 (by omega)) hlt Hv Fv
  unfold vX11_ageLogs
  intro j
  refine loop j 0 0 σ (by decide) (Nat.zero_le _) ?_ hf_refl
  rw [ag_0 (fun x => ?_)]
  · exact H0
  · rintro ⟨r', c', _, _, _, z4⟩
    rcases z4 with w | w <;> omega
end
