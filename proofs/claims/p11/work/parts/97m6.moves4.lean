/-! the class: a log moves on, a cell's logs, all logs -/
theorem fil_one {P R : List Nat} {x : Nat} (h : (P ++ x :: R).Nodup) : (P ++ x :: R).filter (fun z => decide (¬ z = x)) = P ++ R := by
  rw [List.nodup_append] at h
  obtain ⟨_, h2, h3⟩ := h
  rw [List.nodup_cons] at h2
  rw [List.filter_append, List.filter_cons_of_neg (by simp)]
  have e1 : P.filter (fun z => decide (¬ z = x)) = P := by
    rw [List.filter_eq_self]
    intro y hy
    exact decide_eq_true (fun e => h3 y hy x (List.mem_cons_self) e)
  have e2 : R.filter (fun z => decide (¬ z = x)) = R := by
    rw [List.filter_eq_self]
    intro y hy
    exact decide_eq_true (fun e => h2.1 (by rw [← e]; exact hy))
  rw [e1, e2]
theorem qs_go {a : ra_T} {r c sp x : Nat} : qs_ a (a_go a r c sp x) := by
  unfold a_go
  split
  · next b e => exact qs_drop (qs_on e)
  · exact qs_refl
theorem qs_logs {r c sp : Nat} : ∀ (L : List Nat) (a : ra_T), qs_ a (a_logs r c sp L a) := by
  intro L
  induction L with
  | nil => intro a; exact qs_refl
  | cons x L ih => intro a; exact qs_trans qs_go (ih _)
theorem qs_cell {a : ra_T} {r c sp : Nat} : qs_ a (a_cell a r c sp) := by
  unfold a_cell
  split
  · exact qs_logs _ _
  · exact qs_refl
theorem qs_cells {r sp : Nat} : ∀ (c : Nat) (a : ra_T), qs_ a (a_cells r sp c a) := by
  intro c
  induction c with
  | zero => intro a; exact qs_refl
  | succ c ih => intro a; exact qs_trans qs_cell (ih _)
theorem qs_reach {a : ra_T} {r : Nat} : qs_ a (a_reach a r) := by
  unfold a_reach
  split
  · exact qs_refl
  · exact qs_cells _ _
section
variable {T : Nat → Nat → Nat} {N : Nat → Nat} {g κ : Nat → Nat} {st na nr nl m : Nat} {day : Nat → Int32} {RL : Nat → List (Bool × List Int32)} {s : sz_T} {B n : Nat}
theorem vq_on7 {a : ra_T} {σ : kx_S} {r x : Nat} {l3 : Int32} {K : Nat → Nat → Nat → Int32 → Int32 → Int32 → kx_S → Prop} {Q : Int32 → kx_S → Prop} (H : qa_ T N g κ st na nr nl m day RL s B n a σ) (hr : r < nr) : ∀ (j sp c : Nat) (l5 l6 : Int32), l5.toInt = (c : Int) → c ≤ 12 → l6.toInt = (sp : Int) → (∀ v5 v6 : Int32, v5.toInt = ((a_jump a r sp c).1 : Int) → v6.toInt = ((a_jump a r sp c).2 : Int) → K (g 0) (T 8 x) (T 10 r) l3 v5 v6 σ) → vX11_movesOn_7 K Q j (g 0) (T 8 x) (T 10 r) l3 l5 l6 σ := by
  obtain ⟨J, h0, h1, h2, h3, h4, h7, hj⟩ := H
  intro j
  induction j with
  | zero => intro _ _ _ _ _ _ _ _; exact trivial
  | succ j ih =>
    intro sp c l5 l6 hc h12 hs kk
    unfold vX11_movesOn_7
    rw [ki_le, ki_z0, hs]
    cases sp with
    | zero => exact ⟨fun _ => kk l5 l6 hc hs, fun q => absurd (by omega) q⟩
    | succ sp =>
      refine ⟨fun q => absurd q (by omega), fun _ _ => ?_⟩
      obtain ⟨w, ew, hc1⟩ : ∃ w, w = l5 + 1 ∧ w.toInt = ((c + 1 : Nat) : Int) := ⟨_, rfl, by
        rw [ki_add (by rw [hc, ki_z1]; omega) (by rw [hc, ki_z1]; omega), hc, ki_z1]
        omega⟩
      rw [← ew]
      have b4 := (h1.2 r hr).2.2.2.2.2.2.2.2.1
      refine vq_canTake h1 h2 h3 hr hc1 (fun d o => ⟨fun q => absurd q (by decide), fun _ => ?_⟩) (fun no => ⟨fun _ => kk l5 l6 ?_ ?_, fun q => absurd rfl q⟩)
      · intro v6 e6 v7 e7
        have ej : a_jump a r (sp + 1) c = a_jump a r sp (c + 1) := if_pos ⟨d, o⟩
        rw [ej] at kk
        refine ih sp (c + 1) v6 v7 (by rw [e6]; exact hc1) (by omega) ?_ kk
        have hhi := ki_hi l6
        rw [hs] at hhi
        rw [e7, ki_add (by rw [hs, ki_zm]; omega) (by rw [hs, ki_zm]; omega), hs, ki_zm]
        omega
      · rw [show a_jump a r (sp + 1) c = (c, sp + 1) from if_neg no]
        exact hc
      · rw [show a_jump a r (sp + 1) c = (c, sp + 1) from if_neg no]
        exact hs
theorem vq_movesOn {a : ra_T} {σ : kx_S} {r c sp x : Nat} {ci si : Int32} {Q : Int32 → kx_S → Prop} (hB : B ≤ 3000) (hn : n ≤ 200) (h10 : nr ≤ 10) (H : qa_ T N g κ st na nr nl m day RL s B n a σ) (hr : r < nr) (hx : x < nl) (hc : ci.toInt = (c : Int)) (h12 : c ≤ 12) (hs : si.toInt = (sp : Int))
    (k1 : ∀ b τ, a_on a r c sp x = some b → yJ_ s g κ B n τ → hf_ wm_W g κ st na σ τ → q3_ T nr b τ → q4_ T (g 2) nl b τ → Q 1 τ) (k0 : a_on a r c sp x = none → Q 0 σ) : vX11_movesOn (g 0) (T 8 x) (T 10 r) ci si σ Q := by
  unfold vX11_movesOn
  intro j
  refine vq_on7 H hr j sp c ci si hc h12 hs (fun v5 v6 e5 e6 => ?_)
  have HH := H
  obtain ⟨J, h0, h1, h2, h3, h4, h7, hj⟩ := HH
  obtain ⟨_, _, _, _, _, b1, b2, b3, b4⟩ := h1.2 r hr
  obtain ⟨j1, j2⟩ := a_jump_ge a r sp c
  have n64 : (if 0 < (a_jump a r sp c).2 ∧ (a_jump a r sp c).1 + 1 = ln_ a r then a_exit a r x else none) = none → vX11_movesOn_64 Q (T 8 x) (T 10 r) ci v5 σ := by
    intro e
    have eo : a_on a r c sp x = if (a_jump a r sp c).1 = c then none else some (a_take a x r (a_jump a r sp c).1) := by
      unfold a_on
      rw [e]
    unfold vX11_movesOn_64
    refine ⟨fun q => k0 ?_, fun q _ => ?_⟩
    · rw [eo, if_pos]
      have := congrArg Int32.toInt q
      rw [e5, hc] at this
      omega
    · have ne : ¬ (a_jump a r sp c).1 = c := fun z => q (ki_eq.2 (by rw [e5, hc, z]))
      rw [if_neg ne] at eo
      obtain ⟨j3, j4⟩ := j2 ne
      refine vq_takes (st := st) (na := na) J hB hn h0 h1 h2 h3 h4 h10 hr e5 hx (fun _ _ τ J' F' q3' q4' => ⟨fun z => absurd z (by decide), fun _ => k1 _ τ eo J' (hf_sub F' (by decide)) q3' q4'⟩) (fun no => absurd ⟨j3, j4⟩ no)
  unfold vX11_movesOn_32
  rw [ki_le, ki_z0, e6]
  refine ⟨fun q => n64 (if_neg (by omega)), fun q _ a15 e15 _ => ?_⟩
  obtain rfl := Option.some.inj (b1.symm.trans e15)
  unfold vJx4a65c_size_8abf5
  intro _
  obtain ⟨w, ew, hs1⟩ : ∃ w, w = xi σ 18 (T 21 r) - 1 ∧ w.toInt = (ln_ a r : Int) - 1 := ⟨_, rfl, by
    rw [ki_sub (by rw [b3, ki_z1]; omega) (by rw [b3, ki_z1]; omega), b3, ki_z1]⟩
  rw [← ew, ki_eq, e5, hs1]
  refine ⟨fun d => n64 (if_neg (by omega)), fun d _ => ?_⟩
  have cond : 0 < (a_jump a r sp c).2 ∧ (a_jump a r sp c).1 + 1 = ln_ a r := by omega
  rw [if_pos cond] at n64
  refine vq_leaves hB hn h10 H hr hx (fun b τ e J' F' q3' q4' => ⟨fun z => absurd z (by decide), fun _ => k1 b τ ?_ J' F' q3' q4'⟩) (fun e => ⟨fun _ => n64 e, fun z => absurd rfl z⟩)
  unfold a_on
  rw [if_pos cond, e]
theorem vq_logs {r c sp : Nat} {ci si : Int32} {Q : kx_S → Prop} {σ : kx_S} (hB : B ≤ 3000) (hn : n ≤ 200) (h10 : nr ≤ 10) (hr : r < nr) (hc : ci.toInt = (c : Int)) (hs : si.toInt = (sp : Int)) : ∀ (j : Nat) (R P : List Nat) (a : ra_T) (l5 l6 : Int32) (τ : kx_S), l5.toInt = (P.length : Int) → l6.toInt = (R.length : Int) → a.2 (12 * r + c) = P ++ R → c < ln_ a r → (∀ r, r < nr → ¬ a.1 22 r = 0 → (a.1 28 r).toInt ≤ 100) → qa_ T N g κ st na nr nl m day RL s B n a τ → ao_ nr nl a → hf_ wm_W g κ st na σ τ → (∀ τ', qa_ T N g κ st na nr nl m day RL s B n (a_logs r c sp R a) τ' → ao_ nr nl (a_logs r c sp R a) → hf_ wm_W g κ st na σ τ' → Q τ') → vX11_moveLogsOfCell_39 Q j (g 0) (T 10 r) ci si (T 3 (12 * r + c)) l5 l6 τ := by
  intro j
  induction j with
  | zero => intro _ _ _ _ _ _ _ _ _ _ _ _ _ _ _; exact trivial
  | succ j ih =>
    intro R P a l5 l6 τ h5 h6 hL hlt hroom H A F kk
    unfold vX11_moveLogsOfCell_39
    rw [ki_le, ki_z0, h6]
    cases R with
    | nil => exact ⟨fun _ => kk τ H A F, fun q => absurd (Int.le_refl 0) q⟩
    | cons x R =>
      refine ⟨fun q => absurd q (by rw [List.length_cons]; omega), fun _ _ => ?_⟩
      have HH := H
      obtain ⟨J, h0, h1, h2, h3, h4, h7, hj⟩ := HH
      obtain ⟨⟨c1, c2⟩, c3, c4, c5, c6⟩ := h2 r hr c hlt
      have hk := vk_cell hr hlt
      obtain ⟨d1, d2, d3⟩ := h3 _ hk
      obtain ⟨t1, t2, t3⟩ := h0.1 _ hk
      have hx : x ∈ a.2 (12 * r + c) := by rw [hL]; exact List.mem_append.2 (.inr (List.mem_cons_self))
      have hxl := (A.2.1 _ x hx).1
      have hlen : (a.2 (12 * r + c)).length = P.length + (R.length + 1) := by rw [hL, List.length_append, List.length_cons]
      have hcap := (A.2.2.2.1 r c hr hlt).1
      have hcar := (A.1 r hr).2.2.1.2
      have hxe : xe τ (T 1 (12 * r + c)) P.length = some (T 8 x) := d3 P.length x (by rw [hL, List.getElem?_append_right (Nat.le_refl _), Nat.sub_self]; rfl)
      intro a4 e4 _
      obtain rfl := Option.some.inj (c4.symm.trans e4)
      unfold vJx4a65c_size_8abf5
      intro _
      rw [ki_le, d2, h5]
      refine ⟨fun q => absurd q (by omega), fun _ _ => ?_⟩
      intro a11 e11 _
      obtain rfl := Option.some.inj (c4.symm.trans e11)
      refine vy_get (fun _ _ => ?_)
      have e5 : l5.toNatClampNeg = P.length := by rw [ki_nat, h5]; omega
      rw [e5, hxe]
      intro a16 e16 _ _
      obtain rfl := Option.some.inj e16
      have dec : ∀ v1 : Int32, v1 = l6 + (-1) → v1.toInt = (R.length : Int) := by
        intro v1 e
        rw [e, ki_add (by rw [h6, ki_zm, List.length_cons]; omega) (by rw [h6, ki_zm, List.length_cons]; omega), h6, ki_zm, List.length_cons]
        omega
      have l12 : c ≤ 12 := by have := (A.1 r hr).1; omega
      refine vq_movesOn hB hn h10 H hr hxl hc l12 hs (fun b τ1 e J1 F1 q31 q41 => ⟨fun z => absurd z (by decide), fun _ _ => ?_⟩) (fun e => ⟨fun _ => ?_, fun z => absurd rfl z⟩)
      · have eg : a_go a r c sp x = a_drop b x (12 * r + c) := by unfold a_go; rw [e]
        obtain ⟨o1, o2⟩ := ao_go h10 A hr hlt hx e hroom
        have k1 := qs_on e
        have H1 := qa_mv H k1 J1 F1 q31 q41
        obtain ⟨_, g0, g1, g2, g3, g4, g7, gj⟩ := H1
        have hlt1 : c < ln_ b r := by rw [qs_ln k1]; exact hlt
        have hk1 := vk_cell (nr := nr) hr hlt1
        obtain ⟨_, _, c4', _⟩ := g2 r hr c hlt1
        obtain ⟨d1', d2', _⟩ := g3 _ hk1
        intro a25 e25 _
        obtain rfl := Option.some.inj (c4'.symm.trans e25)
        have hL1 : b.2 (12 * r + c) = P ++ x :: R := by rw [o1]; exact hL
        have hl1 : (b.2 (12 * r + c)).length = P.length + (R.length + 1) := by rw [o1]; exact hlen
        refine vy_remlog J1 d1' t1 t2 h5 d2' (by omega) (fun q τ2 J2 A2 A3 A4 X2 => ?_)
        have q32 := q3_rem (N := N) g3 hk1 (fun k hk' => (g0.1 k hk').2.2) (by omega) hL1 A2 A3 A4
        have F2 : hf_ [] g κ st na τ1 τ2 := hf_rem hf_refl A2 X2 t1 t2
        have q42 := q4_hf (W := []) g4 F2 (yg2 J1).2.1 (fun f hf => absurd hf (List.not_mem_nil))
        have ed : a_drop b x (12 * r + c) = ks_ b (12 * r + c) (P ++ R) := by
          unfold a_drop
          rw [hL1, fil_one (by rw [← hL]; exact A.2.2.1 _)]
        have H2 : qa_ T N g κ st na nr nl m day RL s B n (ks_ b (12 * r + c) (P ++ R)) τ2 := qa_mv (qa_mv H k1 J1 F1 q31 q41) (qs_refl (a := b)) J2 (hf_sub F2 (fun f hf => absurd hf (List.not_mem_nil))) q32 q42
        unfold vX11_moveLogsOfCell_103
        intro v1 e1
        have kk : ∀ τ', qa_ T N g κ st na nr nl m day RL s B n (a_logs r c sp R (a_go a r c sp x)) τ' → ao_ nr nl (a_logs r c sp R (a_go a r c sp x)) → hf_ wm_W g κ st na σ τ' → Q τ' := kk
        rw [eg, ed] at kk
        rw [ed] at o2
        refine ih R P (ks_ b (12 * r + c) (P ++ R)) l5 v1 τ2 h5 (dec v1 e1) ks_s hlt1 (fun r' hr' hb => ?_) H2 o2 (hf_trans F (hf_trans F1 (hf_sub F2 (fun f hf => absurd hf (List.not_mem_nil))))) kk
        have hb : ¬ b.1 22 r' = 0 := hb
        show (b.1 28 r').toInt ≤ 100
        rw [k1 22 (by decide) (by decide) (by decide)] at hb
        rw [k1 28 (by decide) (by decide) (by decide)]
        exact hroom r' hr' hb
      · have eg : a_go a r c sp x = a := by unfold a_go; rw [e]
        intro v23 e23
        unfold vX11_moveLogsOfCell_103
        intro v1 e1
        have kk : ∀ τ', qa_ T N g κ st na nr nl m day RL s B n (a_logs r c sp R (a_go a r c sp x)) τ' → ao_ nr nl (a_logs r c sp R (a_go a r c sp x)) → hf_ wm_W g κ st na σ τ' → Q τ' := kk
        rw [eg] at kk
        refine ih R (P ++ [x]) a v23 v1 τ ?_ (dec v1 e1) (by rw [hL, List.append_assoc]; rfl) hlt hroom H A F kk
        rw [e23, ki_add (by rw [h5, ki_z1]; omega) (by rw [h5, ki_z1]; omega), h5, ki_z1, List.length_append]
        rfl
theorem vq_cell {r c sp : Nat} {a : ra_T} {ci si : Int32} {Q : kx_S → Prop} {σ : kx_S} (hB : B ≤ 3000) (hn : n ≤ 200) (h10 : nr ≤ 10) (hr : r < nr) (hc : ci.toInt = (c : Int)) (hs : si.toInt = (sp : Int)) (hlt : c < ln_ a r) (hroom : ∀ r, r < nr → ¬ a.1 22 r = 0 → (a.1 28 r).toInt ≤ 100) (H : qa_ T N g κ st na nr nl m day RL s B n a σ) (A : ao_ nr nl a) (kk : ∀ τ, qa_ T N g κ st na nr nl m day RL s B n (a_cell a r c sp) τ → ao_ nr nl (a_cell a r c sp) → hf_ wm_W g κ st na σ τ → Q τ) : vX11_moveLogsOfCell (g 0) (T 10 r) ci si σ Q := by
  have HH := H
  obtain ⟨J, h0, h1, h2, h3, h4, h7, hj⟩ := HH
  obtain ⟨_, _, _, _, _, b1, b2, b3, b4⟩ := h1.2 r hr
  obtain ⟨⟨c1, c2⟩, c3, c4, c5, c6⟩ := h2 r hr c hlt
  obtain ⟨d1, d2, d3⟩ := h3 _ (vk_cell hr hlt)
  unfold vX11_moveLogsOfCell
  intro _ a31 e31 _
  obtain rfl := Option.some.inj (b1.symm.trans e31)
  refine vy_get (fun _ _ => ?_)
  have ec : ci.toNatClampNeg = c := by rw [ki_nat, hc]; omega
  rw [ec, c1]
  intro a36 e36 _
  obtain rfl := Option.some.inj e36
  rw [c5]
  refine ⟨fun e a40 e40 _ => ?_, fun e => kk σ ?_ ?_ hf_refl⟩
  · obtain rfl := Option.some.inj (c4.symm.trans e40)
    unfold vJx4a65c_size_8abf5
    intro _ j
    have eg : a_cell a r c sp = a_logs r c sp (a.2 (12 * r + c)) a := if_pos e
    rw [eg] at kk
    exact vq_logs hB hn h10 hr hc hs j (a.2 (12 * r + c)) [] a 0 _ σ rfl d2 rfl hlt hroom H A hf_refl kk
  · rw [show a_cell a r c sp = a from if_neg e]; exact H
  · rw [show a_cell a r c sp = a from if_neg e]; exact A
theorem vq_cells {r sp : Nat} {r0 l3 : Int32} {K : Nat → Int32 → kx_S → Prop} {Q : kx_S → Prop} {σ : kx_S} (hB : B ≤ 3000) (hn : n ≤ 200) (h10 : nr ≤ 10) (hr : r < nr) (hs : l3.toInt = (sp : Int)) (hsp : ¬ l3.toInt ≤ 0) : ∀ (j c : Nat) (a : ra_T) (l4 : Int32) (τ : kx_S), l4.toInt = (c : Int) - 1 → c ≤ ln_ a r → (∀ r, r < nr → ¬ a.1 22 r = 0 → (a.1 28 r).toInt ≤ 100) → qa_ T N g κ st na nr nl m day RL s B n a τ → ao_ nr nl a → hf_ wm_W g κ st na σ τ → (∀ τ', qa_ T N g κ st na nr nl m day RL s B n (a_cells r sp c a) τ' → ao_ nr nl (a_cells r sp c a) → hf_ wm_W g κ st na σ τ' → K (g 0) r0 τ') → vX11_moveLogs_55 K Q j (g 0) r0 (T 10 r) l3 l4 τ := by
  intro j
  induction j with
  | zero => intro _ _ _ _ _ _ _ _ _ _ _; exact trivial
  | succ j ih =>
    intro c a l4 τ h4 hc hroom H A F kk
    unfold vX11_moveLogs_55
    rw [ki_lt, ki_z0, h4, ki_le, ki_z0]
    cases c with
    | zero => exact ⟨fun _ => kk τ H A F, fun q => absurd (by omega) q⟩
    | succ c =>
      refine ⟨fun q => absurd q (by omega), fun _ => ⟨fun q => absurd q hsp, fun _ _ => ?_⟩⟩
      have l12 := (A.1 r hr).1
      refine vq_cell hB hn h10 hr (c := c) (by omega) hs (by omega) hroom H A (fun τ1 H1 A1 F1 => ?_)
      intro v6 e6
      have k := qs_cell (a := a) (r := r) (c := c) (sp := sp)
      refine ih c (a_cell a r c sp) v6 τ1 ?_ (by rw [qs_ln k]; omega) (fun r' hr' hb => ?_) H1 A1 (hf_trans F F1) kk
      · rw [e6, ki_add (by rw [h4, ki_zm]; omega) (by rw [h4, ki_zm]; omega), h4, ki_zm]
        omega
      · rw [k 22 (by decide) (by decide) (by decide)] at hb
        rw [k 28 (by decide) (by decide) (by decide)]
        exact hroom r' hr' hb
theorem vq_move {a : ra_T} {Q : kx_S → Prop} {σ : kx_S} (hB : B ≤ 3000) (hn : n ≤ 200) (h10 : nr ≤ 10) (hroom : ∀ r, r < nr → ¬ a.1 22 r = 0 → (a.1 28 r).toInt ≤ 100) (H : qa_ T N g κ st na nr nl m day RL s B n a σ) (A : ao_ nr nl a) (kk : ∀ τ, qa_ T N g κ st na nr nl m day RL s B n (a_move nr 0 a) τ → ao_ nr nl (a_move nr 0 a) → hf_ wm_W g κ st na σ τ → Q τ) : vX11_moveLogs (g 0) σ Q := by
  have loop : ∀ (j k r : Nat) (a : ra_T) (i : Int32) (τ : kx_S), i.toInt = (r : Int) → r + k = nr → (∀ r, r < nr → ¬ a.1 22 r = 0 → (a.1 28 r).toInt ≤ 100) → qa_ T N g κ st na nr nl m day RL s B n a τ → ao_ nr nl a → hf_ wm_W g κ st na σ τ → (∀ τ', qa_ T N g κ st na nr nl m day RL s B n (a_move k r a) τ' → ao_ nr nl (a_move k r a) → hf_ wm_W g κ st na σ τ' → Q τ') → vX11_moveLogs_2 Q j (g 0) i τ := by
    intro j
    induction j with
    | zero => intro _ _ _ _ _ _ _ _ _ _ _ _; exact trivial
    | succ j ih =>
      intro k r a i τ hi hk hroom H A F kk
      have HH := H
      obtain ⟨J, h0, h1, h2, h3, h4, h7, hj⟩ := HH
      unfold vX11_moveLogs_2
      intro _ a8 e8 _
      obtain rfl := Option.some.inj ((yg1 J).1.symm.trans e8)
      unfold vJx4a65c_size_8abf5
      intro _
      rw [ki_le, h1.1, hi]
      refine ⟨fun q => ?_, fun q _ => ?_⟩
      · have : k = 0 := by omega
        subst this
        exact kk τ H A F
      · obtain ⟨k, rfl⟩ : ∃ q, k = q + 1 := ⟨k - 1, by omega⟩
        have hr : r < nr := by omega
        intro a15 e15 _
        obtain rfl := Option.some.inj ((yg1 J).1.symm.trans e15)
        refine vy_get (fun _ _ => ?_)
        have ei : i.toNatClampNeg = r := by rw [ki_nat, hi]; omega
        obtain ⟨⟨b0, b00⟩, _, ⟨_, _, b169, _, _⟩, _, _, b1, b2, b3, b4, b5⟩ := h1.2 r hr
        rw [ei, b0]
        intro a20 e20 _
        obtain rfl := Option.some.inj e20
        rw [b169]
        intro v23 e23
        have es : v23 = a_speed a r := e23
        intro a24 e24 _
        obtain rfl := Option.some.inj (b1.symm.trans e24)
        intro _ v29 e29 j2
        have nx : ∀ v1 : Int32, v1 = i + 1 → v1.toInt = ((r + 1 : Nat) : Int) := by
          intro v1 e
          rw [e, ki_add (by rw [hi, ki_z1]; omega) (by rw [hi, ki_z1]; omega), hi, ki_z1]
          omega
        have h29 : v29.toInt = (ln_ a r : Int) - 1 := by
          rw [e29, ki_sub (by rw [b3, ki_z1]; omega) (by rw [b3, ki_z1]; omega), b3, ki_z1]
        have kk : ∀ τ', qa_ T N g κ st na nr nl m day RL s B n (a_move k (r + 1) (a_reach a r)) τ' → ao_ nr nl (a_move k (r + 1) (a_reach a r)) → hf_ wm_W g κ st na σ τ' → Q τ' := kk
        by_cases sp0 : a_speed a r ≤ 0
        · have er : a_reach a r = a := if_pos sp0
          rw [er] at kk
          cases j2 with
          | zero => exact trivial
          | succ j2 =>
            unfold vX11_moveLogs_55
            have go : vX11_moveLogs_78 (vX11_moveLogs_2 Q j) Q (g 0) i τ := by
              unfold vX11_moveLogs_78
              intro v1 e1
              exact ih k (r + 1) a v1 τ (nx v1 e1) (by omega) hroom H A F kk
            rw [es]
            exact ⟨fun _ => go, fun _ => ⟨fun _ => go, fun z => absurd sp0 z⟩⟩
        · have er : a_reach a r = a_cells r (a_speed a r).toNatClampNeg (ln_ a r) a := if_neg sp0
          rw [er] at kk
          have sp1 := sp0
          rw [ki_le, ki_z0] at sp1
          refine vq_cells hB hn h10 hr (sp := (a_speed a r).toNatClampNeg) (by rw [es, ki_nat]; omega) (by rw [es]; exact sp1) j2 (ln_ a r) a v29 τ h29 (Nat.le_refl _) hroom H A F (fun τ1 H1 A1 F1 => ?_)
          unfold vX11_moveLogs_78
          intro v1 e1
          have kq := qs_cells (r := r) (sp := (a_speed a r).toNatClampNeg) (ln_ a r) a
          refine ih k (r + 1) _ v1 τ1 (nx v1 e1) (by omega) (fun r' hr' hb => ?_) H1 A1 F1 kk
          rw [kq 22 (by decide) (by decide) (by decide)] at hb
          rw [kq 28 (by decide) (by decide) (by decide)]
          exact hroom r' hr' hb
  unfold vX11_moveLogs
  intro j
  exact loop j nr 0 a 0 σ (by decide) (by omega) hroom H A hf_refl kk
end
