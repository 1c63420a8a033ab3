/-! what is not there is empty -/
def zi_ (nr nl : Nat) (a : ra_T) : Prop := (∀ r, r < 10 → a.1 22 r = 0 → a.2 (120 + r) = []) ∧ (∀ x, nl ≤ x → a.1 41 x = 0) ∧ wk_ nr a ∧ ∀ r, nr ≤ r → a.1 21 r = 0 ∧ a.1 22 r = 0 ∧ a.1 23 r = 0
theorem wk_same {nr : Nat} {a b : ra_T} (h : wk_ nr a) (e14 : b.1 14 = a.1 14) (e33 : b.1 33 = a.1 33) (e34 : b.1 34 = a.1 34) : wk_ nr b := by
  have el : ∀ r, ln_ b r = ln_ a r := fun r => by unfold ln_; rw [e14]
  intro r c h1 h2 h3
  rw [el] at h3
  rw [e33, e34]
  exact h r c h1 h2 h3
theorem zi_same {nr nl : Nat} {a b : ra_T} (Z : zi_ nr nl a) (e : ∀ f, f ∈ [14, 21, 22, 23, 33, 34, 41] → b.1 f = a.1 f) (e2 : ∀ r, r < 10 → a.1 22 r = 0 → a.2 (120 + r) = [] → b.2 (120 + r) = []) : zi_ nr nl b := by
  obtain ⟨z1, z2, z3, z4⟩ := Z
  refine ⟨fun r hr h => ?_, ?_, wk_same z3 (e 14 (by decide)) (e 33 (by decide)) (e 34 (by decide)), ?_⟩
  · rw [e 22 (by decide)] at h
    exact e2 r hr h (z1 r hr h)
  · rw [e 41 (by decide)]; exact z2
  · rw [e 21 (by decide), e 22 (by decide), e 23 (by decide)]; exact z4
theorem hp_go {a : ra_T} {r c sp x nr nl q : Nat} (h10 : nr ≤ 10) (A : ao_ nr nl a) (hr : r < nr) (hc : c < ln_ a r) (h0 : a.1 22 q = 0) (hq : a.2 (120 + q) = []) : (a_go a r c sp x).2 (120 + q) = [] := by
  have c12 := (A.1 r hr).1
  unfold a_go
  split
  · next b e =>
    show (if 120 + q = 12 * r + c then _ else b.2 (120 + q)) = []
    rw [if_neg (by omega)]
    rcases a_on_cases A hr hc e with ⟨r1, c1, i1, i2, _, _, g5⟩ | ⟨i1, _, g5⟩ | g5
    · have := (A.1 r1 i1).1
      rw [g5]
      show (if 120 + q = 12 * r1 + c1 then _ else a.2 (120 + q)) = []
      rw [if_neg (by omega)]
      exact hq
    · rw [g5]
      have ne : q ≠ r := fun e => i1 (by rw [← e]; exact h0)
      show (if 120 + q = 120 + r then _ else a.2 (120 + q)) = []
      rw [if_neg (by omega)]
      exact hq
    · rw [g5]
      exact hq
  · exact hq
theorem hp_goE {a : ra_T} {r c x nr nl q : Nat} (h10 : nr ≤ 10) (A : ao_ nr nl a) (hr : r < nr) (hc : c < ln_ a r) (h0 : a.1 22 q = 0) (hq : a.2 (120 + q) = []) : (a_goE a r c x).2 (120 + q) = [] := by
  unfold a_goE
  split
  · exact hq
  · exact hp_go h10 A hr hc h0 hq
theorem hp_gosE {r c nr nl q : Nat} (h10 : nr ≤ 10) (hr : r < nr) : ∀ (L : List Nat) (a : ra_T), L.Nodup → aq_ nr nl a → c < ln_ a r → (∀ y ∈ L, y ∈ a.2 (12 * r + c)) → a.1 22 q = 0 → a.2 (120 + q) = [] → (a_gosE r c L a).2 (120 + q) = [] := by
  intro L
  induction L with
  | nil => intro a _ _ _ _ _ h; exact h
  | cons x L ih =>
    intro a nd A hc hm h0 hq
    rw [List.nodup_cons] at nd
    have hx := hm x (List.mem_cons_self)
    obtain ⟨A1, k1, m1⟩ := aq_goE h10 A hr hc hx
    exact ih (a_goE a r c x) nd.2 A1 (by rw [qs_ln k1]; exact hc) (fun y hy => m1 y (hm y (List.mem_cons_of_mem x hy)) (fun e => nd.1 (by rw [← e]; exact hy))) (by rw [k1 22 (by decide) (by decide) (by decide)]; exact h0) (hp_goE h10 A.1 hr hc h0 hq)
theorem hp_cells {r nr nl q : Nat} (h10 : nr ≤ 10) (hr : r < nr) : ∀ (c : Nat) (a : ra_T), c ≤ ln_ a r → aq_ nr nl a → ¬ a_speed a r ≤ 0 → a.1 22 q = 0 → a.2 (120 + q) = [] → (a_cells r (a_speed a r).toNatClampNeg c a).2 (120 + q) = [] := by
  intro c
  induction c with
  | zero => intro a _ _ _ _ h; exact h
  | succ c ih =>
    intro a hc A hs h0 hq
    have e := a_gosE_cell (r := r) (c := c) (a := a)
    rw [if_neg hs] at e
    have i2 := (p3_gosE h10 hr (c := c) (a.2 (12 * r + c)) a (A.1.2.2.1 _) A (by omega) (fun y hy => hy)).2
    have i3 := hp_gosE (q := q) h10 hr (c := c) (a.2 (12 * r + c)) a (A.1.2.2.1 _) A (by omega) (fun y hy => hy) h0 hq
    rw [e] at i2 i3
    have k := qs_cell (a := a) (r := r) (c := c) (sp := (a_speed a r).toNatClampNeg)
    have es := qs_speed k r
    have j1 := ih (a_cell a r c (a_speed a r).toNatClampNeg) (by rw [qs_ln k]; omega) i2 (by rw [es]; exact hs) (by rw [k 22 (by decide) (by decide) (by decide)]; exact h0) i3
    rw [es] at j1
    exact j1
theorem hp_move {nr nl q : Nat} (h10 : nr ≤ 10) : ∀ (k r : Nat) (a : ra_T), r + k = nr → aq_ nr nl a → a.1 22 q = 0 → a.2 (120 + q) = [] → (a_move k r a).2 (120 + q) = [] := by
  intro k
  induction k with
  | zero => intro r a _ _ _ h; exact h
  | succ k ih =>
    intro r a hk A h0 hq
    have h1 : aq_ nr nl (a_reach a r) ∧ (a_reach a r).2 (120 + q) = [] := by
      unfold a_reach
      split
      · exact ⟨A, hq⟩
      · next hs => exact ⟨(p3_cells h10 (by omega) (ln_ a r) a (Nat.le_refl _) A hs).2, hp_cells h10 (by omega) (ln_ a r) a (Nat.le_refl _) A hs h0 hq⟩
    exact ih (r + 1) (a_reach a r) (by omega) h1.1 (by rw [qs_reach 22 (by decide) (by decide) (by decide)]; exact h0) h1.2
theorem hp_saws {r o q : Nat} : ∀ (l : Nat) (a : ra_T), a.2 (120 + q) = [] → (a_saws r o l a).1.2 (120 + q) = [] := by
  intro l
  induction l with
  | zero => intro a h; exact h
  | succ l ih =>
    intro a h
    unfold a_saws
    split
    · exact h
    · next b e =>
      refine ih b ?_
      unfold a_saw1 at e
      split at e
      · exact absurd e (by simp)
      · cases e2 : (a.2 (120 + r)).find? (mt_b a o) with
        | none => rw [e2] at e; exact absurd e (by simp)
        | some x =>
          rw [e2] at e
          have e : some (a_sawn a r o x) = some b := e
          rw [← Option.some.inj e]
          show (if 120 + q = 120 + r then (a.2 (120 + r)).filter (fun z => decide (¬ z = x)) else a.2 (120 + q)) = []
          split
          · next c => rw [← c, h]; rfl
          · exact h
theorem hp_millL {r q : Nat} : ∀ (L : List Nat) (l : Nat) (a : ra_T), a.2 (120 + q) = [] → (a_millL r L l a).2 (120 + q) = [] := by
  intro L
  induction L with
  | nil => intro l a h; exact h
  | cons o L ih => intro l a h; exact ih _ _ (hp_saws l a h)
theorem hp_mills {no q : Nat} : ∀ (k r : Nat) (a : ra_T), a.2 (120 + q) = [] → (a_mills no k r a).2 (120 + q) = [] := by
  intro k
  induction k with
  | zero => intro r a h; exact h
  | succ k ih => intro r a h; exact ih (r + 1) _ (hp_millL _ _ _ h)
theorem cp2_cell {nr : Nat} {a : ra_T} {C : Nat → Nat → Prop} {r c r0 c0 : Nat} (hl : ∀ r, r < nr → ln_ a r ≤ 12) (hc : c < 12) (h : cp2_ nr a C r0 c0 (12 * r + c)) : r < nr ∧ c < ln_ a r := by
  obtain ⟨r', c', h1, h2, h3, _⟩ := h
  have := hl r' h1
  obtain ⟨e1, e2⟩ := cell_ne (r := r') (c := c') (r1 := r) (c1 := c) (by omega) hc h3
  rw [e1, e2]
  exact ⟨h1, h2⟩
theorem wk_jam {nr : Nat} {a : ra_T} (hl : ∀ r, r < nr → ln_ a r ≤ 12) (h : wk_ nr a) : wk_ nr (a_jam nr a) := by
  intro r c h1 h2 h3
  have h3 : ¬ (r < nr ∧ c < ln_ a r) := h3
  obtain ⟨z1, z2⟩ := h r c h1 h2 h3
  refine ⟨?_, z2⟩
  show kn_f (cp2_ nr a (jC_ a) nr 0) 1 (a.1 33) (12 * r + c) = 0
  rw [kn_n (fun q => h3 (cp2_cell hl h2 q))]
  exact z1
theorem wk_known {nr nc : Nat} {a : ra_T} (hl : ∀ r, r < nr → ln_ a r ≤ 12) (h : wk_ nr a) : wk_ nr (a_known nr nc a) := by
  intro r c h1 h2 h3
  have h3 : ¬ (r < nr ∧ c < ln_ a r) := h3
  obtain ⟨z1, z2⟩ := h r c h1 h2 h3
  refine ⟨z1, ?_⟩
  show kn_f (cp2_ nr a (kC_ nc a) nr 0) 1 (a.1 34) (12 * r + c) = 0
  rw [kn_n (fun q => h3 (cp2_cell hl h2 q))]
  exact z2
theorem upd0 {F : Nat → Int32} {i k : Nat} (h : F k = 0) : upd F i 0 k = 0 := by
  by_cases c : k = i
  · rw [c, w_updS]
  · rw [w_updN c]; exact h
theorem wk_free1 {nr k : Nat} {now : Int32} {a : ra_T} (h : wk_ nr a) : wk_ nr (a_free1 now a k) := by
  unfold a_free1
  split
  · exact h
  · split
    · intro r c h1 h2 h3
      obtain ⟨z1, z2⟩ := h r c h1 h2 h3
      exact ⟨upd0 z1, upd0 z2⟩
    · exact h
theorem wk_free {nr : Nat} {now : Int32} : ∀ (m k : Nat) (a : ra_T), wk_ nr a → wk_ nr (a_free now m k a) := by
  intro m
  induction m with
  | zero => intro k a h; exact h
  | succ m ih => intro k a h; exact ih _ _ (wk_free1 h)
theorem zi_hour {nr nl nc no : Nat} {now : Int32} {w : wt_T} {a : ra_T} (h10 : nr ≤ 10) (A : aK_ nr nl nc now 0 a) (Z : zi_ nr nl a) : zi_ nr nl (a_hour nr nc no now w a) := by
  unfold a_hour
  have Z1 : zi_ nr nl (aw_ a w) := zi_same Z (fun f hf => aw_f (by intro e; rw [e] at hf; exact absurd hf (by decide)) (by intro e; rw [e] at hf; exact absurd hf (by decide))) (fun _ _ _ h => h)
  have A1 : aK_ nr nl nc now 0 (aw_ a w) := aK_w A
  generalize aw_ a w = a1 at *
  have q2 : qs_ a1 (a_move nr 0 a1) := (p3_move h10 nr 0 a1 (by omega) A1.1).2.2
  have Z2 : zi_ nr nl (a_move nr 0 a1) := zi_same Z1 (fun f hf => q2 f (by intro e; rw [e] at hf; exact absurd hf (by decide)) (by intro e; rw [e] at hf; exact absurd hf (by decide)) (by intro e; rw [e] at hf; exact absurd hf (by decide))) (fun r _ h0 h => hp_move h10 nr 0 a1 (by omega) A1.1 h0 h)
  have A2 := aK_m h10 A1
  clear q2 Z1 A1
  generalize a_move nr 0 a1 = a2 at *
  have hl : ∀ r, r < nr → ln_ a2 r ≤ 12 := fun r hr => (A2.1.1.1 r hr).1
  have Z3 : zi_ nr nl (a_jam nr a2) := ⟨Z2.1, Z2.2.1, wk_jam hl Z2.2.2.1, Z2.2.2.2⟩
  have A3 := aK_j A2
  clear Z2 A2 hl
  generalize a_jam nr a2 = a3 at *
  obtain ⟨f1, f2⟩ := a_free_c (now := now) nc 0 a3
  have Z4 : zi_ nr nl (a_free now nc 0 a3) := by
    obtain ⟨z1, z2, z3, z4⟩ := Z3
    refine ⟨?_, ?_, wk_free nc 0 a3 z3, ?_⟩
    · rw [f1 22 (by decide) (by decide) (by decide), f2]; exact z1
    · rw [f1 41 (by decide) (by decide) (by decide)]; exact z2
    · rw [f1 21 (by decide) (by decide) (by decide), f1 22 (by decide) (by decide) (by decide), f1 23 (by decide) (by decide) (by decide)]; exact z4
  have A4 := aK_f A3
  clear Z3 A3 f1 f2
  generalize a_free now nc 0 a3 = a4 at *
  have hl : ∀ r, r < nr → ln_ a4 r ≤ 12 := fun r hr => (A4.1.1.1 r hr).1
  have Z5 : zi_ nr nl (a_known nr nc a4) := ⟨Z4.1, Z4.2.1, wk_known hl Z4.2.2.1, Z4.2.2.2⟩
  have A5 := aK_k (nc := nc) A4
  clear Z4 A4 hl
  generalize a_known nr nc a4 = a5 at *
  have Z6 : zi_ nr nl (a_age a5) := by
    obtain ⟨z1, z2, z3, z4⟩ := Z5
    refine ⟨fun r hr h => ?_, fun x hx => ?_, wk_same z3 (ag_o (by decide) (by decide)) (ag_o (by decide) (by decide)) (ag_o (by decide) (by decide)), ?_⟩
    · rw [show (a_age a5).1 22 = a5.1 22 from ag_o (by decide) (by decide)] at h
      show (a5.2 (120 + r)).filter _ = []
      rw [z1 r hr h]
      rfl
    · rw [show (a_age a5).1 41 x = a5.1 41 x from ag_41n (fun q => A5.2.1 x hx q.2)]
      exact z2 x hx
    · rw [show (a_age a5).1 21 = a5.1 21 from ag_o (by decide) (by decide), show (a_age a5).1 22 = a5.1 22 from ag_o (by decide) (by decide), show (a_age a5).1 23 = a5.1 23 from ag_o (by decide) (by decide)]
      exact z4
  have A6 := aK_a A5
  generalize a_age a5 = a6 at *
  have gm := (qm_mills (no := no) nr 0 a6).1
  exact zi_same Z6 (fun f hf => gm f (by intro e; rw [e] at hf; exact absurd hf (by decide)) (by intro e; rw [e] at hf; exact absurd hf (by decide)) (by intro e; rw [e] at hf; exact absurd hf (by decide)) (by intro e; rw [e] at hf; exact absurd hf (by decide))) (fun r _ _ h => hp_mills nr 0 a6 h)
theorem zi_hours {nr nl nc no : Nat} {dm gt ml : Nat → Int32} (h10 : nr ≤ 10) : ∀ (k : Nat) (p : Int32 × ra_T × wt_T), p.1.toInt + (k : Int) ≤ 20000 → aK_ nr nl nc p.1 0 p.2.1 → zi_ nr nl p.2.1 → zi_ nr nl (ah_ nr nc no dm gt ml k p).2.1 := by
  intro k
  induction k with
  | zero => intro p _ _ Z; exact Z
  | succ k ih =>
    intro p hp A Z
    have h0 := A.2.2.1
    have hp1 : (p.1 + 1).toInt = p.1.toInt + 1 := by rw [ki_add (by rw [ki_z1]; omega) (by rw [ki_z1]; omega), ki_z1]
    have A' : aK_ nr nl nc p.1 nc (a_hour nr nc no p.1 (w_hour nr dm gt ml p.2.2) p.2.1) := by
      unfold a_hour
      exact aK_s h10 (aK_a (aK_k (aK_f (aK_j (aK_m h10 (aK_w A))))))
    exact ih (p.1 + 1, a_hour nr nc no p.1 (w_hour nr dm gt ml p.2.2) p.2.1, w_hour nr dm gt ml p.2.2) (by show (p.1 + 1).toInt + _ ≤ _; rw [hp1]; omega) (aK_next hp1 (by omega) A') (zi_hour h10 A Z)
