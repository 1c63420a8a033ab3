/-! what each part of an hour keeps -/
/-- fields of which the order of the river speaks, and its rows -/
theorem ao_same {nr nl : Nat} {a b : ra_T} (A : ao_ nr nl a) (e14 : b.1 14 = a.1 14) (e15 : b.1 15 = a.1 15) (e13 : b.1 13 = a.1 13) (e38 : b.1 38 = a.1 38) (e39 : b.1 39 = a.1 39) (e40 : b.1 40 = a.1 40) (e2 : b.2 = a.2) : ao_ nr nl b := by
  have el : ∀ r, ln_ b r = ln_ a r := fun r => by unfold ln_; rw [e14]
  unfold ao_ vk2_ at A ⊢
  simp only [el, e15, e13, e38, e39, e40, e2]
  exact A
theorem rsz_same {a b : ra_T} (S : rsz_ a) (e2 : b.2 = a.2) : rsz_ b := by
  unfold rsz_ at S ⊢
  rw [e2]
  exact S
theorem a_free_c {now : Int32} : ∀ (m k : Nat) (a : ra_T), (∀ f, f ≠ 33 → f ≠ 34 → f ≠ 46 → (a_free now m k a).1 f = a.1 f) ∧ (a_free now m k a).2 = a.2 := by
  intro m
  induction m with
  | zero => intro k a; exact ⟨fun _ _ _ _ => rfl, rfl⟩
  | succ m ih =>
    intro k a
    obtain ⟨e1, e2, _⟩ := a_free1_c (now := now) (a := a) (k := k)
    obtain ⟨i1, i2⟩ := ih (k + 1) (a_free1 now a k)
    exact ⟨fun f h1 h2 h3 => (i1 f h1 h2 h3).trans (e1 f h1 h2 h3), i2.trans e2⟩
theorem co_free {nr nc : Nat} {now : Int32} : ∀ (m k : Nat) (a : ra_T), k + m = nc → co_ nr nc now k a → co_ nr nc now nc (a_free now m k a) := by
  intro m
  induction m with
  | zero => intro k a h C; have : k = nc := by omega
            subst this; exact C
  | succ m ih => intro k a h C; exact ih (k + 1) _ (by omega) (co_free1 C)
theorem ao_age {nr nl : Nat} {a : ra_T} (A : ao_ nr nl a) : ao_ nr nl (a_age a) := by
  obtain ⟨A1, A2, A3, A4, A5, A6⟩ := A
  have e14 : (a_age a).1 14 = a.1 14 := ag_o (by decide) (by decide)
  have e15 : (a_age a).1 15 = a.1 15 := ag_o (by decide) (by decide)
  have e13 : (a_age a).1 13 = a.1 13 := ag_o (by decide) (by decide)
  have e39 : (a_age a).1 39 = a.1 39 := ag_o (by decide) (by decide)
  have e40 : (a_age a).1 40 = a.1 40 := ag_o (by decide) (by decide)
  have el : ∀ r, ln_ (a_age a) r = ln_ a r := fun r => by unfold ln_; rw [e14]
  have mem : ∀ {x k}, x ∈ (a_age a).2 k ↔ x ∈ a.2 k ∧ ¬ su_ a x := by
    intro x k
    refine ag_mem.trans ⟨fun z => ⟨z.1, fun w => z.2 ⟨trivial, w⟩⟩, fun z => ⟨z.1, fun w => z.2 w.2⟩⟩
  have len : ∀ k, ((a_age a).2 k).length ≤ (a.2 k).length := fun k => List.length_filter_le _ _
  have f38 : ∀ x, ¬ su_ a x → (a_age a).1 38 x = a.1 38 x := fun x h => ag_38n (fun z => h z.2)
  refine ⟨fun r hr => ?_, fun k x hx => ?_, fun k => (A3 k).filter _, fun r c hr hc => ⟨?_, fun x hx => ?_⟩, fun r hr => ⟨?_, fun x hx => ?_⟩, fun x hx h38 => ?_⟩
  · rw [el, e15, e13]; exact A1 r hr
  · obtain ⟨z1, z2⟩ := A2 k x (mem.1 hx).1
    refine ⟨z1, ?_⟩
    unfold vk2_ at z2 ⊢
    simp only [el]
    exact z2
  · rw [el] at hc
    have := len (12 * r + c)
    have := (A4 r c hr hc).1
    rw [e15]
    omega
  · rw [el] at hc
    obtain ⟨m1, m2⟩ := mem.1 hx
    rw [f38 x m2, e39, e40]
    exact (A4 r c hr hc).2 x m1
  · have := len (120 + r)
    have := (A5 r hr).1
    omega
  · obtain ⟨m1, m2⟩ := mem.1 hx
    rw [f38 x m2, e39]
    exact (A5 r hr).2 x m1
  · by_cases hs : su_ a x
    · have e5 : (a_age a).1 38 x = 5 := ag_38y trivial hs
      rw [e5] at h38
      exact absurd h38 (by decide)
    · rw [f38 x hs] at h38
      obtain ⟨r, c, i1, i2, i3⟩ := A6 x hx h38
      exact ⟨r, c, i1, by rw [el]; exact i2, mem.2 ⟨i3, hs⟩⟩
theorem rsz_age {a : ra_T} (S : rsz_ a) : rsz_ (a_age a) := ⟨fun j hj => Nat.le_trans (List.length_filter_le _ _) (S.1 j hj), fun q hq => Nat.le_trans (List.length_filter_le _ _) (S.2 q hq)⟩
/-- who is sawn stays so -/
def p3_ (a b : ra_T) : Prop := (∀ y, a.1 38 y = 3 → b.1 38 y = 3) ∧ b.1 42 = a.1 42 ∧ b.1 36 = a.1 36 ∧ b.1 6 = a.1 6
theorem p3_refl {a : ra_T} : p3_ a a := ⟨fun _ h => h, rfl, rfl, rfl⟩
theorem p3_trans {a b c : ra_T} (h : p3_ a b) (k : p3_ b c) : p3_ a c := ⟨fun y z => k.1 y (h.1 y z), k.2.1.trans h.2.1, k.2.2.1.trans h.2.2.1, k.2.2.2.trans h.2.2.2⟩
theorem rB_p3 {nl : Nat} {a b : ra_T} {μ u : km_S} (h : rB_ nl a μ) (k : p3_ a b) (e : km_a u 43 = km_a μ 43) : rB_ nl b u := by
  obtain ⟨k1, k2, k3, k4⟩ := k
  obtain ⟨h1, h2, h3, h4⟩ := h
  unfold rB_
  rw [k2, k3, k4, e]
  exact ⟨fun x hx => ⟨(h1 x hx).1, fun q => (h1 x hx).2 (fun z => q (k1 x z))⟩, h2, h3, h4⟩
theorem p3_goE {a : ra_T} {r c x nr nl : Nat} (A : aq_ nr nl a) (hr : r < nr) (hc : c < ln_ a r) (hx : x ∈ a.2 (12 * r + c)) : p3_ a (a_goE a r c x) := by
  have x38 := ((A.1.2.2.2.1 r c hr hc).2 x hx).1
  unfold a_goE
  split
  · exact p3_refl
  · have k := qs_go (a := a) (r := r) (c := c) (sp := (a_speed a r).toNatClampNeg) (x := x)
    refine ⟨fun y hy => ?_, k 42 (by decide) (by decide) (by decide), k 36 (by decide) (by decide) (by decide), k 6 (by decide) (by decide) (by decide)⟩
    have ne : ¬ y = x := fun e => by rw [e, x38] at hy; exact absurd hy (by decide)
    unfold a_go
    split
    · next b e =>
      show b.1 38 y = 3
      rcases a_on_cases A.1 hr hc e with ⟨r1, c1, _, _, _, _, g5⟩ | ⟨_, _, g5⟩ | g5
      · rw [g5]; exact (w_updN ne).trans hy
      · rw [g5]; exact (w_updN ne).trans hy
      · rw [g5]; exact (w_updN ne).trans hy
    · exact hy
theorem p3_gosE {r c nr nl : Nat} (h10 : nr ≤ 10) (hr : r < nr) : ∀ (L : List Nat) (a : ra_T), L.Nodup → aq_ nr nl a → c < ln_ a r → (∀ y ∈ L, y ∈ a.2 (12 * r + c)) → p3_ a (a_gosE r c L a) ∧ aq_ nr nl (a_gosE r c L a) := by
  intro L
  induction L with
  | nil => intro a _ A _ _; exact ⟨p3_refl, A⟩
  | cons x L ih =>
    intro a nd A hc hm
    rw [List.nodup_cons] at nd
    have hx := hm x (List.mem_cons_self)
    obtain ⟨A1, k1, m1⟩ := aq_goE h10 A hr hc hx
    obtain ⟨i1, i2⟩ := ih (a_goE a r c x) nd.2 A1 (by rw [qs_ln k1]; exact hc) (fun y hy => m1 y (hm y (List.mem_cons_of_mem x hy)) (fun e => nd.1 (by rw [← e]; exact hy)))
    exact ⟨p3_trans (p3_goE A hr hc hx) i1, i2⟩
theorem p3_cells {r nr nl : Nat} (h10 : nr ≤ 10) (hr : r < nr) : ∀ (c : Nat) (a : ra_T), c ≤ ln_ a r → aq_ nr nl a → ¬ a_speed a r ≤ 0 → p3_ a (a_cells r (a_speed a r).toNatClampNeg c a) ∧ aq_ nr nl (a_cells r (a_speed a r).toNatClampNeg c a) := by
  intro c
  induction c with
  | zero => intro a _ A _; exact ⟨p3_refl, A⟩
  | succ c ih =>
    intro a hc A hs
    have e := a_gosE_cell (r := r) (c := c) (a := a)
    rw [if_neg hs] at e
    obtain ⟨i1, i2⟩ := p3_gosE h10 hr (c := c) (a.2 (12 * r + c)) a (A.1.2.2.1 _) A (by omega) (fun y hy => hy)
    rw [e] at i1 i2
    have k := qs_cell (a := a) (r := r) (c := c) (sp := (a_speed a r).toNatClampNeg)
    have es := qs_speed k r
    obtain ⟨j1, j2⟩ := ih (a_cell a r c (a_speed a r).toNatClampNeg) (by rw [qs_ln k]; omega) i2 (by rw [es]; exact hs)
    rw [es] at j1 j2
    exact ⟨p3_trans i1 j1, j2⟩
theorem p3_move {nr nl : Nat} (h10 : nr ≤ 10) : ∀ (k r : Nat) (a : ra_T), r + k = nr → aq_ nr nl a → p3_ a (a_move k r a) ∧ aq_ nr nl (a_move k r a) ∧ qs_ a (a_move k r a) := by
  intro k
  induction k with
  | zero => intro r a _ A; exact ⟨p3_refl, A, qs_refl⟩
  | succ k ih =>
    intro r a hk A
    have h1 : p3_ a (a_reach a r) ∧ aq_ nr nl (a_reach a r) := by
      unfold a_reach
      split
      · exact ⟨p3_refl, A⟩
      · next hs => exact p3_cells h10 (by omega) (ln_ a r) a (Nat.le_refl _) A hs
    obtain ⟨i1, i2, i3⟩ := ih (r + 1) (a_reach a r) (by omega) h1.2
    exact ⟨p3_trans h1.1 i1, i2, qs_trans qs_reach i3⟩
theorem p3_age {a : ra_T} : p3_ a (a_age a) := by
  refine ⟨fun y hy => ?_, ag_o (by decide) (by decide), ag_o (by decide) (by decide), ag_o (by decide) (by decide)⟩
  have ns : ¬ su_ a y := fun z => by have := z.1; rw [hy] at this; exact absurd this (by decide)
  show (a_age a).1 38 y = 3
  rw [show (a_age a).1 38 y = a.1 38 y from ag_38n (fun z => ns z.2)]
  exact hy
theorem qm_mills {no : Nat} : ∀ (k r : Nat) (a : ra_T), qm_ a (a_mills no k r a) := by
  intro k
  induction k with
  | zero => intro r a; exact qm_refl
  | succ k ih => intro r a; exact qm_trans (qm_millL _ _ _) (ih _ _)
/-- logs that are not there are not afloat -/
theorem hz_go {a : ra_T} {nl : Nat} (hz : ∀ x, nl ≤ x → ¬ a.1 38 x = 1) {b : ra_T} (h : ∀ x, nl ≤ x → b.1 38 x = a.1 38 x) : ∀ x, nl ≤ x → ¬ b.1 38 x = 1 := fun x hx => by rw [h x hx]; exact hz x hx
/-- what an hour asks of the abstract river -/
def aK_ (nr nl nc : Nat) (now : Int32) (k0 : Nat) (a : ra_T) : Prop := aq_ nr nl a ∧ (∀ x, nl ≤ x → ¬ a.1 38 x = 1) ∧ co_ nr nc now k0 a
/-- the water's part of it -/
def aw_ (a : ra_T) (w : wt_T) : ra_T := ff_ (ff_ a 18 w.2.2.2.1) 19 w.2.2.2.2.1
noncomputable def a_hour (nr nc no : Nat) (now : Int32) (w : wt_T) (a : ra_T) : ra_T := a_mills no nr 0 (a_age (a_known nr nc (a_free now nc 0 (a_jam nr (a_move nr 0 (aw_ a w))))))
theorem n38_go {a : ra_T} {r c sp x y nr nl : Nat} (A : ao_ nr nl a) (hr : r < nr) (hc : c < ln_ a r) (hx : x ∈ a.2 (12 * r + c)) (hy : nl ≤ y) : (a_go a r c sp x).1 38 y = a.1 38 y := by
  have hxl := (A.2.1 _ x hx).1
  have ne : ¬ y = x := by omega
  unfold a_go
  split
  · next b e =>
    show b.1 38 y = _
    rcases a_on_cases A hr hc e with ⟨r1, c1, _, _, _, _, g5⟩ | ⟨_, _, g5⟩ | g5
    · rw [g5]; exact w_updN ne
    · rw [g5]; exact w_updN ne
    · rw [g5]; exact w_updN ne
  · rfl
theorem n38_gosE {r c y nr nl : Nat} (h10 : nr ≤ 10) (hr : r < nr) (hy : nl ≤ y) : ∀ (L : List Nat) (a : ra_T), L.Nodup → aq_ nr nl a → c < ln_ a r → (∀ y ∈ L, y ∈ a.2 (12 * r + c)) → (a_gosE r c L a).1 38 y = a.1 38 y := by
  intro L
  induction L with
  | nil => intro a _ _ _ _; rfl
  | cons x L ih =>
    intro a nd A hc hm
    rw [List.nodup_cons] at nd
    have hx := hm x (List.mem_cons_self)
    obtain ⟨A1, k1, m1⟩ := aq_goE h10 A hr hc hx
    refine (ih (a_goE a r c x) nd.2 A1 (by rw [qs_ln k1]; exact hc) (fun y hy => m1 y (hm y (List.mem_cons_of_mem x hy)) (fun e => nd.1 (by rw [← e]; exact hy)))).trans ?_
    unfold a_goE
    split
    · rfl
    · exact n38_go A.1 hr hc hx hy
theorem n38_cells {r y nr nl : Nat} (h10 : nr ≤ 10) (hr : r < nr) (hy : nl ≤ y) : ∀ (c : Nat) (a : ra_T), c ≤ ln_ a r → aq_ nr nl a → ¬ a_speed a r ≤ 0 → (a_cells r (a_speed a r).toNatClampNeg c a).1 38 y = a.1 38 y := by
  intro c
  induction c with
  | zero => intro a _ _ _; rfl
  | succ c ih =>
    intro a hc A hs
    have e := a_gosE_cell (r := r) (c := c) (a := a)
    rw [if_neg hs] at e
    have i2 := (p3_gosE h10 hr (c := c) (a.2 (12 * r + c)) a (A.1.2.2.1 _) A (by omega) (fun y hy => hy)).2
    have i3 := n38_gosE h10 hr hy (c := c) (a.2 (12 * r + c)) a (A.1.2.2.1 _) A (by omega) (fun y hy => hy)
    rw [e] at i2 i3
    have k := qs_cell (a := a) (r := r) (c := c) (sp := (a_speed a r).toNatClampNeg)
    have es := qs_speed k r
    have j1 := ih (a_cell a r c (a_speed a r).toNatClampNeg) (by rw [qs_ln k]; omega) i2 (by rw [es]; exact hs)
    rw [es] at j1
    exact j1.trans i3
theorem n38_move {y nr nl : Nat} (h10 : nr ≤ 10) (hy : nl ≤ y) : ∀ (k r : Nat) (a : ra_T), r + k = nr → aq_ nr nl a → (a_move k r a).1 38 y = a.1 38 y := by
  intro k
  induction k with
  | zero => intro r a _ _; rfl
  | succ k ih =>
    intro r a hk A
    have h1 : aq_ nr nl (a_reach a r) ∧ (a_reach a r).1 38 y = a.1 38 y := by
      unfold a_reach
      split
      · exact ⟨A, rfl⟩
      · next hs => exact ⟨(p3_cells h10 (by omega) (ln_ a r) a (Nat.le_refl _) A hs).2, n38_cells h10 (by omega) hy (ln_ a r) a (Nat.le_refl _) A hs⟩
    exact (ih (r + 1) (a_reach a r) (by omega) h1.1).trans h1.2
