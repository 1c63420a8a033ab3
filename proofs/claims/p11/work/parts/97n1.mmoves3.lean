/-! the reference: all logs go -/
theorem a_speedM {a : ra_T} {r : Nat} : (if a.1 18 r / 100 < 6 then a.1 18 r / 100 else 6) = a_speed a r := by
  have z6 : (6 : Int32).toInt = 6 := by decide
  unfold a_speed
  generalize a.1 18 r / 100 = y
  by_cases h : y < 6
  · rw [if_pos h, if_neg (by rw [ki_lt] at h ⊢; omega)]
  · rw [if_neg h]
    by_cases k : 6 < y
    · rw [if_pos k]
    · rw [if_neg k, ki_eq]
      rw [ki_lt] at h k
      omega
def a_goE (a : ra_T) (r c x : Nat) : ra_T := if a_speed a r ≤ 0 ∨ ¬ a.1 33 (12 * r + c) = 0 then a else a_go a r c (a_speed a r).toNatClampNeg x
def a_gosE (r c : Nat) : List Nat → ra_T → ra_T
  | [], a => a
  | x :: L, a => a_gosE r c L (a_goE a r c x)
theorem qs_speed {a b : ra_T} (h : qs_ a b) (r : Nat) : a_speed b r = a_speed a r := by
  unfold a_speed
  rw [h 18 (by decide) (by decide) (by decide)]
theorem a_gosE_no {r c : Nat} : ∀ (L : List Nat) (a : ra_T), (a_speed a r ≤ 0 ∨ ¬ a.1 33 (12 * r + c) = 0) → a_gosE r c L a = a := by
  intro L
  induction L with
  | nil => intro a _; rfl
  | cons x L ih =>
    intro a h
    show a_gosE r c L (a_goE a r c x) = a
    rw [show a_goE a r c x = a from if_pos h]
    exact ih a h
theorem a_gosE_yes {r c : Nat} : ∀ (L : List Nat) (a : ra_T), ¬ (a_speed a r ≤ 0 ∨ ¬ a.1 33 (12 * r + c) = 0) → a_gosE r c L a = a_logs r c (a_speed a r).toNatClampNeg L a := by
  intro L
  induction L with
  | nil => intro a _; rfl
  | cons x L ih =>
    intro a h
    have k := qs_go (a := a) (r := r) (c := c) (sp := (a_speed a r).toNatClampNeg) (x := x)
    have e := qs_speed k r
    show a_gosE r c L (a_goE a r c x) = a_logs r c (a_speed a r).toNatClampNeg L (a_go a r c (a_speed a r).toNatClampNeg x)
    rw [show a_goE a r c x = a_go a r c (a_speed a r).toNatClampNeg x from if_neg h, ih _ (by rw [e, k 33 (by decide) (by decide) (by decide)]; exact h), e]
theorem a_gosE_cell {r c : Nat} {a : ra_T} : a_gosE r c (a.2 (12 * r + c)) a = if a_speed a r ≤ 0 then a else a_cell a r c (a_speed a r).toNatClampNeg := by
  by_cases h : a_speed a r ≤ 0
  · rw [if_pos h, a_gosE_no _ _ (.inl h)]
  · rw [if_neg h]
    by_cases k : a.1 33 (12 * r + c) = 0
    · rw [a_gosE_yes _ _ (fun q => q.elim h (fun z => z k))]
      exact (if_pos k).symm
    · rw [a_gosE_no _ _ (.inr k)]
      exact (if_neg k).symm
theorem rs_go {a b : ra_T} {r c sp x nr nl : Nat} (h10 : nr ≤ 10) (A : ao_ nr nl a) (S : rsz_ a) (hr : r < nr) (hc : c < ln_ a r) (hb : a_on a r c sp x = some b) (hroom : ¬ a.1 22 r = 0 → (a.1 28 r).toInt ≤ 100) : rsz_ (a_drop b x (12 * r + c)) := by
  have c12 : c < 12 := by have := (A.1 r hr).1; omega
  have fl : ∀ L : List Nat, (L.filter (fun z => decide (¬ z = x))).length ≤ L.length := fun L => List.length_filter_le _ L
  rcases a_on_cases A hr hc hb with ⟨r1, c1, g1, g2, g3, g4, g5⟩ | ⟨g1, g2, g5⟩ | g5
  · have c112 : c1 < 12 := by have := (A.1 r1 g1).1; omega
    have car := (A.1 r1 g1).2.2.1.2
    have ho := (a_openT.1 g4).1
    rw [g5]
    refine ⟨fun j hj => ?_, fun q hq => ?_⟩
    · show (if j = 12 * r + c then ((if 12 * r + c = 12 * r1 + c1 then _ else a.2 (12 * r + c)).filter (fun z => decide (¬ z = x))) else (if j = 12 * r1 + c1 then a.2 (12 * r1 + c1) ++ [x] else a.2 j) : List Nat).length ≤ 20
      rw [if_neg (Ne.symm g3)]
      split
      · have := fl (a.2 (12 * r + c))
        have := S.1 (12 * r + c) (by omega)
        omega
      · split
        · rw [List.length_append]
          show (a.2 (12 * r1 + c1)).length + 1 ≤ 20
          omega
        · exact S.1 j hj
    · show (if 120 + q = 12 * r + c then _ else (if 120 + q = 12 * r1 + c1 then _ else a.2 (120 + q)) : List Nat).length ≤ 100
      rw [if_neg (by omega), if_neg (by omega)]
      exact S.2 q hq
  · have room := hroom g1
    rw [g5]
    refine ⟨fun j hj => ?_, fun q hq => ?_⟩
    · show (if j = 12 * r + c then ((if 12 * r + c = 120 + r then _ else a.2 (12 * r + c)).filter (fun z => decide (¬ z = x))) else (if j = 120 + r then a.2 (120 + r) ++ [x] else a.2 j) : List Nat).length ≤ 20
      rw [if_neg (show ¬ 12 * r + c = 120 + r by omega)]
      split
      · have := fl (a.2 (12 * r + c))
        have := S.1 (12 * r + c) (by omega)
        omega
      · rw [if_neg (show ¬ j = 120 + r by omega)]
        exact S.1 j hj
    · show (if 120 + q = 12 * r + c then _ else (if 120 + q = 120 + r then a.2 (120 + r) ++ [x] else a.2 (120 + q)) : List Nat).length ≤ 100
      rw [if_neg (by omega)]
      split
      · rw [List.length_append]
        show (a.2 (120 + r)).length + 1 ≤ 100
        omega
      · exact S.2 q hq
  · rw [g5]
    refine ⟨fun j hj => ?_, fun q hq => ?_⟩
    · show (if j = 12 * r + c then (a.2 (12 * r + c)).filter (fun z => decide (¬ z = x)) else a.2 j : List Nat).length ≤ 20
      split
      · have := fl (a.2 (12 * r + c))
        have := S.1 (12 * r + c) (by omega)
        omega
      · exact S.1 j hj
    · show (if 120 + q = 12 * r + c then _ else a.2 (120 + q) : List Nat).length ≤ 100
      rw [if_neg (by omega)]
      exact S.2 q hq
/-- all that a move asks of the abstract river -/
def aq_ (nr nl : Nat) (a : ra_T) : Prop := ao_ nr nl a ∧ rsz_ a ∧ ∀ r, r < nr → ¬ a.1 22 r = 0 → (a.1 28 r).toInt ≤ 100
theorem aq_goE {a : ra_T} {r c x nr nl : Nat} (h10 : nr ≤ 10) (A : aq_ nr nl a) (hr : r < nr) (hc : c < ln_ a r) (hx : x ∈ a.2 (12 * r + c)) : aq_ nr nl (a_goE a r c x) ∧ qs_ a (a_goE a r c x) ∧ ∀ y, y ∈ a.2 (12 * r + c) → ¬ y = x → y ∈ (a_goE a r c x).2 (12 * r + c) := by
  unfold a_goE
  split
  · exact ⟨A, qs_refl, fun y hy _ => hy⟩
  · refine ⟨?_, qs_go, ?_⟩
    · have k := qs_go (a := a) (r := r) (c := c) (sp := (a_speed a r).toNatClampNeg) (x := x)
      have hroom : ∀ q, q < nr → ¬ (a_go a r c (a_speed a r).toNatClampNeg x).1 22 q = 0 → ((a_go a r c (a_speed a r).toNatClampNeg x).1 28 q).toInt ≤ 100 := by
        intro q hq
        rw [k 22 (by decide) (by decide) (by decide), k 28 (by decide) (by decide) (by decide)]
        exact A.2.2 q hq
      refine ⟨?_, ?_, hroom⟩
      · unfold a_go
        split
        · next b e => exact (ao_go h10 A.1 hr hc hx e A.2.2).2
        · exact A.1
      · unfold a_go
        split
        · next b e => exact rs_go h10 A.1 A.2.1 hr hc e (A.2.2 r hr)
        · exact A.2.1
    · intro y hy hyx
      unfold a_go
      split
      · next b e =>
        show y ∈ (if 12 * r + c = 12 * r + c then (b.2 (12 * r + c)).filter (fun z => decide (¬ z = x)) else _)
        rw [if_pos rfl, (ao_go h10 A.1 hr hc hx e A.2.2).1, List.mem_filter]
        exact ⟨hy, decide_eq_true hyx⟩
      · exact hy
theorem vr_go {a : ra_T} {x r c nr nl : Nat} {xi : Int32} {Q : km_S → Prop} {μ : km_S} (h10 : nr ≤ 10) (A : aq_ nr nl a) (hr : r < nr) (hc : c < ln_ a r) (hxm : x ∈ a.2 (12 * r + c)) (hx : xi.toInt = (x : Int)) (h : rA_ a μ) (kk : ∀ u, rA_ (a_goE a r c x) u → rg_ μ u → Q u) : vX12_go xi μ Q := by
  obtain ⟨x38, x39, x40⟩ := (A.1.2.2.2.1 r c hr hc).2 x hxm
  have ex : xi.toNatClampNeg = x := ki_toN hx
  unfold vX12_go
  rw [ex, h.1 39 (by decide), h.1 18 (by decide)]
  intro _ v18 e18
  have h18 : v18.toInt = (r : Int) := by rw [e18]; exact x39
  have er : v18.toNatClampNeg = r := ki_toN h18
  rw [er, a_speedM]
  rintro _ v20 e20 j
  have s6 := a_speed6 a r
  by_cases s0 : a_speed a r ≤ 0
  · rw [show a_goE a r c x = a from if_pos (.inl s0)] at kk
    cases j with
    | zero => exact trivial
    | succ j =>
      unfold vX12_go_25
      exact ⟨fun _ => kk μ h rg_refl, fun q => absurd (by rw [e20]; exact s0) q⟩
  · by_cases jm : a.1 33 (12 * r + c) = 0
    · rw [show a_goE a r c x = a_go a r c (a_speed a r).toNatClampNeg x from if_neg (fun q => q.elim s0 (fun z => z jm))] at kk
      have s1 := s0
      rw [ki_le, ki_z0] at s1
      refine vr_go25 h10 A.1 A.2.1 hr hc hxm hx h18 (sp := (a_speed a r).toNatClampNeg) (by rw [e20, ki_nat]; omega) (by rw [ki_nat]; omega) (A.2.2 r hr) jm kk j (a_speed a r).toNatClampNeg c 0 μ ?_ (Nat.le_refl _) (Nat.le_refl _) hc (.inl rfl) rfl (by rw [a_mv_c]; exact h) rg_refl
      rw [ki_z0]
      omega
    · rw [show a_goE a r c x = a from if_pos (.inr jm)] at kk
      have c12 : c < 12 := by have := (A.1.1 r hr).1; omega
      have z12 : (12 : Int32).toInt = ((12 : Nat) : Int) := by decide
      cases j with
      | zero => exact trivial
      | succ j =>
        unfold vX12_go_25 vX12_at0
        dsimp only
        refine ⟨fun _ => kk μ h rg_refl, fun _ _ v4 e4 => ?_⟩
        have h4 : v4.toInt = (c : Int) := by
          rw [e4, ex, h.1 40 (by decide)]
          exact x40
        have ek : (12 * v18 + v4).toNatClampNeg = 12 * r + c := ki_toN (ki_addN (ki_mulN z12 h18 (by omega)) h4 (by omega))
        rw [ek, h.1 33 (by decide)]
        intro _
        exact ⟨fun q => absurd q jm, fun _ => kk μ h rg_refl⟩
/-- what moving all leaves of the reference -/
def rh_ (μ u : km_S) : Prop := (∀ j, j ≠ 57 → j ≠ 68 → km_i u j = km_i μ j) ∧ ∀ f, f ∉ [29, 30, 31, 32, 38, 39, 40, 57, 68, 69] → km_a u f = km_a μ f
theorem rh_refl {μ : km_S} : rh_ μ μ := ⟨fun _ _ _ => rfl, fun _ _ => rfl⟩
theorem rh_trans {a b c : km_S} (h : rh_ a b) (k : rh_ b c) : rh_ a c := ⟨fun j h1 h2 => (k.1 j h1 h2).trans (h.1 j h1 h2), fun f hf => (k.2 f hf).trans (h.2 f hf)⟩
theorem rh_rg {μ u : km_S} (h : rg_ μ u) : rh_ μ u := by
  refine ⟨h.1, fun f hf => h.2 f (fun q => hf ?_)⟩
  simp at q ⊢
  omega
theorem rA_69 {a : ra_T} {μ : km_S} {i : Nat} {v : Int32} (h : rA_ a μ) : rA_ a (km_sa μ 69 i v) := by
  refine ⟨fun f hf => ?_, h.2.1, h.2.2.1, h.2.2.2⟩
  rw [show km_a (km_sa μ 69 i v) f = km_a μ f from if_neg (by intro e; rw [e] at hf; exact absurd hf (by decide))]
  exact h.1 f hf
theorem vr_copy {a : ra_T} {μ : km_S} {k : Nat} {r0 c0 ki ni : Int32} {K : Int32 → Int32 → Int32 → km_S → Prop} {Q : km_S → Prop} (hk : ki.toInt = (k : Int)) (k120 : k < 120) (hn : ni.toInt = ((a.2 k).length : Int)) (h20 : (a.2 k).length ≤ 20) (kk : ∀ u, rA_ a u → rh_ μ u → (∀ (i y : Nat), (a.2 k)[i]? = some y → (km_a u 69 i).toInt = (y : Int)) → K r0 c0 ni u) : ∀ (j p : Nat) (l5 : Int32) (u : km_S), l5.toInt = (p : Int) → p ≤ (a.2 k).length → rA_ a u → rh_ μ u → (∀ (i y : Nat), i < p → (a.2 k)[i]? = some y → (km_a u 69 i).toInt = (y : Int)) → vX12_move_40 K Q j r0 c0 ki ni l5 u := by
  have z20 : (20 : Int32).toInt = ((20 : Nat) : Int) := by decide
  obtain ⟨w, ew, hw⟩ : ∃ w, w = 20 * ki ∧ w.toInt = ((20 * k : Nat) : Int) := ⟨_, rfl, ki_mulN z20 hk (by omega)⟩
  intro j
  induction j with
  | zero => intro _ _ _ _ _ _ _ _; exact trivial
  | succ j ih =>
    intro p l5 u h5 hp h g h69
    unfold vX12_move_40
    rw [ki_le, hn, h5, ← ew]
    refine ⟨fun c => kk u h g (fun i y hy => h69 i y ?_ hy), fun c _ _ => ?_⟩
    · have := (List.getElem?_eq_some_iff.1 hy).1
      omega
    · have e1 : (w + l5).toNatClampNeg = 20 * k + p := ki_toN (ki_addN hw h5 (by omega))
      have e2 : l5.toNatClampNeg = p := ki_toN h5
      rw [e1, e2]
      rintro μ11 rfl v12 e12
      obtain ⟨b1, b2⟩ := h.2.1 k k120
      refine ih (p + 1) v12 _ ?_ (by omega) (rA_69 h) (rh_trans g ⟨fun _ _ _ => rfl, fun f hf => if_neg (by intro e; exact hf (by rw [e]; decide))⟩) (fun i y hi hy => ?_)
      · rw [e12]
        exact ki_addN h5 ki_z1 (by omega)
      · show (upd (u.2.1 69) p (km_a u 32 (20 * k + p)) i).toInt = _
        by_cases e : i = p
        · rw [e, w_updS]
          rw [e] at hy
          exact b2 p y hy
        · rw [w_updN e]
          exact h69 i y (by omega) hy
theorem vr_gos {r c nr nl : Nat} {L : List Nat} {r0 c0 ni : Int32} {K : Int32 → Int32 → km_S → Prop} {Q : km_S → Prop} {μ : km_S} (h10 : nr ≤ 10) (hr : r < nr) (hL : L.Nodup) (hn : ni.toInt = (L.length : Int)) (h20 : L.length ≤ 20) : ∀ (j : Nat) (R P : List Nat) (a : ra_T) (l5 : Int32) (u : km_S), L = P ++ R → l5.toInt = (P.length : Int) → aq_ nr nl a → c < ln_ a r → (∀ y ∈ R, y ∈ a.2 (12 * r + c)) → rA_ a u → rh_ μ u → (∀ (i y : Nat), L[i]? = some y → (km_a u 69 i).toInt = (y : Int)) → (∀ v, aq_ nr nl (a_gosE r c R a) → rA_ (a_gosE r c R a) v → rh_ μ v → K r0 c0 v) → vX12_move_75 K Q j r0 c0 ni l5 u := by
  intro j
  induction j with
  | zero => intro _ _ _ _ _ _ _ _ _ _ _ _ _ _; exact trivial
  | succ j ih =>
    intro R P a l5 u hLP h5 A hc hR h g h69 kk
    have hlen : L.length = P.length + R.length := by rw [hLP, List.length_append]
    unfold vX12_move_75
    rw [ki_le, hn, h5]
    cases R with
    | nil => exact ⟨fun _ => kk u A h g, fun q => absurd (by rw [hlen]; simp) q⟩
    | cons x R =>
      rw [List.length_cons] at hlen
      refine ⟨fun q => absurd q (by omega), fun _ _ => ?_⟩
      rw [ki_toN h5]
      have hx : (km_a u 69 P.length).toInt = (x : Int) := h69 P.length x (by rw [hLP, List.getElem?_append_right (Nat.le_refl _), Nat.sub_self]; rfl)
      have hxm := hR x (List.mem_cons_self)
      refine vr_go h10 A hr hc hxm hx h (fun v hv gv => ?_)
      obtain ⟨A1, k1, m1⟩ := aq_goE h10 A hr hc hxm
      intro v6 e6
      have nd : ¬ x ∈ R := by
        rw [hLP, List.nodup_append] at hL
        exact (List.nodup_cons.1 hL.2.1).1
      refine ih R (P ++ [x]) (a_goE a r c x) v6 v (by rw [hLP, List.append_assoc]; rfl) ?_ A1 (by rw [qs_ln k1]; exact hc) (fun y hy => m1 y (hR y (List.mem_cons_of_mem x hy)) (fun e => nd (by rw [← e]; exact hy))) hv (rh_trans g (rh_rg gv)) (fun i y hy => ?_) kk
      · rw [e6, List.length_append]
        show _ = ((P.length + 1 : Nat) : Int)
        exact ki_addN h5 ki_z1 (by omega)
      · rw [gv.2 69 (by decide)]
        exact h69 i y hy
theorem vr_cells {r nr nl : Nat} {ri : Int32} {K : Int32 → km_S → Prop} {Q : km_S → Prop} {μ : km_S} (h10 : nr ≤ 10) (hr : r < nr) (hri : ri.toInt = (r : Int)) : ∀ (j c : Nat) (a : ra_T) (l2 : Int32) (u : km_S), l2.toInt = (c : Int) - 1 → c ≤ ln_ a r → aq_ nr nl a → rA_ a u → rh_ μ u → (∀ v, aq_ nr nl (if a_speed a r ≤ 0 then a else a_cells r (a_speed a r).toNatClampNeg c a) → rA_ (if a_speed a r ≤ 0 then a else a_cells r (a_speed a r).toNatClampNeg c a) v → rh_ μ v → K ri v) → vX12_move_19 K Q j ri l2 u := by
  have z12 : (12 : Int32).toInt = ((12 : Nat) : Int) := by decide
  intro j
  induction j with
  | zero => intro _ _ _ _ _ _ _ _ _ _; exact trivial
  | succ j ih =>
    intro c a l2 u h2 hc A h g kk
    unfold vX12_move_19 vX12_at0
    dsimp only
    rw [ki_lt, ki_z0, h2]
    cases c with
    | zero =>
      have e0 : (if a_speed a r ≤ 0 then a else a_cells r (a_speed a r).toNatClampNeg 0 a) = a := by
        split
        · rfl
        · rfl
      rw [e0] at kk
      exact ⟨fun _ => kk u A h g, fun q => absurd (by omega) q⟩
    | succ c =>
      have l12 := (A.1.1 r hr).1
      refine ⟨fun q => absurd q (by omega), fun _ _ => ?_⟩
      have h2' : l2.toInt = (c : Int) := by omega
      obtain ⟨w, ew, hw⟩ : ∃ w, w = 12 * ri + l2 ∧ w.toInt = ((12 * r + c : Nat) : Int) := ⟨_, rfl, ki_addN (ki_mulN z12 hri (by omega)) h2' (by omega)⟩
      rw [← ew, ki_toN hw]
      rintro v17 rfl j2
      obtain ⟨b1, b2⟩ := h.2.1 (12 * r + c) (by omega)
      refine vr_copy hw (by omega) b1 (A.2.1.1 _ (by omega)) (fun u1 h1 g1 h69 => ?_) j2 0 0 u (by decide) (Nat.zero_le _) h rh_refl (fun i y hi _ => absurd hi (Nat.not_lt_zero i))
      unfold vX12_move_72
      intro j3
      refine vr_gos h10 hr (A.1.2.2.1 _) b1 (A.2.1.1 _ (by omega)) j3 (a.2 (12 * r + c)) [] a 0 u1 rfl rfl A (by omega) (fun y hy => hy) h1 (rh_trans g g1) h69 (fun v Av hv gv => ?_)
      unfold vX12_move_99
      intro v2 e2
      rw [a_gosE_cell] at Av hv
      have kq : qs_ a (if a_speed a r ≤ 0 then a else a_cell a r c (a_speed a r).toNatClampNeg) := by
        split
        · exact qs_refl
        · exact qs_cell
      refine ih c _ v2 v ?_ (by rw [qs_ln kq]; omega) Av hv gv (fun v' Av' hv' gv' => kk v' ?_ ?_ gv')
      · rw [e2, ki_add (by rw [h2', ki_zm]; omega) (by rw [h2', ki_zm]; omega), h2', ki_zm]
        omega
      · rw [qs_speed kq] at Av'
        by_cases s0 : a_speed a r ≤ 0
        · rw [if_pos s0] at Av' ⊢
          rw [if_pos s0] at Av'
          exact Av'
        · rw [if_neg s0] at Av' ⊢
          rw [if_neg s0] at Av'
          exact Av'
      · rw [qs_speed kq] at hv'
        by_cases s0 : a_speed a r ≤ 0
        · rw [if_pos s0] at hv' ⊢
          rw [if_pos s0] at hv'
          exact hv'
        · rw [if_neg s0] at hv' ⊢
          rw [if_neg s0] at hv'
          exact hv'
theorem vr_move {nr nl : Nat} {a : ra_T} {Q : km_S → Prop} {μ : km_S} (h10 : nr ≤ 10) (hn : (km_i μ 3).toInt = (nr : Int)) (A : aq_ nr nl a) (h : rA_ a μ) (kk : ∀ u, aq_ nr nl (a_move nr 0 a) → rA_ (a_move nr 0 a) u → rh_ μ u → Q u) : vX12_move μ Q := by
  have loop : ∀ (j k r : Nat) (a : ra_T) (i : Int32) (u : km_S), i.toInt = (r : Int) → r + k = nr → aq_ nr nl a → rA_ a u → rh_ μ u → (∀ v, aq_ nr nl (a_move k r a) → rA_ (a_move k r a) v → rh_ μ v → Q v) → vX12_move_2 Q j i u := by
    intro j
    induction j with
    | zero => intro _ _ _ _ _ _ _ _ _ _ _; exact trivial
    | succ j ih =>
      intro k r a i u hi hk A h g kk
      unfold vX12_move_2
      have e3 : km_i u 3 = km_i μ 3 := g.1 3 (by decide) (by decide)
      rw [ki_le, e3, hn, hi]
      refine ⟨fun q => ?_, fun q _ => ?_⟩
      · have : k = 0 := by omega
        subst this
        exact kk u A h g
      · obtain ⟨k, rfl⟩ : ∃ q, k = q + 1 := ⟨k - 1, by omega⟩
        have hr : r < nr := by omega
        have n2 := (A.1.1 r hr).2.1
        rw [ki_toN hi]
        intro v21 e21 j2
        have e14 : (km_a u 14 r).toInt = (ln_ a r : Int) := by
          rw [h.1 14 (by decide)]
          show (a.1 14 r).toInt = ((a.1 14 r).toNatClampNeg : Int)
          have : 1 ≤ (a.1 14 r).toNatClampNeg := n2
          rw [ki_nat] at this ⊢
          omega
        have l12 := (A.1.1 r hr).1
        have h21 : v21.toInt = (ln_ a r : Int) - 1 := by
          rw [e21, ki_sub (by rw [e14, ki_z1]; omega) (by rw [e14, ki_z1]; omega), e14, ki_z1]
        refine vr_cells h10 hr hi j2 (ln_ a r) a v21 u h21 (Nat.le_refl _) A h g (fun v Av hv gv => ?_)
        unfold vX12_move_105
        intro v1 e1
        refine ih k (r + 1) (a_reach a r) v1 v ?_ (by omega) Av hv gv kk
        rw [e1]
        exact ki_addN hi ki_z1 (by omega)
  unfold vX12_move
  intro j
  exact loop j nr 0 a 0 μ (by decide) (by omega) A h rh_refl kk
