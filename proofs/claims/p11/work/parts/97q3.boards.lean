/-! boards, and what is counted -/
abbrev hb_ (a : ra_T) (b : Int32) (x : Nat) : Prop := ¬ a.1 42 x = -1 ∧ (a.1 42 x).toInt ≤ b.toInt ∧ b.toInt < (a.1 42 x).toInt + (a.1 36 x).toInt
def bo_ (a : ra_T) (b : Int32) : Nat → Nat → Option Int32
  | 0, _ => none
  | m + 1, x => if hb_ a b x then some (nI x) else bo_ a b m (x + 1)
theorem bo_no {a : ra_T} {b : Int32} : ∀ (m x : Nat), (∀ y, x ≤ y → y < x + m → ¬ hb_ a b y) → bo_ a b m x = none := by
  intro m
  induction m with
  | zero => intro x _; rfl
  | succ m ih =>
    intro x h
    unfold bo_
    rw [if_neg (h x (Nat.le_refl x) (by omega))]
    exact ih (x + 1) (fun y h1 h2 => h y (by omega) (by omega))
theorem bo_yes {a : ra_T} {b : Int32} {z : Nat} (hz : hb_ a b z) : ∀ (m x : Nat), x ≤ z → z < x + m → (∀ y, x ≤ y → y < x + m → hb_ a b y → y = z) → bo_ a b m x = some (nI z) := by
  intro m
  induction m with
  | zero => intro x h1 h2; omega
  | succ m ih =>
    intro x h1 h2 h
    unfold bo_
    by_cases c : hb_ a b x
    · rw [if_pos c, h x (Nat.le_refl x) (by omega) c]
    · rw [if_neg c]
      have ne : x ≠ z := fun e => c (by rw [e]; exact hz)
      exact ih (x + 1) (by omega) (by omega) (fun y q1 q2 => h y (by omega) (by omega))
def cn_ (F : Nat → Int32) : Nat → Nat
  | 0 => 0
  | k + 1 => cn_ F k + (if F k = 0 then 0 else 1)
theorem cn_le {F : Nat → Int32} : ∀ k, cn_ F k ≤ k := by
  intro k
  induction k with
  | zero => exact Nat.le_refl 0
  | succ k ih =>
    unfold cn_
    split
    · omega
    · omega
theorem cn_z {F : Nat → Int32} {i : Nat} : ∀ j, i ≤ j → (∀ k, i ≤ k → k < j → F k = 0) → cn_ F j = cn_ F i := by
  intro j
  induction j with
  | zero => intro h _; rw [show i = 0 by omega]
  | succ j ih =>
    intro h hz
    by_cases c : i = j + 1
    · rw [c]
    · show cn_ F j + (if F j = 0 then 0 else 1) = _
      rw [if_pos (hz j (by omega) (by omega)), Nat.add_zero]
      exact ih (by omega) (fun k h1 h2 => hz k h1 (by omega))
/-- where there is no cell there is no jam -/
def wk_ (nr : Nat) (a : ra_T) : Prop := ∀ r c, r < 10 → c < 12 → ¬ (r < nr ∧ c < ln_ a r) → a.1 33 (12 * r + c) = 0 ∧ a.1 34 (12 * r + c) = 0
def an_count (m : Nat) (s : sz_T) (a : ra_T) (i : Int32) : Option Int32 := if i = 0 then some s.1.2.2.2.2.2 else if i = 1 then some s.1.1 else if i = 2 then some s.1.2.1 else if i = 3 then some (nI m) else if i = 4 then some (a.1 6 0) else if i = 5 then some s.1.2.2.1 else if i = 6 then some (nI (cn_ (a.1 33) 120)) else if i = 7 then some (nI (cn_ (a.1 34) 120)) else if i = 8 then some s.1.2.2.2.1 else if i = 9 then some s.1.2.2.2.2.1 else none
section
variable {T : Nat → Nat → Nat} {N : Nat → Nat} {g κ : Nat → Nat} {st na nr nl nc no m : Nat} {day : Nat → Int32} {RL : Nat → List (Bool × List Int32)} {s : sz_T} {B n : Nat} {a : ra_T} {w : wt_T} {σ : kx_S}
theorem vq_board {b : Int32} {Q : Int32 → kx_S → Prop} {QX : String → kx_S → Prop} (l4 : nl ≤ 400) (J : yJ_ s g κ B n σ) (h4 : q4_ T (g 2) nl a σ) (hp : ∀ x, x < nl → ¬ a.1 42 x = -1 → 0 ≤ (a.1 42 x).toInt ∧ (a.1 42 x).toInt ≤ 100000 ∧ 1 ≤ (a.1 36 x).toInt ∧ (a.1 36 x).toInt ≤ 9) (k1 : ∀ v, bo_ a b nl 0 = some v → Q v σ) (k0 : bo_ a b nl 0 = none → QX pz_N (xbump σ)) : vX11_board (g 0) b σ Q QX := by
  have loop : ∀ (j x k : Nat) (i : Int32), i.toInt = (x : Int) → x + k = nl → bo_ a b nl 0 = bo_ a b k x → vX11_board_2 (vX11_board_67 Q QX) Q QX j (g 0) b i σ := by
    intro j
    induction j with
    | zero => intro _ _ _ _ _ _; exact trivial
    | succ j ih =>
      intro x k i hi hk hb
      unfold vX11_board_2
      intro _ a4 e4 _
      obtain rfl := Option.some.inj ((yg2 J).1.symm.trans e4)
      unfold vJx4a65c_size_8abf5
      intro _
      rw [ki_le, h4.1, hi]
      refine ⟨fun q => ?_, fun q _ => ?_⟩
      · have : k = 0 := by omega
        subst this
        unfold vX11_board_67
        intro _
        exact k0 hb
      · obtain ⟨k, rfl⟩ : ∃ q, k = q + 1 := ⟨k - 1, by omega⟩
        have hx : x < nl := by omega
        obtain ⟨⟨b1, b2⟩, _, ⟨_, b36, _⟩, _, _, _, _, b42⟩ := h4.2 x hx
        have nx : ∀ v : Int32, v = i + 1 → v.toInt = ((x + 1 : Nat) : Int) := fun v e => by rw [e]; exact ki_addN hi ki_z1 (by omega)
        have skip : ¬ hb_ a b x → vX11_board_61 (vX11_board_2 (vX11_board_67 Q QX) Q QX j) Q QX (g 0) b i σ := by
          intro c
          unfold vX11_board_61
          intro v1 e1
          refine ih (x + 1) k v1 (nx v1 e1) (by omega) ?_
          rw [hb]
          show (if hb_ a b x then some (nI x) else bo_ a b k (x + 1)) = _
          rw [if_neg c]
        intro a11 e11 _
        obtain rfl := Option.some.inj ((yg2 J).1.symm.trans e11)
        refine vy_get (fun _ _ => ?_)
        rw [ki_toN hi, b1]
        intro a16 e16 _
        obtain rfl := Option.some.inj e16
        rw [b42, b36]
        refine ⟨fun c => skip (fun z => z.1 c), fun c => ?_⟩
        obtain ⟨p1, p2, p3, p4⟩ := hp x hx c
        have es : (a.1 42 x + a.1 36 x - 1).toInt = (a.1 42 x).toInt + (a.1 36 x).toInt - 1 := by
          have e1 : (a.1 42 x + a.1 36 x).toInt = (a.1 42 x).toInt + (a.1 36 x).toInt := ki_add (by omega) (by omega)
          rw [ki_sub (by rw [e1, ki_z1]; omega) (by rw [e1, ki_z1]; omega), e1, ki_z1]
        refine vy_within (fun d => ⟨fun _ => skip (fun z => d ?_), fun x => absurd rfl x⟩) (fun c1 c2 => ⟨fun x => absurd x (by decide), fun _ => ?_⟩)
        · rw [es]
          exact ⟨z.2.1, by have := z.2.2; omega⟩
        · rw [es] at c2
          have hh : hb_ a b x := ⟨c, c1, by omega⟩
          refine k1 i ?_
          rw [hb]
          show (if hb_ a b x then some (nI x) else bo_ a b k (x + 1)) = _
          rw [if_pos hh, nI_w hi (by omega)]
  unfold vX11_board
  intro j
  exact loop j 0 nl 0 (by decide) (by omega) rfl
theorem vq_countJams {f fc : Nat} {l1 : Int32} {Q : Int32 → kx_S → Prop} (h10 : nr ≤ 10) (J : yJ_ s g κ B n σ) (h1 : q1_ T (g 1) nr a σ) (h2 : q2_ T nr a σ) (hz : ∀ r c, r < 10 → c < 12 → ¬ (r < nr ∧ c < ln_ a r) → a.1 f (12 * r + c) = 0) (hf : (l1 = 0 ∧ f = 33) ∨ (¬ l1 = 0 ∧ f = 34)) (kk : Q (nI (cn_ (a.1 f) 120)) σ) : vX11_countJams (g 0) l1 σ Q := by
  have loop2 : ∀ (r : Nat) (ri : Int32) (K : Nat → Int32 → Int32 → Int32 → kx_S → Prop), r < nr → (∀ v : Int32, v.toInt = (cn_ (a.1 f) (12 * (r + 1)) : Int) → K (g 0) l1 v ri σ) → ∀ (j c : Nat) (ci l5 : Int32), l5.toInt = (c : Int) → c ≤ ln_ a r → ci.toInt = (cn_ (a.1 f) (12 * r + c) : Int) → vX11_countJams_35 K Q j (g 0) l1 ci ri (T 10 r) l5 σ := by
    intro r ri K hr kK j
    obtain ⟨_, _, _, _, _, b1, b2, b3, b4, b5⟩ := h1.2 r hr
    induction j with
    | zero => intro _ _ _ _ _ _; exact trivial
    | succ j ih =>
      intro c ci l5 h5 hc hci
      have hle := cn_le (F := a.1 f) (12 * r + c)
      unfold vX11_countJams_35
      intro _ a5 e5 _
      obtain rfl := Option.some.inj (b1.symm.trans e5)
      unfold vJx4a65c_size_8abf5
      intro _
      rw [ki_le, b3, h5]
      refine ⟨fun q => kK ci ?_, fun q _ => ?_⟩
      · have : c = ln_ a r := by omega
        rw [hci, this]
        rw [cn_z (F := a.1 f) (i := 12 * r + ln_ a r) (12 * (r + 1)) (by omega) (fun k k1 k2 => ?_)]
        have e : k = 12 * r + (k - 12 * r) := by omega
        rw [e]
        exact hz r (k - 12 * r) (by omega) (by omega) (fun z => by have := z.2; omega)
      · have hlt : c < ln_ a r := by omega
        obtain ⟨⟨c1, c2⟩, c3, c4, c5, c6⟩ := h2 r hr c hlt
        have nx : ∀ v : Int32, v = l5 + 1 → v.toInt = ((c + 1 : Nat) : Int) := fun v e => by rw [e]; exact ki_addN h5 ki_z1 (by omega)
        have e33 : cn_ (a.1 f) (12 * r + (c + 1)) = cn_ (a.1 f) (12 * r + c) + (if a.1 f (12 * r + c) = 0 then 0 else 1) := rfl
        have sk : a.1 f (12 * r + c) = 0 → vX11_countJams_93 (vX11_countJams_35 K Q j) Q (g 0) l1 ci ri (T 10 r) l5 σ := by
          intro z
          unfold vX11_countJams_93
          intro v3 e3
          refine ih (c + 1) ci v3 (nx v3 e3) hlt ?_
          rw [e33, if_pos z]
          exact hci
        have yes : ¬ a.1 f (12 * r + c) = 0 → vX11_countJams_90 (vX11_countJams_93 (vX11_countJams_35 K Q j) Q) Q (g 0) l1 ci ri (T 10 r) l5 σ := by
          intro z
          unfold vX11_countJams_90
          intro v1 e1
          unfold vX11_countJams_93
          intro v3 e3
          refine ih (c + 1) v1 v3 (nx v3 e3) hlt ?_
          rw [e33, if_neg z, e1]
          exact ki_addN hci ki_z1 (by omega)
        intro a12 e12 _
        obtain rfl := Option.some.inj (b1.symm.trans e12)
        refine vy_get (fun _ _ => ?_)
        rw [ki_toN h5, c1]
        intro a17 e17 _
        obtain rfl := Option.some.inj e17
        rw [c5, c6]
        rcases hf with ⟨hl, rfl⟩ | ⟨hl, rfl⟩
        · exact ⟨fun _ => ⟨sk, yes⟩, fun q => absurd hl q⟩
        · exact ⟨fun q => absurd q hl, fun _ => ⟨sk, yes⟩⟩
  have loop : ∀ (j r : Nat) (ci i : Int32), i.toInt = (r : Int) → r ≤ nr → ci.toInt = (cn_ (a.1 f) (12 * r) : Int) → vX11_countJams_4 Q j (g 0) l1 ci i σ := by
    intro j
    induction j with
    | zero => intro _ _ _ _ _ _; exact trivial
    | succ j ih =>
      intro r ci i hi hr hci
      have hle := cn_le (F := a.1 f) (12 * r)
      unfold vX11_countJams_4
      intro _ a24 e24 _
      obtain rfl := Option.some.inj ((yg1 J).1.symm.trans e24)
      unfold vJx4a65c_size_8abf5
      intro _
      rw [ki_le, h1.1, hi]
      refine ⟨fun q => ?_, fun q _ => ?_⟩
      · have : r = nr := by omega
        subst this
        have e : cn_ (a.1 f) 120 = cn_ (a.1 f) (12 * r) := cn_z 120 (by omega) (fun k k1 k2 => by
          have e : k = 12 * (k / 12) + k % 12 := by omega
          rw [e]
          exact hz (k / 12) (k % 12) (by omega) (by omega) (fun z => by have := z.1; omega))
        rw [e, ← nI_w hci (by omega)] at kk
        exact kk
      · have hlt : r < nr := by omega
        intro a31 e31 _
        obtain rfl := Option.some.inj ((yg1 J).1.symm.trans e31)
        refine vy_get (fun _ _ => ?_)
        rw [ki_toN hi, ((h1.2 r hlt).1).1]
        intro a36 e36 _
        obtain rfl := Option.some.inj e36
        intro j2
        refine loop2 r i (vX11_countJams_99 (vX11_countJams_4 Q j) Q) hlt (fun v hv => ?_) j2 0 ci 0 (by decide) (by omega) hci
        unfold vX11_countJams_99
        intro v2 e2
        exact ih (r + 1) v v2 (by rw [e2]; exact ki_addN hi ki_z1 (by omega)) (by omega) hv
  unfold vX11_countJams
  intro j
  exact loop j 0 0 0 (by decide) (by omega) ki_z0
theorem vq_count {i : Int32} {Q : Int32 → kx_S → Prop} {QX : String → kx_S → Prop} (h10 : nr ≤ 10) (hz : wk_ nr a) (H : qo_ T N g κ st na nr nl m day RL s B n no a σ) (t213 : ∀ t, xr σ 213 (g 0) = some t → xi σ 177 t = s.1.2.2.2.2.1) (k1 : ∀ v, an_count m s a i = some v → Q v σ) (k0 : an_count m s a i = none → QX pz_N (xbump σ)) : vX11_count (g 0) i σ Q QX := by
  obtain ⟨⟨J, h0, h1, h2, h3, h4, h7, hj⟩, h6, hb, k22⟩ := H
  have es := J.2.2.2.2.1
  have e1 : xi σ 18 (g 1) = s.1.1 := congrArg (fun p => p.1) es
  have e2 : xi σ 18 (g 2) = s.1.2.1 := congrArg (fun p => p.2.1) es
  have e4 : xi σ 18 (g 4) = s.1.2.2.1 := congrArg (fun p => p.2.2.1) es
  have e5 : xi σ 18 (g 5) = s.1.2.2.2.1 := congrArg (fun p => p.2.2.2.1) es
  have e217 : xi σ 217 (g 0) = s.1.2.2.2.2.2 := congrArg (fun p => p.2.2.2.2.2) es
  unfold vX11_count
  rintro v1 rfl
  refine ⟨fun c _ => k1 _ ?_, fun c _ a6 e6 _ => ?_, fun c _ a6 e6 _ => ?_, fun c _ a6 e6 _ => ?_, fun c _ => k1 _ ?_, fun c _ a6 e6 _ => ?_, fun c _ => ?_, fun c _ => ?_, fun c _ a6 e6 _ => ?_, fun c _ a6 e6 _ => k1 _ ?_, fun n0 n1 n2 n3 n4 n5 n6 n7 n8 n9 _ => k0 ?_⟩
  · rw [c, e217]; rfl
  · obtain rfl := Option.some.inj ((yg1 J).1.symm.trans e6)
    unfold vJx4a65c_size_8abf5
    intro _
    rw [e1]
    exact k1 _ (by rw [c]; rfl)
  · obtain rfl := Option.some.inj ((yg2 J).1.symm.trans e6)
    unfold vJx4a65c_size_8abf5
    intro _
    rw [e2]
    exact k1 _ (by rw [c]; rfl)
  · obtain rfl := Option.some.inj ((yg3 J).1.symm.trans e6)
    unfold vJx4a65c_size_8abf5
    intro _
    rw [nI_w h7.1 (by have := h7.2.1; omega)]
    exact k1 _ (by rw [c]; rfl)
  · rw [c, hb]; rfl
  · obtain rfl := Option.some.inj ((yg4 J).1.symm.trans e6)
    unfold vJx4a65c_size_8abf5
    intro _
    rw [e4]
    exact k1 _ (by rw [c]; rfl)
  · exact vq_countJams (f := 33) (fc := 50) h10 J h1 h2 (fun r c p q z => (hz r c p q z).1) (.inl ⟨rfl, rfl⟩) (k1 _ (by rw [c]; rfl))
  · exact vq_countJams (f := 34) (fc := 51) h10 J h1 h2 (fun r c p q z => (hz r c p q z).2) (.inr ⟨by decide, rfl⟩) (k1 _ (by rw [c]; rfl))
  · obtain rfl := Option.some.inj ((yg5 J).1.symm.trans e6)
    unfold vJx4a65c_size_8abf5
    intro _
    rw [e5]
    exact k1 _ (by rw [c]; rfl)
  · rw [t213 a6 e6, c]; rfl
  · unfold an_count
    rw [if_neg n0, if_neg n1, if_neg n2, if_neg n3, if_neg n4, if_neg n5, if_neg n6, if_neg n7, if_neg n8, if_neg n9]
end
/-! the reference -/
theorem vr_board {nl : Nat} {a : ra_T} {μ : km_S} {b : Int32} {Q : Int32 → km_S → Prop} (l4 : nl ≤ 400) (Bd : rB_ nl a μ) (h : rA_ a μ) (k1 : ∀ v, bo_ a b nl 0 = some v → Q v (mc0_ μ)) (k0 : bo_ a b nl 0 = none → Q 0 (mc1_ μ)) : vX12_board b μ Q := by
  obtain ⟨B1, B2, B3, B4⟩ := Bd
  unfold vX12_board
  rintro μ3 rfl
  have e6 : km_i (km_si μ 1 0) 6 = a.1 6 0 := h.2.2.2
  have out : (b.toInt < 0 ∨ (a.1 6 0).toInt ≤ b.toInt) → vX12_board_17 Q (km_si μ 1 0) := by
    intro c
    rintro _ rfl
    refine k0 (bo_no nl 0 (fun y _ hy z => ?_))
    obtain ⟨p1, p2, _⟩ := B4 y (by omega) z.1
    have := z.2.1
    have := z.2.2
    omega
  rw [e6, ki_lt, ki_z0, ki_lt]
  refine ⟨fun c => out (.inl c), fun c => ⟨fun d _ => ?_, fun d => out (.inr (by omega))⟩⟩
  obtain ⟨q, hq⟩ : ∃ q : Nat, b.toInt = (q : Int) := ⟨b.toInt.toNat, by omega⟩
  obtain ⟨x, x1, x2, x3, x4⟩ := B3 q (by omega)
  have hx : hb_ a b x := ⟨x2, by omega, by omega⟩
  have e43 : ∀ y, y < nl → hb_ a b y → (km_a μ 43 q).toInt = (y : Int) := fun y hy z => (B4 y hy z.1).2.2 q (by have := z.2.1; omega) (by have := z.2.2; omega)
  rw [ki_toN hq]
  refine k1 _ ?_
  rw [bo_yes hx nl 0 (by omega) (by omega) (fun y _ hy z => ?_)]
  · congr 1
    exact (nI_w (e43 x x1 hx) (by omega)).symm
  · have p1 := e43 y (by omega) z
    have p2 := e43 x x1 hx
    omega
theorem vr_count {m : Nat} {s : sz_T} {a : ra_T} {μ : km_S} {i : Int32} {Q : Int32 → km_S → Prop} (m6 : m ≤ 6) (hs : sm_ μ = s) (h5 : (km_i μ 5).toInt = (m : Int)) (h : rA_ a μ) (k1 : ∀ v, an_count m s a i = some v → Q v (mc0_ μ)) (k0 : an_count m s a i = none → Q 0 (mc1_ μ)) : vX12_count i μ Q := by
  have z120 : (120 : Int32).toInt = 120 := by decide
  have h' : rA_ a (km_si μ 1 0) := h
  have fin : ∀ x y : Int32, x.toInt = (cn_ (a.1 33) 120 : Int) → y.toInt = (cn_ (a.1 34) 120 : Int) → vX12_count_61 Q i x y (km_si μ 1 0) := by
    intro x y hx hy
    have l1 := cn_le (F := a.1 33) 120
    have l2 := cn_le (F := a.1 34) 120
    have e6 : km_i (km_si μ 1 0) 6 = a.1 6 0 := h'.2.2.2
    have e5 : km_i (km_si μ 1 0) 5 = nI m := nI_w h5 (by omega)
    unfold vX12_count_61
    rintro v9 rfl
    rw [e6, e5, nI_w hx (by omega), nI_w hy (by omega)]
    subst hs
    refine ⟨fun c => k1 _ (by rw [c]; rfl), fun c => k1 _ (by rw [c]; rfl), fun c => k1 _ (by rw [c]; rfl), fun c => k1 _ (by rw [c]; rfl), fun c => k1 _ (by rw [c]; rfl), fun c => k1 _ (by rw [c]; rfl), fun c => k1 _ (by rw [c]; rfl), fun c => k1 _ (by rw [c]; rfl), fun c => k1 _ (by rw [c]; rfl), fun c => k1 _ (by rw [c]; rfl), fun n0 n1 n2 n3 n4 n5 n6 n7 n8 n9 => ?_⟩
    rintro _ rfl
    refine k0 ?_
    unfold an_count
    rw [if_neg n0, if_neg n1, if_neg n2, if_neg n3, if_neg n4, if_neg n5, if_neg n6, if_neg n7, if_neg n8, if_neg n9]
  have loop : ∀ (j k : Nat) (l2 l3 l4 : Int32), l4.toInt = (k : Int) → k ≤ 120 → l2.toInt = (cn_ (a.1 33) k : Int) → l3.toInt = (cn_ (a.1 34) k : Int) → vX12_count_12 (vX12_count_61 Q) Q j i l2 l3 l4 (km_si μ 1 0) := by
    intro j
    induction j with
    | zero => intro _ _ _ _ _ _ _ _; exact trivial
    | succ j ih =>
      intro k l2 l3 l4 h4 hk h2 h3
      have c1 := cn_le (F := a.1 33) k
      have c2 := cn_le (F := a.1 34) k
      unfold vX12_count_12
      rw [ki_le, z120, h4, ki_toN h4, h'.1 33 (by decide)]
      have stp : ∀ s0 : Int32, s0.toInt = ((if a.1 33 k = 0 then 0 else 1 : Nat) : Int) → ¬ (120 : Int) ≤ (k : Int) → vX12_count_35 (vX12_count_12 (vX12_count_61 Q) Q j) Q i l3 l4 s0 l2 (km_si μ 1 0) := by
        intro s0 hs0 hlt
        have b1 : (if a.1 33 k = 0 then 0 else 1 : Nat) ≤ 1 := by split <;> omega
        unfold vX12_count_35
        intro v3 e3 _
        rw [ki_toN h4, h'.1 34 (by decide)]
        have f3 : v3.toInt = (cn_ (a.1 33) (k + 1) : Int) := by
          rw [e3]
          exact ki_addN h2 hs0 (by omega)
        have go : ∀ t0 : Int32, t0.toInt = ((if a.1 34 k = 0 then 0 else 1 : Nat) : Int) → vX12_count_53 (vX12_count_12 (vX12_count_61 Q) Q j) Q i v3 l4 t0 l3 (km_si μ 1 0) := by
          intro t0 ht0
          have b2 : (if a.1 34 k = 0 then 0 else 1 : Nat) ≤ 1 := by split <;> omega
          unfold vX12_count_53
          intro v1 e1 v2 e2
          refine ih (k + 1) v3 v1 v2 (by rw [e2]; exact ki_addN h4 ki_z1 (by omega)) (by omega) f3 ?_
          rw [e1]
          exact ki_addN h3 ht0 (by omega)
        exact ⟨fun c => go 0 (by rw [if_pos c]; decide), fun c => go 1 (by rw [if_neg c]; decide)⟩
      refine ⟨fun q => ?_, fun q _ => ⟨fun c => stp 0 (by rw [if_pos c]; decide) q, fun c => stp 1 (by rw [if_neg c]; decide) q⟩⟩
      have : k = 120 := by omega
      subst this
      exact fin l2 l3 h2 h3
  unfold vX12_count
  rintro μ22 rfl j
  exact loop j 0 0 0 0 (by decide) (by omega) ki_z0 ki_z0
