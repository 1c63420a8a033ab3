/-! the reference's rows of logs -/
def la_ (A : Nat → Int32) (b : Nat) (cnt : Int32) (L : List Nat) : Prop := cnt.toInt = (L.length : Int) ∧ ∀ (i x : Nat), L[i]? = some x → (A (b + i)).toInt = (x : Int)
abbrev rf_F : List Nat := [13, 14, 15, 16, 18, 19, 21, 22, 23, 27, 28, 33, 34, 35, 36, 37, 38, 39, 40, 41, 42, 44, 45, 46, 47, 48, 49, 50]
def rA_ (a : ra_T) (μ : km_S) : Prop := (∀ f, f ∈ rf_F → km_a μ f = a.1 f) ∧ (∀ k, k < 120 → la_ (km_a μ 32) (20 * k) (km_a μ 31 k) (a.2 k)) ∧ (∀ r, r < 10 → la_ (km_a μ 30) (100 * r) (km_a μ 29 r) (a.2 (120 + r))) ∧ km_i μ 6 = a.1 6 0
/-- nothing but the rows of cells changed -/
def rl_ (μ u : km_S) : Prop := u.1 = μ.1 ∧ (∀ f, f ≠ 31 → f ≠ 32 → km_a u f = km_a μ f) ∧ u.2.2 = μ.2.2
theorem rl_refl {μ : km_S} : rl_ μ μ := ⟨rfl, fun _ _ _ => rfl, rfl⟩
theorem rl_32 {μ u : km_S} {i : Nat} {v : Int32} (h : rl_ μ u) : rl_ μ (km_sa u 32 i v) := by
  refine ⟨h.1, fun f h1 h2 => ?_, h.2.2⟩
  refine Eq.trans ?_ (h.2.1 f h1 h2)
  show (if f = 32 then _ else u.2.1 f) = u.2.1 f
  exact if_neg h2
theorem rl_31 {μ u : km_S} {i : Nat} {v : Int32} (h : rl_ μ u) : rl_ μ (km_sa u 31 i v) := by
  refine ⟨h.1, fun f h1 h2 => ?_, h.2.2⟩
  refine Eq.trans ?_ (h.2.1 f h1 h2)
  show (if f = 31 then _ else u.2.1 f) = u.2.1 f
  exact if_neg h1
theorem ki_mulN {a : Int32} {c k : Nat} {ci : Int32} (hc : ci.toInt = (c : Int)) (h : a.toInt = (k : Int)) (hb : c * k < 2147483648) : (ci * a).toInt = ((c * k : Nat) : Int) := by
  have e : ((c * k : Nat) : Int) = (c : Int) * (k : Int) := by rw [Int.natCast_mul]
  rw [ki_mul (by rw [hc, h, ← e]; omega) (by rw [hc, h, ← e]; omega), hc, h, e]
theorem ki_addN {a b : Int32} {j k : Nat} (h1 : a.toInt = (j : Int)) (h2 : b.toInt = (k : Int)) (hb : j + k < 2147483648) : (a + b).toInt = ((j + k : Nat) : Int) := by
  rw [ki_add (by rw [h1, h2]; omega) (by rw [h1, h2]; omega), h1, h2]
  omega
theorem ki_toN {a : Int32} {k : Nat} (h : a.toInt = (k : Int)) : a.toNatClampNeg = k := by rw [ki_nat, h]; omega
theorem vr_lift21 {μ : km_S} {k x : Nat} {xi li : Int32} {L : List Nat} {Q : km_S → Prop} (hx : xi.toInt = (x : Int)) (hk : li.toInt = (k : Int)) (k120 : k < 120) (hL : L.length ≤ 20) (h31 : (km_a μ 31 k).toInt = (L.length : Int))
    (kk : ∀ u, rl_ μ u → (∀ j, j ≠ k → km_a u 31 j = km_a μ 31 j) → (∀ q, (q < 20 * k ∨ 20 * k + 20 ≤ q) → km_a u 32 q = km_a μ 32 q) → la_ (km_a u 32) (20 * k) (km_a u 31 k) (L.filter (fun z => decide (¬ z = x))) → Q u) : ∀ (j : Nat) (R P : List Nat) (l3 l4 : Int32) (u : km_S), L = P ++ R → l4.toInt = (P.length : Int) → l3.toInt = ((P.filter (fun z => decide (¬ z = x))).length : Int) → rl_ μ u → (∀ j, km_a u 31 j = km_a μ 31 j) → (∀ q, (q < 20 * k ∨ 20 * k + 20 ≤ q) → km_a u 32 q = km_a μ 32 q) → (∀ (i y : Nat), (P.filter (fun z => decide (¬ z = x)))[i]? = some y → (km_a u 32 (20 * k + i)).toInt = (y : Int)) → (∀ (i y : Nat), R[i]? = some y → (km_a u 32 (20 * k + (P.length + i))).toInt = (y : Int)) → vX12_lift_21 (vX12_lift_77 Q) Q j xi li l3 l4 u := by
  have z20 : (20 : Int32).toInt = ((20 : Nat) : Int) := by decide
  have ek : li.toNatClampNeg = k := ki_toN hk
  obtain ⟨w, ew, e20⟩ : ∃ w, w = 20 * li ∧ w.toInt = ((20 * k : Nat) : Int) := ⟨_, rfl, ki_mulN z20 hk (by omega)⟩
  intro j
  induction j with
  | zero => intro _ _ _ _ _ _ _ _ _ _ _ _ _; exact trivial
  | succ j ih =>
    intro R P l3 l4 u hLP h4 h3 hl h31u hq hP hR
    have hlen : L.length = P.length + R.length := by rw [hLP, List.length_append]
    have hfl := List.length_filter_le (fun z => decide (¬ z = x)) P
    unfold vX12_lift_21
    intro _
    rw [ek, ki_le, h31u, h31, h4, ← ew]
    refine ⟨fun c => ?_, fun c _ => ?_⟩
    · have hR0 : R = [] := List.eq_nil_of_length_eq_zero (by omega)
      rw [hR0, List.append_nil] at hLP
      unfold vX12_lift_77
      rw [ek]
      rintro _ μ3 rfl
      refine kk _ (rl_31 hl) (fun q hqk => ?_) hq ⟨?_, fun i y hy => ?_⟩
      · show upd (u.2.1 31) k l3 q = _
        rw [w_updN hqk]
        exact h31u q
      · show (upd (u.2.1 31) k l3 k).toInt = _
        rw [w_updS, h3, hLP]
      · rw [hLP] at hy
        exact hP i y hy
    · cases R with
      | nil => rw [List.length_nil] at hlen; omega
      | cons y R =>
        rw [List.length_cons] at hlen
        have ei : (w + l4).toNatClampNeg = 20 * k + (P.length + 0) := ki_toN (ki_addN e20 h4 (by omega))
        have hy := hR 0 y rfl
        rw [ei]
        rintro v7 e7
        have hv7 : v7.toInt = (y : Int) := by rw [e7]; exact hy
        have nx : ∀ v1 : Int32, v1 = l4 + 1 → v1.toInt = ((P ++ [y]).length : Int) := by
          intro v1 e
          rw [e, ki_add (by rw [h4, ki_z1]; omega) (by rw [h4, ki_z1]; omega), h4, ki_z1, List.length_append]
          rfl
        have hLP2 : L = (P ++ [y]) ++ R := by rw [hLP, List.append_assoc]; rfl
        have rest : ∀ (i z : Nat), R[i]? = some z → (km_a u 32 (20 * k + ((P ++ [y]).length + i))).toInt = (z : Int) := by
          intro i z hz
          have := hR (i + 1) z (by rw [List.getElem?_cons_succ]; exact hz)
          rw [List.length_append, show P.length + [y].length + i = P.length + (i + 1) by show P.length + 1 + i = _; omega]
          exact this
        refine ⟨fun d => ?_, fun d => ?_⟩
        · have ne : ¬ y = x := fun e => d (ki_eq.2 (by rw [hv7, hx, e]))
          have ef : (P ++ [y]).filter (fun z => decide (¬ z = x)) = P.filter (fun z => decide (¬ z = x)) ++ [y] := by
            rw [List.filter_append, List.filter_cons_of_pos (p := fun z => decide (¬ z = x)) (decide_eq_true ne), List.filter_nil]
          have e3 : (w + l3).toNatClampNeg = 20 * k + (P.filter (fun z => decide (¬ z = x))).length := ki_toN (ki_addN e20 h3 (by omega))
          rw [e3]
          rintro _ μ10 rfl v11 e11
          unfold vX12_lift_71
          intro v1 e1
          refine ih R (P ++ [y]) v11 v1 _ hLP2 (nx v1 e1) ?_ (rl_32 hl) h31u (fun q hqq => ?_) (fun i z hz => ?_) (fun i z hz => ?_)
          · rw [e11, ki_add (by rw [h3, ki_z1]; omega) (by rw [h3, ki_z1]; omega), h3, ki_z1, ef, List.length_append]
            rfl
          · show upd (u.2.1 32) (20 * k + (P.filter (fun z => decide (¬ z = x))).length) v7 q = _
            rw [w_updN (by omega)]
            exact hq q hqq
          · show (upd (u.2.1 32) (20 * k + (P.filter (fun z => decide (¬ z = x))).length) v7 (20 * k + i)).toInt = _
            rw [ef] at hz
            by_cases c2 : i < (P.filter (fun z => decide (¬ z = x))).length
            · rw [w_updN (by omega)]
              rw [List.getElem?_append_left c2] at hz
              exact hP i z hz
            · have hlt := (List.getElem?_eq_some_iff.1 hz).1
              rw [List.length_append] at hlt
              have hlt : i < (P.filter (fun z => decide (¬ z = x))).length + 1 := hlt
              have ei2 : i = (P.filter (fun z => decide (¬ z = x))).length := by omega
              rw [ei2, List.getElem?_append_right (Nat.le_refl _), Nat.sub_self] at hz
              have : y = z := Option.some.inj hz
              rw [ei2, w_updS, hv7, this]
          · show (upd (u.2.1 32) (20 * k + (P.filter (fun z => decide (¬ z = x))).length) v7 (20 * k + ((P ++ [y]).length + i))).toInt = _
            rw [w_updN (by rw [List.length_append]; show 20 * k + (P.length + 1 + i) ≠ _; omega)]
            exact rest i z hz
        · have eyx : y = x := by
            have := congrArg Int32.toInt d
            rw [hv7, hx] at this
            omega
          have ef : (P ++ [y]).filter (fun z => decide (¬ z = x)) = P.filter (fun z => decide (¬ z = x)) := by
            rw [List.filter_append, List.filter_cons_of_neg (by simp [eyx]), List.filter_nil, List.append_nil]
          unfold vX12_lift_71
          intro v1 e1
          refine ih R (P ++ [y]) l3 v1 u hLP2 (nx v1 e1) (by rw [ef]; exact h3) hl h31u hq (fun i z hz => ?_) rest
          rw [ef] at hz
          exact hP i z hz
theorem rA_rl {a : ra_T} {μ u : km_S} {k : Nat} {L : List Nat} (h : rA_ a μ) (k120 : k < 120) (hl : rl_ μ u) (h31 : ∀ j, j ≠ k → km_a u 31 j = km_a μ 31 j) (h32 : ∀ q, (q < 20 * k ∨ 20 * k + 20 ≤ q) → km_a u 32 q = km_a μ 32 q) (hs : ∀ j, j < 120 → (a.2 j).length ≤ 20) (hL : la_ (km_a u 32) (20 * k) (km_a u 31 k) L) : rA_ (ks_ a k L) u := by
  refine ⟨fun f hf => ?_, fun j hj => ?_, fun r hr => ?_, ?_⟩
  · rw [hl.2.1 f (by intro e; rw [e] at hf; exact absurd hf (by decide)) (by intro e; rw [e] at hf; exact absurd hf (by decide))]
    exact h.1 f hf
  · by_cases e : j = k
    · rw [e, ks_s]
      exact hL
    · rw [ks_n e, h31 j e]
      obtain ⟨b1, b2⟩ := h.2.1 j hj
      refine ⟨b1, fun i x hx => ?_⟩
      have hlt := (List.getElem?_eq_some_iff.1 hx).1
      have := hs j hj
      rw [h32 _ (by omega)]
      exact b2 i x hx
  · rw [ks_n (by omega), hl.2.1 30 (by decide) (by decide), hl.2.1 29 (by decide) (by decide)]
    exact h.2.2.1 r hr
  · have e : km_i u 6 = km_i μ 6 := by show u.1 6 = μ.1 6; rw [hl.1]
    rw [e]
    exact h.2.2.2
theorem vr_lift {a : ra_T} {μ : km_S} {x r c : Nat} {xi : Int32} {Q : km_S → Prop} (h : rA_ a μ) (hx : xi.toInt = (x : Int)) (hr : (a.1 39 x).toInt = (r : Int)) (hc : (a.1 40 x).toInt = (c : Int)) (r10 : r < 10) (c12 : c < 12) (hs : ∀ j, j < 120 → (a.2 j).length ≤ 20) (kk : ∀ u, rA_ (a_drop a x (12 * r + c)) u → rl_ μ u → Q u) : vX12_lift xi μ Q := by
  have z12 : (12 : Int32).toInt = ((12 : Nat) : Int) := by decide
  have ex : xi.toNatClampNeg = x := ki_toN hx
  unfold vX12_lift vX12_at0
  intro _ _ j
  rw [ex, h.1 39 (by decide), h.1 40 (by decide)]
  obtain ⟨w, ew, ek⟩ : ∃ w, w = 12 * a.1 39 x + a.1 40 x ∧ w.toInt = ((12 * r + c : Nat) : Int) := ⟨_, rfl, ki_addN (ki_mulN z12 hr (by omega)) hc (by omega)⟩
  rw [← ew]
  have hk : 12 * r + c < 120 := by omega
  obtain ⟨b1, b2⟩ := h.2.1 _ hk
  refine vr_lift21 hx ek hk (hs _ hk) b1 (fun u u1 u2 u3 u4 => kk u (rA_rl h hk u1 u2 u3 hs u4) u1) j (a.2 (12 * r + c)) [] 0 0 μ rfl rfl rfl rl_refl (fun _ => rfl) (fun _ _ => rfl) (fun i y hy => absurd hy (by simp)) (fun i y hy => ?_)
  rw [show ([] : List Nat).length + i = i by simp]
  exact b2 i y hy
/-- a log is laid -/
def a_lay (a : ra_T) (x r c : Nat) : ra_T := fs_ (fs_ (ks_ a (12 * r + c) (a.2 (12 * r + c) ++ [x])) 39 x (nI r)) 40 x (nI c)
theorem rA_fs {a : ra_T} {μ : km_S} {f i : Nat} {v : Int32} (h : rA_ a μ) (hf : f ∈ rf_F) : rA_ (fs_ a f i v) (km_sa μ f i v) := by
  refine ⟨fun e he => ?_, fun k hk => ?_, fun r hr => ?_, ?_⟩
  · show (if e = f then upd (μ.2.1 f) i v else μ.2.1 e) = (if e = f then upd (a.1 f) i v else a.1 e)
    by_cases c : e = f
    · rw [if_pos c, if_pos c]
      have := h.1 f hf
      have q : μ.2.1 f = a.1 f := this
      rw [q]
    · rw [if_neg c, if_neg c]
      exact h.1 e he
  · have e1 : km_a (km_sa μ f i v) 31 = km_a μ 31 := if_neg (by intro e; rw [← e] at hf; exact absurd hf (by decide))
    have e2 : km_a (km_sa μ f i v) 32 = km_a μ 32 := if_neg (by intro e; rw [← e] at hf; exact absurd hf (by decide))
    rw [e1, e2]
    exact h.2.1 k hk
  · have e1 : km_a (km_sa μ f i v) 29 = km_a μ 29 := if_neg (by intro e; rw [← e] at hf; exact absurd hf (by decide))
    have e2 : km_a (km_sa μ f i v) 30 = km_a μ 30 := if_neg (by intro e; rw [← e] at hf; exact absurd hf (by decide))
    rw [e1, e2]
    exact h.2.2.1 r hr
  · have e : (fs_ a f i v).1 6 = a.1 6 := fs_n (by intro e; rw [← e] at hf; exact absurd hf (by decide))
    rw [e]
    exact h.2.2.2
theorem vr_lay {a : ra_T} {μ : km_S} {x r c : Nat} {xi ri ci : Int32} {Q : km_S → Prop} (h : rA_ a μ) (hx : xi.toInt = (x : Int)) (hr : ri.toInt = (r : Int)) (hc : ci.toInt = (c : Int)) (r10 : r < 10) (c12 : c < 12) (hs : ∀ j, j < 120 → (a.2 j).length ≤ 20) (ho : (a.2 (12 * r + c)).length < 20) (kk : ∀ u, rA_ (a_lay a x r c) u → (∀ f, f ≠ 31 → f ≠ 32 → f ≠ 39 → f ≠ 40 → km_a u f = km_a μ f) → u.1 = μ.1 → Q u) : vX12_lay xi ri ci μ Q := by
  have z12 : (12 : Int32).toInt = ((12 : Nat) : Int) := by decide
  have z20 : (20 : Int32).toInt = ((20 : Nat) : Int) := by decide
  have ex : xi.toNatClampNeg = x := ki_toN hx
  obtain ⟨w, ew, ek⟩ : ∃ w, w = 12 * ri + ci ∧ w.toInt = ((12 * r + c : Nat) : Int) := ⟨_, rfl, ki_addN (ki_mulN z12 hr (by omega)) hc (by omega)⟩
  have hk : 12 * r + c < 120 := by omega
  obtain ⟨b1, b2⟩ := h.2.1 _ hk
  have en : w.toNatClampNeg = 12 * r + c := ki_toN ek
  unfold vX12_lay vX12_at0
  dsimp only
  rw [← ew, en, ex]
  have ei : (20 * w + km_a μ 31 (12 * r + c)).toNatClampNeg = 20 * (12 * r + c) + (a.2 (12 * r + c)).length := ki_toN (ki_addN (ki_mulN z20 ek (by omega)) b1 (by omega))
  rw [ei]
  rintro _ _ μ5 rfl _ _ μ8 rfl _ μ10 rfl _ μ12 rfl
  refine kk _ ?_ (fun f h1 h2 h3 h4 => ?_) rfl
  · have rr : ri = nI r := nI_at hr (by omega)
    have cc : ci = nI c := nI_at hc (by omega)
    unfold a_lay
    rw [← rr, ← cc]
    refine rA_fs (rA_fs (rA_rl h hk (rl_31 (rl_32 rl_refl)) (fun j hj => ?_) (fun q hq => ?_) hs ⟨?_, fun i y hy => ?_⟩) (by decide)) (by decide)
    · exact w_updN hj
    · show upd (μ.2.1 32) (20 * (12 * r + c) + (a.2 (12 * r + c)).length) xi q = _
      exact w_updN (by omega)
    · show (upd (μ.2.1 31) (12 * r + c) (km_a μ 31 (12 * r + c) + 1) (12 * r + c)).toInt = _
      rw [w_updS, ki_add (by rw [b1, ki_z1]; omega) (by rw [b1, ki_z1]; omega), b1, ki_z1, List.length_append]
      rfl
    · show (upd (μ.2.1 32) (20 * (12 * r + c) + (a.2 (12 * r + c)).length) xi (20 * (12 * r + c) + i)).toInt = _
      by_cases c2 : i < (a.2 (12 * r + c)).length
      · rw [w_updN (by omega)]
        rw [List.getElem?_append_left c2] at hy
        exact b2 i y hy
      · have hlt := (List.getElem?_eq_some_iff.1 hy).1
        rw [List.length_append] at hlt
        have hlt : i < (a.2 (12 * r + c)).length + 1 := hlt
        have e2 : i = (a.2 (12 * r + c)).length := by omega
        rw [e2, List.getElem?_append_right (Nat.le_refl _), Nat.sub_self] at hy
        have : x = y := Option.some.inj hy
        rw [e2, w_updS, hx, this]
  · have e1 : ∀ (u : km_S) (g i : Nat) (v : Int32), f ≠ g → km_a (km_sa u g i v) f = km_a u f := fun u g i v hg => if_neg hg
    rw [e1 _ _ _ _ h4, e1 _ _ _ _ h3, e1 _ _ _ _ h1, e1 _ _ _ _ h2]
