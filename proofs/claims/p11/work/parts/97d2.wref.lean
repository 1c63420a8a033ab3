/-! the reference's water -/
theorem w_updS {f : Nat → Int32} {i : Nat} {a : Int32} : upd f i a i = a := if_pos rfl
theorem w_updN {f : Nat → Int32} {i j : Nat} {a : Int32} (h : j ≠ i) : upd f i a j = f j := if_neg h
theorem w_upd2 {f : Nat → Int32} {i : Nat} {a b : Int32} : upd (upd f i a) i b = upd f i b := by
  funext j
  by_cases h : j = i
  · rw [h, w_updS, w_updS]
  · rw [w_updN h, w_updN h, w_updN h]
def wm_ (μ : km_S) : wt_T := (km_a μ 13, km_a μ 24, km_a μ 25, km_a μ 18, km_a μ 19, km_l μ 11, km_l μ 12)
abbrev wr_X (k : Nat) (μ : km_S) : wx_T := w_run (km_a μ 13) (km_a μ 21) (km_a μ 24) (km_a μ 26) k (km_a μ 20, km_a μ 19, km_a μ 25, km_l μ 12)
def wl_ (k : Nat) (μ u : km_S) : Prop := km_a u 13 = km_a μ 13 ∧ km_a u 24 = km_a μ 24 ∧ km_a u 19 = (wr_X k μ).2.1 ∧ km_a u 25 = (wr_X k μ).2.2.1 ∧ km_l u 12 = (wr_X k μ).2.2.2 ∧ km_l u 11 = km_l μ 11 + w_sum (km_a μ 17) k ∧ km_a u 18 = fun r => if r < k then (wr_X k μ).1 r else km_a μ 18 r
theorem wl_zero (μ : km_S) : wl_ 0 μ μ := by
  refine ⟨rfl, rfl, rfl, rfl, rfl, ?_, ?_⟩
  · show km_l μ 11 = km_l μ 11 + 0
    rw [Int64.add_zero]
  · funext r
    exact (if_neg (Nat.not_lt_zero r)).symm
theorem wl_step {k : Nat} {μ μ' u : km_S} (hn : ∀ r, r < k + 1 → -1 ≤ (km_a μ 13 r).toInt ∧ (km_a μ 13 r).toInt < (r : Int)) (e13 : km_a μ' 13 = km_a μ 13) (e17 : km_a μ' 17 = km_a μ 17) (e21 : km_a μ' 21 = km_a μ 21) (e24 : km_a μ' 24 = km_a μ 24) (e26 : km_a μ' 26 = km_a μ 26)
    (ex : (km_a μ' 20, km_a μ' 19, km_a μ' 25, km_l μ' 12) = w_step (km_a μ 13) (km_a μ 21) (km_a μ 24) (km_a μ 26) k (km_a μ 20, km_a μ 19, km_a μ 25, km_l μ 12)) (e11 : km_l μ' 11 = km_l μ 11 + (km_a μ 17 k).toInt64) (e18 : km_a μ' 18 = upd (km_a μ 18) k (km_a μ 20 k)) (h : wl_ k μ' u) : wl_ (k + 1) μ u := by
  obtain ⟨a13, a24, a19, a25, a12, a11, a18⟩ := h
  have eX : wr_X k μ' = wr_X (k + 1) μ := by
    show w_run (km_a μ' 13) (km_a μ' 21) (km_a μ' 24) (km_a μ' 26) k (km_a μ' 20, km_a μ' 19, km_a μ' 25, km_l μ' 12) = w_run (km_a μ 13) (km_a μ 21) (km_a μ 24) (km_a μ 26) k (w_step (km_a μ 13) (km_a μ 21) (km_a μ 24) (km_a μ 26) k (km_a μ 20, km_a μ 19, km_a μ 25, km_l μ 12))
    rw [ex, e13, e21, e24, e26]
  have hk := hn k (by omega)
  have e20 : km_a μ' 20 k = km_a μ 20 k := by
    have := congrArg (fun q : wx_T => q.1 k) ex
    refine this.trans ?_
    show (if km_a μ 13 k = -1 then km_a μ 20 else upd (km_a μ 20) (km_a μ 13 k).toNatClampNeg _) k = _
    by_cases c : km_a μ 13 k = -1
    · rw [if_pos c]
    · rw [if_neg c]
      have c2 : (km_a μ 13 k).toInt ≠ -1 := fun h => c (ki_eq.2 (h.trans (by decide)))
      exact w_updN (by rw [ki_nat]; omega)
  refine ⟨a13.trans e13, a24.trans e24, by rw [a19, eX], by rw [a25, eX], by rw [a12, eX], ?_, ?_⟩
  · rw [a11, e11, e17]
    show km_l μ 11 + (km_a μ 17 k).toInt64 + w_sum (km_a μ 17) k = km_l μ 11 + (w_sum (km_a μ 17) k + (km_a μ 17 k).toInt64)
    rw [Int64.add_assoc, Int64.add_comm (km_a μ 17 k).toInt64]
  · rw [a18, ← eX]
    funext r
    show (if r < k then (wr_X k μ').1 r else km_a μ' 18 r) = (if r < k + 1 then (wr_X k μ').1 r else km_a μ 18 r)
    by_cases c : r < k
    · rw [if_pos c, if_pos (by omega)]
    · rw [if_neg c, e18]
      by_cases d : r = k
      · rw [if_pos (by omega), d, w_updS, ← e20]
        refine ((w_run_hi (dm := km_a μ' 21) (rm := km_a μ' 24) (gt := km_a μ' 26) k (km_a μ' 20, km_a μ' 19, km_a μ' 25, km_l μ' 12) (fun q hq => ?_) k (Nat.le_refl k)).1).symm
        rw [e13]
        exact hn q (by omega)
      · rw [if_neg (by omega), w_updN d]
theorem vm_w166 {Q : km_S → Prop} {k35 : Int32 → km_S → Prop} {l1 : Int32} {k : Nat} {μ μ' : km_S} (ek : l1.toNatClampNeg = k) (hl : l1.toInt = (k : Int)) (hn : ∀ r, r < k + 1 → -1 ≤ (km_a μ 13 r).toInt ∧ (km_a μ 13 r).toInt < (r : Int)) (e13 : km_a μ' 13 = km_a μ 13) (e17 : km_a μ' 17 = km_a μ 17) (e21 : km_a μ' 21 = km_a μ 21) (e24 : km_a μ' 24 = km_a μ 24) (e26 : km_a μ' 26 = km_a μ 26) (e20 : km_a μ' 20 = km_a μ 20)
    (e19 : km_a μ' 19 = upd (km_a μ 19) k (w_out (km_a μ 21 k) (km_a μ 24 k) (km_a μ 26 k) (km_a μ 20 k) (km_a μ 25 k))) (e25 : km_a μ' 25 = if km_a μ 21 k = 0 then km_a μ 25 else upd (km_a μ 25) k (km_a μ 25 k + km_a μ 20 k - w_out (km_a μ 21 k) (km_a μ 24 k) (km_a μ 26 k) (km_a μ 20 k) (km_a μ 25 k))) (e12 : km_l μ' 12 = km_l μ 12) (e11 : km_l μ' 11 = km_l μ 11 + (km_a μ 17 k).toInt64) (e18 : km_a μ' 18 = upd (km_a μ 18) k (km_a μ 20 k))
    (ih : ∀ (v : Int32) (μ2 : km_S), v.toInt = (k : Int) - 1 → (∀ r, r < k → -1 ≤ (km_a μ2 13 r).toInt ∧ (km_a μ2 13 r).toInt < (r : Int)) → (∀ u, wl_ k μ2 u → Q u) → k35 v μ2) (kk : ∀ u, wl_ (k + 1) μ u → Q u) : vX12_waterGoes_166 k35 Q l1 μ' := by
  unfold vX12_waterGoes_166
  have ev : ∀ v : Int32, v = l1 + (-1) → v.toInt = (k : Int) - 1 := by
    intro v e
    have m1 : (-1 : Int32).toInt = -1 := by decide
    have h1 := ki_hi l1
    rw [e, ki_add (by rw [m1]; omega) (by rw [m1]; omega), hl, m1]
    omega
  have o19 : km_a μ' 19 k = w_out (km_a μ 21 k) (km_a μ 24 k) (km_a μ 26 k) (km_a μ 20 k) (km_a μ 25 k) := by rw [e19, w_updS]
  rw [ek, e13]
  intro _
  refine ⟨fun c _ _ _ _ μ2 e2 => ?_, fun c _ μ2 e2 => ?_⟩
  · unfold vX12_waterGoes_215
    intro v e
    subst e2
    refine ih v _ (ev v e) (fun r hr => ?_) (fun u hu => kk u (wl_step (μ' := km_sa μ' 20 (km_a μ 13 k).toNatClampNeg (km_a μ' 20 (km_a μ 13 k).toNatClampNeg + km_a μ' 19 k)) hn e13 e17 e21 e24 e26 ?_ e11 e18 hu))
    · show -1 ≤ (km_a μ' 13 r).toInt ∧ (km_a μ' 13 r).toInt < (r : Int)
      rw [e13]
      exact hn r (by omega)
    · show (upd (km_a μ' 20) (km_a μ 13 k).toNatClampNeg (km_a μ' 20 (km_a μ 13 k).toNatClampNeg + km_a μ' 19 k), km_a μ' 19, km_a μ' 25, km_l μ' 12) = _
      rw [o19, e19, e20, e25, e12]
      unfold w_step
      rw [if_neg c, if_neg c]
  · unfold vX12_waterGoes_215
    intro v e
    subst e2
    refine ih v _ (ev v e) (fun r hr => ?_) (fun u hu => kk u (wl_step (μ' := km_sl μ' 12 (km_l μ' 12 + (km_a μ' 19 k).toInt64)) hn e13 e17 e21 e24 e26 ?_ e11 e18 hu))
    · show -1 ≤ (km_a μ' 13 r).toInt ∧ (km_a μ' 13 r).toInt < (r : Int)
      rw [e13]
      exact hn r (by omega)
    · show (km_a μ' 20, km_a μ' 19, km_a μ' 25, km_l μ' 12 + (km_a μ' 19 k).toInt64) = _
      rw [o19, e19, e20, e25, e12]
      unfold w_step
      rw [if_pos c, if_pos c]
theorem vm_w35 {Q : km_S → Prop} : ∀ (j : Nat) (l1 : Int32) (μ : km_S) (k : Nat), l1.toInt = (k : Int) - 1 → (∀ r, r < k → -1 ≤ (km_a μ 13 r).toInt ∧ (km_a μ 13 r).toInt < (r : Int)) → (∀ u, wl_ k μ u → Q u) → vX12_waterGoes_35 Q j l1 μ := by
  intro j
  induction j with
  | zero => intro _ _ _ _ _ _; exact trivial
  | succ j ih =>
    intro l1 μ k hl hn kk
    unfold vX12_waterGoes_35
    have z : (0 : Int32).toInt = 0 := by decide
    refine ⟨fun c => ?_, fun c => ?_⟩
    · have k0 : k = 0 := by rw [ki_lt, z] at c; omega
      subst k0
      exact kk μ (wl_zero μ)
    rw [ki_lt, z] at c
    obtain ⟨k, rfl⟩ : ∃ q, k = q + 1 := ⟨k - 1, by omega⟩
    have hl2 : l1.toInt = (k : Int) := by omega
    have ek : l1.toNatClampNeg = k := by rw [ki_nat]; omega
    rw [ek]
    rintro - μ18 rfl - - μ21 rfl - - μ24 rfl -
    have ih2 : ∀ (v : Int32) (μ2 : km_S), v.toInt = (k : Int) - 1 → (∀ r, r < k → -1 ≤ (km_a μ2 13 r).toInt ∧ (km_a μ2 13 r).toInt < (r : Int)) → (∀ u, wl_ k μ2 u → Q u) → vX12_waterGoes_35 Q j v μ2 := fun v μ2 h1 h2 h3 => ih v μ2 k h1 h2 h3
    refine ⟨fun d => ?_, fun d => ?_⟩
    · have d : km_a μ 21 k = 0 := d
      refine vm_w166 (μ := μ) ek hl2 hn rfl rfl rfl rfl rfl rfl ?_ ?_ rfl rfl rfl ih2 kk
      · show upd (km_a μ 19) k (km_a μ 20 k) = _
        unfold w_out
        rw [if_pos d]
      · rw [if_pos d]
        rfl
    · have d : ¬ km_a μ 21 k = 0 := d
      rintro - - - μ30 rfl - - v33 e33 - - μ36 rfl - - v39 e39 - - μ42 rfl - μ44 rfl
      obtain ⟨f, ef⟩ : ∃ f, f = km_a μ 25 := ⟨_, rfl⟩
      obtain ⟨i, ei⟩ : ∃ i, i = km_a μ 20 k := ⟨_, rfl⟩
      have F1 : upd f k (f k + i) k = f k + i := w_updS
      have F2 : upd (upd f k (f k + i)) k (upd f k (f k + i) k - v33) k = f k + i - v33 := by rw [w_updS, F1]
      have a33 : v33 = w_max (f k + i - km_a μ 24 k) := by
        have e : v33 = if 0 < (upd (km_a μ 25) k (km_a μ 25 k + km_a μ 20 k) k - km_a μ 24 k) then (upd (km_a μ 25) k (km_a μ 25 k + km_a μ 20 k) k - km_a μ 24 k) else 0 := e33
        rw [← ef, ← ei, F1] at e
        rw [e, w_max0]
      have a39 : v39 = w_min (km_a μ 26 k) (f k + i - v33) := by
        have e : v39 = if (upd (upd (km_a μ 25) k (km_a μ 25 k + km_a μ 20 k)) k (upd (km_a μ 25) k (km_a μ 25 k + km_a μ 20 k) k - v33)) k < km_a μ 26 k then (upd (upd (km_a μ 25) k (km_a μ 25 k + km_a μ 20 k)) k (upd (km_a μ 25) k (km_a μ 25 k + km_a μ 20 k) k - v33)) k else km_a μ 26 k := e39
        rw [← ef, ← ei, F2] at e
        exact e
      have eo : w_out (km_a μ 21 k) (km_a μ 24 k) (km_a μ 26 k) (km_a μ 20 k) (km_a μ 25 k) = v33 + v39 := by
        unfold w_out
        rw [if_neg d, ← ef, ← ei, ← a33, ← a39]
      refine vm_w166 (μ := μ) ek hl2 hn rfl rfl rfl rfl rfl rfl ?_ ?_ rfl rfl rfl ih2 kk
      · rw [eo]
        show upd (upd (km_a μ 19) k (km_a μ 20 k)) k (v39 + v33) = _
        rw [w_upd2, Int32.add_comm]
      · rw [eo, if_neg d]
        show upd (upd (upd (km_a μ 25) k (km_a μ 25 k + km_a μ 20 k)) k (upd (km_a μ 25) k (km_a μ 25 k + km_a μ 20 k) k - v33)) k ((upd (upd (km_a μ 25) k (km_a μ 25 k + km_a μ 20 k)) k (upd (km_a μ 25) k (km_a μ 25 k + km_a μ 20 k) k - v33)) k - v39) = _
        rw [← ef, ← ei, F2, w_upd2, w_upd2, Int32.sub_sub]
/-- the first loop: what melts is what comes in -/
theorem vm_w2 {Q : km_S → Prop} {k28 : km_S → Prop} : ∀ (j : Nat) (l1 : Int32) (μ : km_S) (k : Nat), l1.toInt = (k : Int) → (k : Int) ≤ (km_i μ 3).toInt → (km_i μ 3).toInt ≤ 10 → (∀ F, (∀ r : Nat, k ≤ r → (r : Int) < (km_i μ 3).toInt → F r = km_a μ 17 r) → (∀ r : Nat, r < k → F r = km_a μ 20 r) → ∀ u, km_a u 20 = F → km_i u 3 = km_i μ 3 → (∀ f, f ≠ 20 → km_a u f = km_a μ f) → km_l u = km_l μ → k28 u) → vX12_waterGoes_2 k28 Q j l1 μ := by
  intro j
  induction j with
  | zero => intro _ _ _ _ _ _ _; exact trivial
  | succ j ih =>
    intro l1 μ k hl h1 h2 kk
    unfold vX12_waterGoes_2
    refine ⟨fun c => ?_, fun c => ?_⟩
    · rw [ki_le] at c
      exact kk _ (fun r a b => by omega) (fun r a => rfl) μ rfl rfl (fun _ _ => rfl) rfl
    rw [ki_le] at c
    have ek : l1.toNatClampNeg = k := by rw [ki_nat]; omega
    rw [ek]
    rintro - - μ5 rfl v6 e6
    have o1 : (1 : Int32).toInt = 1 := by decide
    refine ih v6 _ (k + 1) ?_ (show ((k + 1 : Nat) : Int) ≤ (km_i μ 3).toInt by omega) h2 (fun F a b u c1 c2 c3 c4 => kk F (fun r r1 r2 => ?_) (fun r r1 => ?_) u c1 c2 (fun f hf => ?_) c4)
    · rw [e6, ki_add (by rw [hl, o1]; omega) (by rw [hl, o1]; omega), hl, o1]
      omega
    · by_cases d : r = k
      · rw [d, b k (by omega)]
        exact w_updS
      · exact a r (by omega) r2
    · rw [b r (by omega)]
      exact w_updN (by omega)
    · refine (c3 f hf).trans ?_
      show (if f = 20 then _ else km_a μ f) = _
      exact if_neg hf
theorem w_run_ext {nx dm rm gt : Nat → Int32} {n : Nat} : ∀ (k : Nat) (x y : wx_T), k ≤ n → (∀ r, r < k → -1 ≤ (nx r).toInt ∧ (nx r).toInt < (r : Int)) → (∀ r, r < n → x.1 r = y.1 r) → x.2 = y.2 → (∀ r, r < n → (w_run nx dm rm gt k x).1 r = (w_run nx dm rm gt k y).1 r) ∧ (w_run nx dm rm gt k x).2 = (w_run nx dm rm gt k y).2 := by
  intro k
  induction k with
  | zero => intro x y _ _ h1 h2; exact ⟨h1, h2⟩
  | succ k ih =>
    intro x y hk hn h1 h2
    have h2' : x.2.1 = y.2.1 ∧ x.2.2.1 = y.2.2.1 ∧ x.2.2.2 = y.2.2.2 := by rw [h2]; exact ⟨rfl, rfl, rfl⟩
    have hkk := hn k (by omega)
    refine ih (w_step nx dm rm gt k x) (w_step nx dm rm gt k y) (by omega) (fun r hr => hn r (by omega)) (fun r hr => ?_) ?_
    · show (if nx k = -1 then x.1 else upd x.1 (nx k).toNatClampNeg _) r = (if nx k = -1 then y.1 else upd y.1 (nx k).toNatClampNeg _) r
      rw [h1 k (by omega), h2'.2.1]
      by_cases c : nx k = -1
      · rw [if_pos c, if_pos c]
        exact h1 r hr
      · rw [if_neg c, if_neg c, h1 (nx k).toNatClampNeg (by rw [ki_nat]; omega)]
        by_cases d : r = (nx k).toNatClampNeg
        · rw [d, w_updS, w_updS]
        · rw [w_updN d, w_updN d]
          exact h1 r hr
    · show (upd x.2.1 k _, (if dm k = 0 then x.2.2.1 else upd x.2.2.1 k _), _) = (upd y.2.1 k _, (if dm k = 0 then y.2.2.1 else upd y.2.2.1 k _), _)
      rw [h1 k (by omega), h2'.1, h2'.2.1, h2'.2.2]
theorem vm_water {Q : km_S → Prop} {μ : km_S} {n : Nat} (hn : (km_i μ 3).toInt = (n : Int)) (h10 : n ≤ 10) (ok : w_ok n (wm_ μ)) (kk : ∀ u, wm_ u = w_hour n (km_a μ 21) (km_a μ 26) (km_a μ 17) (wm_ μ) → Q u) : vX12_waterGoes μ Q := by
  unfold vX12_waterGoes
  intro j
  refine vm_w2 j 0 μ 0 (by decide) (by omega) (by omega) (fun F a _ u c1 c2 c3 c4 => ?_)
  unfold vX12_waterGoes_28
  intro v45 e45 j2
  have o1 : (1 : Int32).toInt = 1 := by decide
  have u13 := c3 13 (by decide)
  have u17 := c3 17 (by decide)
  have u18 := c3 18 (by decide)
  have u19 := c3 19 (by decide)
  have u21 := c3 21 (by decide)
  have u24 := c3 24 (by decide)
  have u25 := c3 25 (by decide)
  have u26 := c3 26 (by decide)
  refine vm_w35 j2 v45 u n ?_ (fun r hr => ?_) (fun t ht => kk t ?_)
  · rw [e45, c2, ki_sub (by rw [hn, o1]; omega) (by rw [hn, o1]; omega), hn, o1]
  · rw [u13]
    exact ok.1 r hr
  · obtain ⟨b13, b24, b19, b25, b12, b11, b18⟩ := ht
    have hX : wr_X n u = w_run (km_a μ 13) (km_a μ 21) (km_a μ 24) (km_a μ 26) n (F, km_a μ 19, km_a μ 25, km_l μ 12) := by
      show w_run (km_a u 13) (km_a u 21) (km_a u 24) (km_a u 26) n (km_a u 20, km_a u 19, km_a u 25, km_l u 12) = _
      rw [c1, u13, u19, u21, u24, u25, u26, c4]
    obtain ⟨E1, E2⟩ := w_run_ext (nx := km_a μ 13) (dm := km_a μ 21) (rm := km_a μ 24) (gt := km_a μ 26) n (F, km_a μ 19, km_a μ 25, km_l μ 12) (w_from n (km_a μ 17) (wm_ μ)) (Nat.le_refl n) ok.1 (fun r hr => (a r (Nat.zero_le r) (by omega)).trans (if_pos hr).symm) rfl
    rw [← hX] at E1 E2
    have d18 : km_a t 18 = (w_run (km_a μ 13) (km_a μ 21) (km_a μ 24) (km_a μ 26) n (w_from n (km_a μ 17) (wm_ μ))).1 := by
      rw [b18]
      funext r
      show (if r < n then (wr_X n u).1 r else km_a u 18 r) = _
      by_cases c : r < n
      · rw [if_pos c]
        exact E1 r c
      · rw [if_neg c, u18]
        refine Eq.symm ((w_run_hi n (w_from n (km_a μ 17) (wm_ μ)) ok.1 r (by omega)).1.trans ?_)
        exact if_neg c
    rw [E2] at b19 b25 b12
    unfold wm_
    rw [b13, u13, b24, u24, b25, d18, b19, b11, u17, b12, c4]
    rfl
