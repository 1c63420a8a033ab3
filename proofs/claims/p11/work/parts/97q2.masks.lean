/-! the reference: what is asked -/
section
variable {nr nl no nc : Nat} {a : ra_T} {w : wt_T} {μ : km_S}
abbrev mc0_ (μ : km_S) : km_S := km_si μ 1 0
abbrev mc1_ (μ : km_S) : km_S := km_si (km_si μ 1 0) 1 1
theorem rA_mc0 (h : rA_ a μ) : rA_ a (mc0_ μ) := h
theorem vr_isReach {r : Int32} {Q : Int32 → km_S → Prop} (hn : (km_i μ 3).toInt = (nr : Int)) (k0 : ¬ in_ r nr → Q 0 μ) (k1 : ∀ q : Nat, r.toInt = (q : Int) → q < nr → Q 1 μ) : vX12_isReach r μ Q := by
  refine vm_isReach (fun h => k0 (fun z => h ⟨z.1, by rw [hn]; exact z.2⟩)) (fun h1 h2 => ?_)
  rw [hn] at h2
  exact k1 r.toInt.toNat (by omega) (by omega)
theorem vr_isLog {r : Int32} {Q : Int32 → km_S → Prop} (hn : (km_i μ 4).toInt = (nl : Int)) (k0 : ¬ in_ r nl → Q 0 μ) (k1 : ∀ q : Nat, r.toInt = (q : Int) → q < nl → Q 1 μ) : vX12_isLog r μ Q := by
  unfold vX12_isLog
  rw [ki_lt, ki_z0, ki_le, hn]
  refine ⟨fun c => k0 (fun z => by have := z.1; omega), fun c => ⟨fun d => k0 (fun z => by have := z.2; omega), fun d => k1 r.toInt.toNat (by omega) (by omega)⟩⟩
theorem vr_isCell {r c : Int32} {Q : Int32 → km_S → Prop} (A : ao_ nr nl a) (hn : (km_i μ 3).toInt = (nr : Int)) (h : rA_ a μ) (k0 : ¬ (in_ r nr ∧ in_ c (ln_ a r.toNatClampNeg)) → Q 0 μ) (k1 : ∀ q p : Nat, r.toInt = (q : Int) → c.toInt = (p : Int) → q < nr → p < ln_ a q → Q 1 μ) : vX12_isCell r c μ Q := by
  unfold vX12_isCell
  refine vr_isReach hn (fun z => ⟨fun _ => k0 (fun x => z x.1), fun x => absurd rfl x⟩) (fun q hq hlt => ⟨fun x => absurd x (by decide), fun _ => ?_⟩)
  have e14 : (a.1 14 q).toInt = (ln_ a q : Int) := by
    have := (A.1 q hlt).2.1
    unfold ln_ at this ⊢
    rw [ki_nat] at this ⊢
    omega
  rw [ki_toN hq, h.1 14 (by decide), ki_lt, ki_z0, ki_le, e14]
  refine ⟨fun d => k0 (fun x => by have := x.2.1; omega), fun d _ => ⟨fun e => k0 (fun x => ?_), fun e => ?_⟩⟩
  · have := x.2.2
    rw [ki_toN hq] at this
    omega
  · exact k1 q c.toInt.toNat hq (by omega) hlt (by omega)
theorem vr_wants {l : Int32} {Q : Int32 → km_S → Prop} (hn : (km_i μ 8).toInt = (no : Int)) (h : rA_ a μ) (k1 : ∀ v, an_wants no a l = some v → Q v (mc0_ μ)) (k0 : an_wants no a l = none → Q 0 (mc1_ μ)) : vX12_wants l μ Q := by
  unfold vX12_wants
  rintro μ3 rfl
  have hn' : (km_i (km_si μ 1 0) 8).toInt = (no : Int) := hn
  have h' : rA_ a (km_si μ 1 0) := h
  rw [ki_lt, ki_z0, ki_lt, hn', h'.1 50 (by decide)]
  refine ⟨fun c => ?_, fun c => ⟨fun d _ => k1 _ (if_pos ⟨by omega, d⟩), fun d => ?_⟩⟩
  · rintro _ rfl
    exact k0 (if_neg (fun z => by have := z.1; omega))
  · rintro _ rfl
    exact k0 (if_neg (fun z => d z.2))
theorem vr_log {l i : Int32} {Q : Int32 → km_S → Prop} (hn : (km_i μ 4).toInt = (nl : Int)) (h : rA_ a μ) (k1 : ∀ v, an_log nl a l i = some v → Q v (mc0_ μ)) (k0 : an_log nl a l i = none → Q 0 (mc1_ μ)) : vX12_log l i μ Q := by
  unfold vX12_log
  rintro μ1 rfl
  have hn' : (km_i (km_si μ 1 0) 4).toInt = (nl : Int) := hn
  have h' : rA_ a (km_si μ 1 0) := h
  refine vr_isLog hn' (fun z => ⟨fun x => absurd rfl x, fun _ => ?_⟩) (fun q hq hlt => ⟨fun _ => ?_, fun x => absurd x (by decide)⟩)
  · rintro _ rfl
    exact k0 (if_neg z)
  · have z : ∀ {f : Nat}, fl_ i = some f → an_log nl a l i = some (a.1 f q) := fun {f} e => by
      unfold an_log
      rw [if_pos (in_of hq hlt), e, ki_toN hq]
      rfl
    rintro v4 rfl
    rw [ki_toN hq, h'.1 35 (by decide), h'.1 36 (by decide), h'.1 37 (by decide), h'.1 38 (by decide), h'.1 39 (by decide), h'.1 40 (by decide), h'.1 41 (by decide), h'.1 42 (by decide)]
    refine ⟨fun c _ => k1 _ (z (by rw [c]; decide)), fun c _ => k1 _ (z (by rw [c]; decide)), fun c _ => k1 _ (z (by rw [c]; decide)), fun c _ => k1 _ (z (by rw [c]; decide)), fun c _ => k1 _ (z (by rw [c]; decide)), fun c _ => k1 _ (z (by rw [c]; decide)), fun c _ => k1 _ (z (by rw [c]; decide)), fun c _ => k1 _ (z (by rw [c]; decide)), fun h0 h1 h2 h3 h4 h5 h6 h7 => ?_⟩
    rintro _ rfl
    refine k0 ?_
    unfold an_log
    rw [if_pos (in_of hq hlt), fl_no h0 h1 h2 h3 h4 h5 h6 h7]
    rfl
theorem at_km {L : List Nat} {F : Nat → Int32} {b : Nat} {cnt i : Int32} (h : la_ F b cnt L) (hx : ∀ x ∈ L, x ≤ 400) {q : Nat} (hq : i.toInt = (q : Int)) : (i < cnt → F (b + q) = at_ L i) ∧ (¬ i < cnt → at_ L i = -1) := by
  obtain ⟨h1, h2⟩ := h
  rw [ki_lt, h1, hq]
  unfold at_
  rw [if_pos (by omega), ki_toN hq]
  constructor
  · intro c
    have hl : q < L.length := by omega
    rw [List.getElem?_eq_getElem hl]
    exact nI_w (h2 q _ (List.getElem?_eq_getElem hl)) (Nat.le_trans (hx _ (List.getElem_mem hl)) (by decide))
  · intro c
    rw [List.getElem?_eq_none_iff.2 (by omega)]
theorem at_neg {L : List Nat} {i : Int32} (h : i.toInt < 0) : at_ L i = -1 := if_neg (by omega)
theorem vr_cell {r c i : Int32} {Q : Int32 → km_S → Prop} (h10 : nr ≤ 10) (A : ao_ nr nl a) (hn : (km_i μ 3).toInt = (nr : Int)) (h : rA_ a μ) (k1 : ∀ v, an_cell nr a r c i = some v → Q v (mc0_ μ)) (k0 : an_cell nr a r c i = none → Q 0 (mc1_ μ)) : vX12_cell r c i μ Q := by
  unfold vX12_cell
  rintro μ1 rfl
  have z12 : (12 : Int32).toInt = ((12 : Nat) : Int) := by decide
  have z2 : (2 : Int32).toInt = 2 := by decide
  have hn' : (km_i (km_si μ 1 0) 3).toInt = (nr : Int) := hn
  have h' : rA_ a (km_si μ 1 0) := h
  refine vr_isCell A hn' h' (fun z => ⟨fun _ => ?_, fun x => absurd rfl x⟩) (fun q p hq hp hlt hpl => ⟨fun x => absurd x (by decide), fun _ => ?_⟩)
  · rintro _ rfl
    exact k0 (if_neg z)
  · have hin : in_ r nr ∧ in_ c (ln_ a r.toNatClampNeg) := ⟨in_of hq hlt, by rw [ki_toN hq]; exact in_of hp hpl⟩
    have p12 := (A.1 q hlt).1
    have ea : an_cell nr a r c i = if i = 0 then some (nI (a.2 (12 * q + p)).length) else if i = 1 then some (b01_ (a.1 33 (12 * q + p))) else if i = 2 then some (b01_ (a.1 34 (12 * q + p))) else none := by
      unfold an_cell
      rw [if_pos hin, ki_toN hq, ki_toN hp]
    have no_ : ¬ i = 0 → ¬ i = 1 → ¬ i = 2 → vX12_cell_23 Q (km_si μ 1 0) := by
      intro n0 n1 n2
      rintro _ rfl
      exact k0 (by rw [ea, if_neg n0, if_neg n1, if_neg n2])
    refine ⟨fun d => no_ ?_ ?_ ?_, fun d => ⟨fun e => ?_, fun e => no_ ?_ ?_ ?_⟩⟩
    · intro x; rw [x] at d; exact absurd d (by decide)
    · intro x; rw [x] at d; exact absurd d (by decide)
    · intro x; rw [x] at d; exact absurd d (by decide)
    · unfold vX12_at0
      dsimp only
      obtain ⟨k, ek, hk⟩ : ∃ k, k = 12 * r + c ∧ k.toInt = ((12 * q + p : Nat) : Int) := ⟨_, rfl, ki_addN (ki_mulN z12 hq (by omega)) hp (by omega)⟩
      rw [← ek, ki_toN hk, h'.1 34 (by decide), h'.1 33 (by decide)]
      refine ⟨fun n0 => ⟨fun n1 _ => ?_, fun n1 _ => ?_⟩, fun n0 _ => k1 _ ?_⟩
      · have e2 : i = 2 := ki_eq.2 (by
          rw [ki_lt, ki_z0] at d
          rw [ki_le, z2] at e
          rw [ki_eq, ki_z0] at n0
          rw [ki_eq, ki_z1] at n1
          omega)
        refine ⟨fun z => k1 _ ?_, fun z => k1 _ ?_⟩
        · rw [ea, if_neg n0, if_neg n1, if_pos e2]
          unfold b01_
          rw [if_pos z]
        · rw [ea, if_neg n0, if_neg n1, if_pos e2]
          unfold b01_
          rw [if_neg z]
      · refine ⟨fun z => k1 _ ?_, fun z => k1 _ ?_⟩
        · rw [ea, if_neg n0, if_pos n1]
          unfold b01_
          rw [if_pos z]
        · rw [ea, if_neg n0, if_pos n1]
          unfold b01_
          rw [if_neg z]
      · have n20 : (a.2 (12 * q + p)).length ≤ 20 := by
          have := (A.2.2.2.1 q p hlt hpl).1
          have := (A.1 q hlt).2.2.1.2
          omega
        rw [ea, if_pos n0, nI_w (h'.2.1 (12 * q + p) (by omega)).1 (by omega)]
    · intro x; rw [x] at e; exact absurd (by decide) e
    · intro x; rw [x] at e; exact absurd (by decide) e
    · intro x; rw [x] at e; exact absurd (by decide) e
theorem vr_inCell {r c i : Int32} {Q : Int32 → km_S → Prop} (h10 : nr ≤ 10) (l4 : nl ≤ 400) (A : ao_ nr nl a) (hn : (km_i μ 3).toInt = (nr : Int)) (h : rA_ a μ) (k1 : ∀ v, an_inCell nr a r c i = some v → Q v (mc0_ μ)) (k0 : an_inCell nr a r c i = none → Q 0 (mc1_ μ)) : vX12_inCell r c i μ Q := by
  unfold vX12_inCell
  rintro μ1 rfl
  have z12 : (12 : Int32).toInt = ((12 : Nat) : Int) := by decide
  have z20 : (20 : Int32).toInt = ((20 : Nat) : Int) := by decide
  have hn' : (km_i (km_si μ 1 0) 3).toInt = (nr : Int) := hn
  have h' : rA_ a (km_si μ 1 0) := h
  refine vr_isCell A hn' h' (fun z => ⟨fun x => absurd rfl x, fun _ => ?_⟩) (fun q p hq hp hlt hpl => ⟨fun _ => ?_, fun x => absurd x (by decide)⟩)
  · rintro _ rfl
    exact k0 (if_neg z)
  · have hin : in_ r nr ∧ in_ c (ln_ a r.toNatClampNeg) := ⟨in_of hq hlt, by rw [ki_toN hq]; exact in_of hp hpl⟩
    have p12 := (A.1 q hlt).1
    have ea : an_inCell nr a r c i = some (at_ (a.2 (12 * q + p)) i) := by
      unfold an_inCell
      rw [if_pos hin, ki_toN hq, ki_toN hp]
    obtain ⟨k, ek, hk⟩ : ∃ k, k = 12 * r + c ∧ k.toInt = ((12 * q + p : Nat) : Int) := ⟨_, rfl, ki_addN (ki_mulN z12 hq (by omega)) hp (by omega)⟩
    unfold vX12_at0
    dsimp only
    rw [← ek, ki_toN hk]
    refine ⟨fun d => k1 _ ?_, fun d _ => ?_⟩
    · rw [ki_lt, ki_z0] at d
      rw [ea, at_neg d]
    · rw [ki_lt, ki_z0] at d
      obtain ⟨j, hj⟩ : ∃ j : Nat, i.toInt = (j : Int) := ⟨i.toInt.toNat, by omega⟩
      have la := h'.2.1 (12 * q + p) (by omega)
      obtain ⟨z1, z2⟩ := at_km la (fun x hx => by have := (A.2.1 _ x hx).1; omega) hj
      refine ⟨fun e _ => k1 _ ?_, fun e => k1 _ ?_⟩
      · have n20 : (a.2 (12 * q + p)).length ≤ 20 := by
          have := (A.2.2.2.1 q p hlt hpl).1
          have := (A.1 q hlt).2.2.1.2
          omega
        have e' := e
        rw [ki_lt, la.1, hj] at e'
        rw [ki_toN (ki_addN (ki_mulN z20 hk (by omega)) hj (by omega)), ea, z1 e]
      · rw [ea, z2 e]
theorem vr_heap {r i : Int32} {Q : Int32 → km_S → Prop} (h10 : nr ≤ 10) (l4 : nl ≤ 400) (A : ao_ nr nl a) (hn : (km_i μ 3).toInt = (nr : Int)) (h : rA_ a μ) (k1 : ∀ v, an_heap nr a r i = some v → Q v (mc0_ μ)) (k0 : an_heap nr a r i = none → Q 0 (mc1_ μ)) : vX12_heap r i μ Q := by
  unfold vX12_heap
  rintro μ1 rfl
  have z100 : (100 : Int32).toInt = ((100 : Nat) : Int) := by decide
  have hn' : (km_i (km_si μ 1 0) 3).toInt = (nr : Int) := hn
  have h' : rA_ a (km_si μ 1 0) := h
  refine vr_isReach hn' (fun z => ⟨fun x => absurd rfl x, fun _ => ?_⟩) (fun q hq hlt => ⟨fun _ _ => ?_, fun x => absurd x (by decide)⟩)
  · rintro _ rfl
    exact k0 (if_neg z)
  · have ea : an_heap nr a r i = if a.1 22 q = 0 then some (-1) else if i = -1 then some (nI (a.2 (120 + q)).length) else some (at_ (a.2 (120 + q)) i) := by
      unfold an_heap
      rw [if_pos (in_of hq hlt), ki_toN hq]
    have la := h'.2.2.1 q (by omega)
    have n100 : (a.2 (120 + q)).length ≤ 100 := by have := (A.2.2.2.2.1 q hlt).1; omega
    rw [ki_toN hq, h'.1 22 (by decide)]
    refine ⟨fun z0 => ⟨fun c => ⟨fun d => k1 _ ?_, fun d _ => ?_⟩, fun c _ => k1 _ ?_⟩, fun z0 => k1 _ ?_⟩
    · rw [ki_lt, ki_z0] at d
      rw [ea, if_neg z0, if_neg c, at_neg d]
    · rw [ki_lt, ki_z0] at d
      obtain ⟨j, hj⟩ : ∃ j : Nat, i.toInt = (j : Int) := ⟨i.toInt.toNat, by omega⟩
      obtain ⟨z1, z2⟩ := at_km la (fun x hx => by have := (A.2.1 _ x hx).1; omega) hj
      refine ⟨fun e _ => k1 _ ?_, fun e => k1 _ ?_⟩
      · have e' := e
        rw [ki_lt, la.1, hj] at e'
        rw [ki_toN (ki_addN (ki_mulN z100 hq (by omega)) hj (by omega)), ea, if_neg z0, if_neg c, z1 e]
      · rw [ea, if_neg z0, if_neg c, z2 e]
    · rw [ea, if_neg z0, if_pos c, nI_w la.1 (by omega)]
    · rw [ea, if_pos z0]
theorem vr_water {r i : Int32} {Q : Int32 → km_S → Prop} (A : ao_ nr nl a) (hn : (km_i μ 3).toInt = (nr : Int)) (h : rA_ a μ) (hw : wm_ μ = w) (k1 : ∀ v, an_water nr a w r i = some v → Q v (mc0_ μ)) (k0 : an_water nr a w r i = none → Q 0 (mc1_ μ)) : vX12_water r i μ Q := by
  unfold vX12_water
  rintro μ1 rfl
  have hn' : (km_i (km_si μ 1 0) 3).toInt = (nr : Int) := hn
  have h' : rA_ a (km_si μ 1 0) := h
  have hw' : wm_ (km_si μ 1 0) = w := hw
  have w13 : km_a (km_si μ 1 0) 13 = w.1 := congrArg (fun w : wt_T => w.1) hw'
  have w25 : km_a (km_si μ 1 0) 25 = w.2.2.1 := congrArg (fun w : wt_T => w.2.2.1) hw'
  have w18 : km_a (km_si μ 1 0) 18 = w.2.2.2.1 := congrArg (fun w : wt_T => w.2.2.2.1) hw'
  have w19 : km_a (km_si μ 1 0) 19 = w.2.2.2.2.1 := congrArg (fun w : wt_T => w.2.2.2.2.1) hw'
  refine vr_isReach hn' (fun z => ⟨fun x => absurd rfl x, fun _ => ?_⟩) (fun q hq hlt => ⟨fun _ => ?_, fun x => absurd x (by decide)⟩)
  · rintro _ rfl
    exact k0 (if_neg z)
  · have ea : an_water nr a w r i = if i = 0 then some (w.2.2.2.1 q) else if i = 1 then some (w.2.2.2.2.1 q) else if i = 2 then some (if a.1 21 q = 0 then -1 else w.2.2.1 q) else if i = 3 then some (w.1 q) else if i = 4 then some (nI (ln_ a q)) else none := by
      unfold an_water
      rw [if_pos (in_of hq hlt), ki_toN hq]
    have e14 : (a.1 14 q).toInt = (ln_ a q : Int) := by
      have := (A.1 q hlt).2.1
      unfold ln_ at this ⊢
      rw [ki_nat] at this ⊢
      omega
    have l12 := (A.1 q hlt).1
    rintro v4 rfl
    rw [ki_toN hq, w18, w19, h'.1 21 (by decide), w25, w13, h'.1 14 (by decide)]
    refine ⟨fun c _ => k1 _ ?_, fun c _ => k1 _ ?_, fun c _ => ⟨fun z => k1 _ ?_, fun z _ => k1 _ ?_⟩, fun c _ => k1 _ ?_, fun c _ => k1 _ ?_, fun n0 n1 n2 n3 n4 => ?_⟩
    · rw [ea, if_pos c]
    · rw [ea, c, if_neg (by decide), if_pos rfl]
    · rw [ea, c, if_neg (by decide), if_neg (by decide), if_pos rfl, if_pos z]
    · rw [ea, c, if_neg (by decide), if_neg (by decide), if_pos rfl, if_neg z]
    · rw [ea, c, if_neg (by decide), if_neg (by decide), if_neg (by decide), if_pos rfl]
    · rw [ea, c, if_neg (by decide), if_neg (by decide), if_neg (by decide), if_neg (by decide), if_pos rfl, nI_w e14 (by omega)]
    · rintro _ rfl
      exact k0 (by rw [ea, if_neg n0, if_neg n1, if_neg n2, if_neg n3, if_neg n4])
end
