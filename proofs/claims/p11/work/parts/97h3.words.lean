/-! words and numbers -/
def t_len (l : Nat) : Nat := ks_len.getD l 0
def t_byt (l i : Nat) : Int32 := (ks_byt.getD l []).getD i 0
def t_wd (f : Nat → Int32) (t : tk_T) (l : Nat) : Bool := decide (t.1 = 1) && (decide (t.2.2 - t.2.1 = t_len l) && (List.range (t_len l)).all (fun i => decide (f (t.2.1 + i) = t_byt l i)))
theorem t_wd_iff {f : Nat → Int32} {t : tk_T} {l : Nat} : t_wd f t l = true ↔ t.1 = 1 ∧ t.2.2 - t.2.1 = t_len l ∧ ∀ i, i < t_len l → f (t.2.1 + i) = t_byt l i := by
  unfold t_wd
  rw [Bool.and_eq_true, Bool.and_eq_true, decide_eq_true_iff, decide_eq_true_iff, List.all_eq_true]
  constructor
  · rintro ⟨a, b, c⟩
    exact ⟨a, b, fun i hi => of_decide_eq_true (c i (List.mem_range.mpr hi))⟩
  · rintro ⟨a, b, c⟩
    exact ⟨a, b, fun i hi => decide_eq_true (c i (List.mem_range.mp hi))⟩
theorem t_wd_no {f : Nat → Int32} {t : tk_T} {l : Nat} (h : ¬ (t.1 = 1 ∧ t.2.2 - t.2.1 = t_len l ∧ ∀ i, i < t_len l → f (t.2.1 + i) = t_byt l i)) : t_wd f t l = false := by
  cases e : t_wd f t l
  · rfl
  · exact absurd (t_wd_iff.1 e) h
/-- a token of the text -/
def t_ok (n : Nat) (t : tk_T) : Prop := t.2.1 ≤ t.2.2 ∧ t.2.2 ≤ n
theorem t_tok_ok {f : Nat → Int32} {n p : Nat} (h : p ≤ n) : t_ok n (t_tok f n p) ∧ p ≤ (t_tok f n p).2.1 := by
  have h1 := t_end_ge (f := f) (k := 5) h
  unfold t_tok t_at t_ok
  refine ⟨⟨?_, ?_⟩, h1.1⟩
  · show t_end f n 5 p ≤ (if _ then _ else _)
    split
    · exact (t_end_ge h1.2).1
    · exact Nat.le_min.mpr ⟨Nat.le_succ _, h1.2⟩
  · show (if _ then _ else _) ≤ n
    split
    · exact (t_end_ge h1.2).2
    · exact Nat.min_le_right _ _
theorem t_kc1 {t : tk_T} : t_kc t = 1 ↔ t.1 = 1 := by
  unfold t_kc
  split
  · next h =>
    constructor
    · intro e; exact absurd e (by decide)
    · intro e; rw [h.1] at e; exact absurd e (by decide)
  · exact Iff.rfl
theorem t_nI {k : Nat} (h : k ≤ 500) : (nI k).toInt = (k : Int) := nI_toInt (n := k) (by omega)
theorem t_len5 : ∀ l, l < 12 → t_len l ≤ 5 := by decide +kernel
theorem vy_isWord {f : Nat → Int32} {n tk : Nat} {t : tk_T} {l : Nat} {σ : kx_S} {Q : Int32 → kx_S → Prop} (h : ct_ f n tk σ) (T : cT_ t tk σ) (ok : t_ok n t) (k1 : t_wd f t l = true → Q 1 σ) (k0 : t_wd f t l = false → Q 0 σ) : vX10_isWord tk l σ Q := by
  have h5 := h.2.1
  unfold vX10_isWord
  intro _
  rw [T.2.2]
  refine ⟨fun c => k0 (t_wd_no (fun x => c (t_kc1.2 x.1))), fun c l12 => ?_⟩
  have c := t_kc1.1 c
  have l5 := t_len5 l l12
  have el : (nI (ks_len.getD l 0)).toInt = (t_len l : Int) := t_nI (k := t_len l) (by omega)
  have es : (xi σ 194 tk - xi σ 195 tk).toInt = (t.2.2 : Int) - t.2.1 := by
    have h1 := ok.1
    have h2 := ok.2
    rw [ki_sub (by rw [T.1, T.2.1]; omega) (by rw [T.1, T.2.1]; omega), T.1, T.2.1]
  refine ⟨fun d => ?_, fun d => k0 (t_wd_no (fun x => d (ki_eq.2 ?_)))⟩
  · rw [ki_eq, es, el] at d
    have loop : ∀ (j : Nat) (i : Int32) (q : Nat), i.toInt = (q : Int) → q ≤ t_len l → (∀ m, m < q → f (t.2.1 + m) = t_byt l m) → vX10_isWord_28 Q j tk l i σ := by
      intro j
      induction j with
      | zero => intro _ _ _ _ _; exact trivial
      | succ j ih =>
        intro i q hi hq hm
        unfold vX10_isWord_28
        intro _
        refine ⟨fun e => ?_, fun e _ => ?_⟩
        · rw [ki_le, el, hi] at e
          refine k1 (t_wd_iff.2 ⟨c, by omega, fun m hm2 => hm m (by omega)⟩)
        · rw [ki_le, el, hi] at e
          have h1 := ok.1
          have h2 := ok.2
          have hp : (xi σ 195 tk + i).toInt = ((t.2.1 + q : Nat) : Int) := by
            rw [ki_add (by rw [T.2.1, hi]; omega) (by rw [T.2.1, hi]; omega), T.2.1, hi]
            omega
          refine vy_byteAt h hp (fun _ _ => ?_)
          have eb : t_by f n (t.2.1 + q) = f (t.2.1 + q) := if_pos (by omega)
          have eq : i.toNatClampNeg = q := by rw [ki_nat]; omega
          rw [eb, eq]
          refine ⟨fun r => ?_, fun r => k0 (t_wd_no (fun x => r (x.2.2 q (by omega))))⟩
          intro v9 e9
          refine ih v9 (q + 1) ?_ (by omega) (fun m hm2 => ?_)
          · rw [e9, ki_add (by rw [hi, ki_z1]; omega) (by rw [hi, ki_z1]; omega), hi, ki_z1]
            omega
          · by_cases em : m = q
            · rw [em]; exact r
            · exact hm m (by omega)
    intro j
    exact loop j 0 0 (by decide) (Nat.zero_le _) (fun m hm => absurd hm (Nat.not_lt_zero m))
  · rw [es, el]
    have h1 := ok.1
    have := x.2.1
    omega
theorem vm_isWord {f : Nat → Int32} {n : Nat} {t : tk_T} {l : Nat} {μ : km_S} {Q : Int32 → km_S → Prop} (h : mt_ f n μ) (T : mT_ t μ) (ok : t_ok n t) (k1 : t_wd f t l = true → Q 1 μ) (k0 : t_wd f t l = false → Q 0 μ) : vX12_isWord l μ Q := by
  have h5 := h.2.1
  have r1 : ∀ k : Int32, t_rk k = 1 ↔ k = 1 := by
    intro k
    unfold t_rk
    constructor
    · intro e
      split at e
      · exact absurd e (by decide)
      · split at e
        · assumption
        · split at e
          · exact absurd e (by decide)
          · split at e <;> exact absurd e (by decide)
    · intro e
      rw [e]
      decide
  have zero : t_wd f t l = false → vX12_isWord_29 Q l 0 μ := by
    intro e
    unfold vX12_isWord_29
    intro j
    cases j with
    | zero => exact trivial
    | succ j =>
      unfold vX12_isWord_32
      exact ⟨fun _ _ => k0 e, fun x => absurd rfl x⟩
  unfold vX12_isWord
  rw [T.2.2.2.1]
  refine ⟨fun c => zero (t_wd_no (fun x => c ((r1 _).2 x.1))), fun c l12 => ?_⟩
  have c := (r1 _).1 c
  have l5 := t_len5 l l12
  have el : (nI (ks_len.getD l 0)).toInt = (t_len l : Int) := t_nI (k := t_len l) (by omega)
  have es : (km_i μ 65 - km_i μ 64).toInt = (t.2.2 : Int) - t.2.1 := by
    have h1 := ok.1
    have h2 := ok.2
    rw [ki_sub (by rw [T.2.2.1, T.2.1]; omega) (by rw [T.2.2.1, T.2.1]; omega), T.2.2.1, T.2.1]
  refine ⟨fun d => zero (t_wd_no (fun x => d (ki_eq.2 ?_))), fun d => ?_⟩
  · rw [es, el]
    have h1 := ok.1
    have := x.2.1
    omega
  · rw [ki_eq, es, el] at d
    have loop : ∀ (j : Nat) (i : Int32) (q : Nat), i.toInt = (q : Int) → q ≤ t_len l → (∀ m, m < q → f (t.2.1 + m) = t_byt l m) → vX12_isWord_32 Q j l 1 i μ := by
      intro j
      induction j with
      | zero => intro _ _ _ _ _; exact trivial
      | succ j ih =>
        intro i q hi hq hm
        unfold vX12_isWord_32
        refine ⟨fun x => absurd x (by decide), fun _ _ => ⟨fun e _ => ?_, fun e _ _ _ => ?_⟩⟩
        · rw [ki_le, el, hi] at e
          refine k1 (t_wd_iff.2 ⟨c, by omega, fun m hm2 => hm m (by omega)⟩)
        · rw [ki_le, el, hi] at e
          have h1 := ok.1
          have h2 := ok.2
          have hp : (km_i μ 64 + i).toNatClampNeg = t.2.1 + q := by
            rw [ki_nat, ki_add (by rw [T.2.1, hi]; omega) (by rw [T.2.1, hi]; omega), T.2.1, hi]
            omega
          have eq : i.toNatClampNeg = q := by rw [ki_nat]; omega
          rw [hp, eq, h.2.2 (t.2.1 + q) (by omega)]
          refine ⟨fun r => ?_, fun r => ?_⟩
          · unfold vX12_isWord_68
            intro v1 _
            cases j with
            | zero => exact trivial
            | succ j =>
              unfold vX12_isWord_32
              exact ⟨fun _ _ => k0 (t_wd_no (fun x => r (x.2.2 q (by omega)).symm)), fun x => absurd rfl x⟩
          · unfold vX12_isWord_68
            intro v1 e1
            refine ih v1 (q + 1) ?_ (by omega) (fun m hm2 => ?_)
            · rw [e1, ki_add (by rw [hi, ki_z1]; omega) (by rw [hi, ki_z1]; omega), hi, ki_z1]
              omega
            · by_cases em : m = q
              · rw [em]; exact r.symm
              · exact hm m (by omega)
    unfold vX12_isWord_29
    intro j
    exact loop j 0 0 (by decide) (Nat.zero_le _) (fun m hm => absurd hm (Nat.not_lt_zero m))
/-- a sign is told by its kind -/
theorem vm_isSign {t : tk_T} {b : Int32} {μ : km_S} {Q : Int32 → km_S → Prop} (T : mT_ t μ) (hb : t_rk b = 3) (k1 : t.1 = b → Q 1 μ) (k0 : ¬ t.1 = b → Q 0 μ) : vX12_isSign b μ Q := by
  unfold vX12_isSign
  rw [T.2.2.2.1]
  refine ⟨fun c => k0 (fun e => c (by rw [e]; exact hb)), fun c => ?_⟩
  rw [T.2.2.2.2 c]
  exact ⟨k0, k1⟩
/-- a number's value -/
def t_num (f : Nat → Int32) : Nat → Nat → Int32 → Int32
  | 0, _, v => v
  | m + 1, s, v => t_num f m (s + 1) (v * 10 + f s - 48)
theorem vy_number {f : Nat → Int32} {n tk : Nat} {t : tk_T} {σ : kx_S} {Q : Int32 → kx_S → Prop} (h : ct_ f n tk σ) (T : cT_ t tk σ) (ok : t_ok n t) (kk : Q (t_num f (t.2.2 - t.2.1) t.2.1 0) σ) : vX10_numberValue tk σ Q := by
  have h5 := h.2.1
  have h1 := ok.1
  have h2 := ok.2
  have loop : ∀ (j : Nat) (i v : Int32) (p : Nat), i.toInt = (p : Int) → p ≤ t.2.2 → Q (t_num f (t.2.2 - p) p v) σ → vX10_numberValue_7 Q j tk v i σ := by
    intro j
    induction j with
    | zero => intro _ _ _ _ _ _; exact trivial
    | succ j ih =>
      intro i v p hi hp k
      unfold vX10_numberValue_7
      intro _
      refine ⟨fun c => ?_, fun c => ?_⟩
      · rw [ki_le, T.1, hi] at c
        rw [show t.2.2 - p = 0 by omega] at k
        exact k
      · rw [ki_le, T.1, hi] at c
        refine vy_byteAt h hi ?_
        intro v5 e5 v6 e6
        have eb : t_by f n p = f p := if_pos (by omega)
        refine ih v6 v5 (p + 1) ?_ (by omega) ?_
        · rw [e6, ki_add (by rw [hi, ki_z1]; omega) (by rw [hi, ki_z1]; omega), hi, ki_z1]
          omega
        · rw [e5, eb]
          rw [show t.2.2 - p = (t.2.2 - (p + 1)) + 1 by omega] at k
          exact k
  unfold vX10_numberValue
  rintro _ v8 rfl j
  exact loop j _ 0 t.2.1 T.2.1 h1 kk
