/-! the reader's tokens -/
theorem rz_byteAt {a : Int32} {μ : km_S} {Q : Int32 → km_S → Prop} (h0 : 0 ≤ a.toInt) (h1 : (km_i μ 61).toInt ≤ 500) (ke : (km_i μ 61).toInt ≤ a.toInt → Q (-1) μ) (kk : a.toInt < (km_i μ 61).toInt → ∀ v, Q v μ) : wX12_byteAt a μ Q := by
  refine ⟨fun c => ke (ki_le.1 c), fun c => ?_⟩
  rw [ki_le] at c
  exact ⟨by rw [ki_in]; omega, kk (by omega) _⟩
theorem rz_isLetter {a : Int32} {μ : km_S} {Q : Int32 → km_S → Prop} (k0 : ¬ (97 ≤ a.toInt ∧ a.toInt ≤ 122) → Q 0 μ) (k1 : 97 ≤ a.toInt → a.toInt ≤ 122 → Q 1 μ) : wX12_isLetter a μ Q := by
  have z1 : (97 : Int32).toInt = 97 := by decide
  have z2 : (122 : Int32).toInt = 122 := by decide
  refine ⟨fun c => k0 ?_, fun c => ⟨fun d => k0 ?_, fun d => k1 ?_ ?_⟩⟩
  all_goals (simp only [ki_lt, z1, z2] at *; omega)
theorem rz_isDigit {a : Int32} {μ : km_S} {Q : Int32 → km_S → Prop} (k0 : ¬ (48 ≤ a.toInt ∧ a.toInt ≤ 57) → Q 0 μ) (k1 : 48 ≤ a.toInt → a.toInt ≤ 57 → Q 1 μ) : wX12_isDigit a μ Q := by
  have z1 : (48 : Int32).toInt = 48 := by decide
  have z2 : (57 : Int32).toInt = 57 := by decide
  refine ⟨fun c => k0 ?_, fun c => ⟨fun d => k0 ?_, fun d => k1 ?_ ?_⟩⟩
  all_goals (simp only [ki_lt, z1, z2] at *; omega)
/-- the byte at a place, and whether it is there -/
theorem rz_byteAt2 {a : Int32} {μ : km_S} {Q : Int32 → km_S → Prop} (h0 : 0 ≤ a.toInt) (h1 : (km_i μ 61).toInt ≤ 500) (kk : Q (if km_i μ 61 ≤ a then -1 else km_a μ 52 a.toNatClampNeg) μ) : wX12_byteAt a μ Q := by
  refine ⟨fun c => ?_, fun c => ?_⟩
  · rw [if_pos c] at kk; exact kk
  · rw [if_neg c] at kk
    rw [ki_le] at c
    exact ⟨by rw [ki_in]; omega, kk⟩
theorem ki_here {a b v : Int32} {w : Int32} (h : (if b ≤ a then -1 else v) = w) (hw : w ≠ -1) : a.toInt < b.toInt := by
  by_cases c : b ≤ a
  · rw [if_pos c] at h; exact absurd h.symm hw
  · rw [ki_le] at c; omega
/-- what a step leaves: the token looked at -/
def is_ (M M' : km_S) : Prop := ke_ [60, 62, 63, 64, 65] [] M M' ∧ (km_i M 60).toInt ≤ (km_i M' 64).toInt ∧ (km_i M' 64).toInt ≤ (km_i M' 65).toInt ∧ km_i M' 60 = km_i M' 65 ∧ (km_i M' 65).toInt ≤ (km_i M 61).toInt ∧ (km_i M' 62 ≠ 0 → (km_i M' 64).toInt < (km_i M' 65).toInt)
theorem rz_step {M : km_S} {Q : km_S → Prop} (h0 : 0 ≤ (km_i M 60).toInt) (h1 : (km_i M 60).toInt ≤ (km_i M 61).toInt) (h2 : (km_i M 61).toInt ≤ 500) (kk : ∀ M', is_ M M' → Q M') : wX12_step M Q := by
  have E246 : ∀ M2, ke_ [60, 62, 63, 64, 65] [] M M2 → (km_i M 60).toInt ≤ (km_i M2 64).toInt → (km_i M2 64).toInt ≤ (km_i M2 60).toInt → (km_i M2 60).toInt ≤ (km_i M 61).toInt → (km_i M2 62 ≠ 0 → (km_i M2 64).toInt < (km_i M2 60).toInt) → wX12_step_246 Q M2 := by
    intro M2 K a b c d M3 e3
    rw [e3]
    exact kk _ ⟨ke_si (by decide) K, a, b, rfl, c, d⟩
  have L123 : ∀ (n : Nat) (M2 : km_S), ke_ [60, 62, 63, 64, 65] [] M M2 → (km_i M 60).toInt ≤ (km_i M2 64).toInt → (km_i M2 64).toInt ≤ (km_i M2 60).toInt → (km_i M2 60).toInt ≤ (km_i M 61).toInt → (km_i M 61).toInt - (km_i M2 60).toInt < (n : Int) →
      ((km_i M2 64).toInt = (km_i M2 60).toInt → ∃ v : Int32, (if km_i M2 61 ≤ km_i M2 60 then -1 else km_a M2 52 (km_i M2 60).toNatClampNeg) = v ∧ 48 ≤ v.toInt ∧ v.toInt ≤ 57) → wX12_step_123 (wX12_step_150 (wX12_step_246 Q) Q) Q n M2 := by
    intro n
    induction n with
    | zero => intro M2 K a b c d; omega
    | succ n ih =>
      intro M2 K a b c d f
      have e61 : km_i M2 61 = km_i M 61 := K.1 61 (by decide)
      refine rz_byteAt2 (by omega) (by rw [e61]; omega) ?_
      obtain ⟨w, ew⟩ : ∃ w, (if km_i M2 61 ≤ km_i M2 60 then -1 else km_a M2 52 (km_i M2 60).toNatClampNeg) = w := ⟨_, rfl⟩
      rw [ew]
      refine rz_isDigit (fun g => ⟨fun _ M3 e3 => ?_, fun x => absurd rfl x⟩) (fun g1 g2 => ⟨fun x => absurd x (by decide), fun _ M3 e3 => ?_⟩)
      · rw [e3]
        refine E246 _ (ke_si (by decide) K) a b c (fun _ => ?_)
        show (km_i M2 64).toInt < (km_i M2 60).toInt
        rcases Int.lt_or_eq_of_le b with q | q
        · exact q
        · obtain ⟨v, ev, v1, v2⟩ := f q
          rw [ew] at ev
          rw [ev] at g
          exact absurd ⟨v1, v2⟩ g
      · have hh := ki_here ew (fun x => by rw [x, ki_zm] at g1; omega)
        rw [e61] at hh
        have ii := ki_inc (a := km_i M2 60) (by omega) (by omega)
        rw [e3]
        exact ih _ (ke_si (by decide) K) a (by show _ ≤ (km_i M2 60 + 1).toInt; rw [ii]; show (km_i M2 64).toInt ≤ _; omega) (by show (km_i M2 60 + 1).toInt ≤ _; omega) (by show _ - (km_i M2 60 + 1).toInt < _; omega) (fun x => by
          have : (km_i M2 64).toInt = (km_i M2 60 + 1).toInt := x
          omega)
  have L81 : ∀ (n : Nat) (M2 : km_S), ke_ [60, 62, 63, 64, 65] [] M M2 → (km_i M 60).toInt ≤ (km_i M2 64).toInt → (km_i M2 64).toInt ≤ (km_i M2 60).toInt → (km_i M2 60).toInt ≤ (km_i M 61).toInt → (km_i M 61).toInt - (km_i M2 60).toInt < (n : Int) →
      ((km_i M2 64).toInt = (km_i M2 60).toInt → ∃ v : Int32, (if km_i M2 61 ≤ km_i M2 60 then -1 else km_a M2 52 (km_i M2 60).toNatClampNeg) = v ∧ 97 ≤ v.toInt ∧ v.toInt ≤ 122) → wX12_step_81 (wX12_step_108 (wX12_step_246 Q) Q) Q n M2 := by
    intro n
    induction n with
    | zero => intro M2 K a b c d; omega
    | succ n ih =>
      intro M2 K a b c d f
      have e61 : km_i M2 61 = km_i M 61 := K.1 61 (by decide)
      refine rz_byteAt2 (by omega) (by rw [e61]; omega) ?_
      obtain ⟨w, ew⟩ : ∃ w, (if km_i M2 61 ≤ km_i M2 60 then -1 else km_a M2 52 (km_i M2 60).toNatClampNeg) = w := ⟨_, rfl⟩
      rw [ew]
      refine rz_isLetter (fun g => ⟨fun _ M3 e3 => ?_, fun x => absurd rfl x⟩) (fun g1 g2 => ⟨fun x => absurd x (by decide), fun _ M3 e3 => ?_⟩)
      · rw [e3]
        refine E246 _ (ke_si (by decide) K) a b c (fun _ => ?_)
        show (km_i M2 64).toInt < (km_i M2 60).toInt
        rcases Int.lt_or_eq_of_le b with q | q
        · exact q
        · obtain ⟨v, ev, v1, v2⟩ := f q
          rw [ew] at ev
          rw [ev] at g
          exact absurd ⟨v1, v2⟩ g
      · have hh := ki_here ew (fun x => by rw [x, ki_zm] at g1; omega)
        rw [e61] at hh
        have ii := ki_inc (a := km_i M2 60) (by omega) (by omega)
        rw [e3]
        exact ih _ (ke_si (by decide) K) a (by show _ ≤ (km_i M2 60 + 1).toInt; rw [ii]; show (km_i M2 64).toInt ≤ _; omega) (by show (km_i M2 60 + 1).toInt ≤ _; omega) (by show _ - (km_i M2 60 + 1).toInt < _; omega) (fun x => by
          have : (km_i M2 64).toInt = (km_i M2 60 + 1).toInt := x
          omega)
  have L0 : ∀ (n : Nat) (M2 : km_S), ke_ [60, 62, 63, 64, 65] [] M M2 → (km_i M 60).toInt ≤ (km_i M2 60).toInt → (km_i M2 60).toInt ≤ (km_i M 61).toInt → (km_i M 61).toInt - (km_i M2 60).toInt < (n : Int) → wX12_step_0 (wX12_step_39 Q) Q n M2 := by
    intro n
    induction n with
    | zero => intro M2 K a b d; omega
    | succ n ih =>
      intro M2 K a b d
      have e61 : km_i M2 61 = km_i M 61 := K.1 61 (by decide)
      have skip : (km_i M2 60).toInt < (km_i M2 61).toInt → wX12_step_26 (wX12_step_0 (wX12_step_39 Q) Q n) Q M2 := by
        intro hh M3 e3
        rw [e61] at hh
        have ii := ki_inc (a := km_i M2 60) (by omega) (by omega)
        rw [e3]
        exact ih _ (ke_si (by decide) K) (by show _ ≤ (km_i M2 60 + 1).toInt; omega) (by show (km_i M2 60 + 1).toInt ≤ _; omega) (by show _ - (km_i M2 60 + 1).toInt < _; omega)
      refine rz_byteAt2 (by omega) (by rw [e61]; omega) ⟨fun c => skip (ki_here c (by decide)), fun _ => rz_byteAt2 (by omega) (by rw [e61]; omega) ⟨fun _ => ?_, fun c => skip (ki_here c (by decide))⟩⟩
      intro M3 e3 M4 e4
      have K4 : ke_ [60, 62, 63, 64, 65] [] M M4 := by rw [e4, e3]; exact ke_si (by decide) (ke_si (by decide) K)
      have f61 : km_i M4 61 = km_i M 61 := K4.1 61 (by decide)
      have f60 : km_i M4 60 = km_i M2 60 := by rw [e4, e3]; rfl
      have f64 : km_i M4 64 = km_i M2 60 := by rw [e4, e3]; rfl
      clear e3 e4
      refine rz_byteAt2 (by rw [f60]; omega) (by rw [f61]; omega) ?_
      obtain ⟨w, ew⟩ : ∃ w, (if km_i M4 61 ≤ km_i M4 60 then -1 else km_a M4 52 (km_i M4 60).toNatClampNeg) = w := ⟨_, rfl⟩
      rw [ew]
      refine ⟨fun g => ?_, fun g M5 e5 => ?_⟩
      · have hh := ki_here ew g
        rw [f60, f61] at hh
        have ii := ki_inc (a := km_i M2 60) (by omega) (by omega)
        refine rz_isLetter (fun q => ⟨fun _ => ?_, fun x => absurd rfl x⟩) (fun q1 q2 => ⟨fun x => absurd x (by decide), fun _ => ⟨501, L81 501 M4 K4 (by rw [f64]; omega) (by rw [f64, f60]; omega) (by rw [f60]; omega) (by rw [f60]; omega) (fun _ => ⟨w, ew, q1, q2⟩)⟩⟩)
        refine rz_isDigit (fun q => ⟨fun _ M5 e5 => ?_, fun x => absurd rfl x⟩) (fun q1 q2 => ⟨fun x => absurd x (by decide), fun _ => ⟨501, L123 501 M4 K4 (by rw [f64]; omega) (by rw [f64, f60]; omega) (by rw [f60]; omega) (by rw [f60]; omega) (fun _ => ⟨w, ew, q1, q2⟩)⟩⟩)
        rw [f60] at e5
        have K5 : ke_ [60, 62, 63, 64, 65] [] M M5 := by rw [e5]; exact ke_si (by decide) K4
        have g60 : km_i M5 60 = km_i M2 60 + 1 := by rw [e5]; rfl
        have g64 : km_i M5 64 = km_i M2 60 := by rw [e5]; exact f64
        clear e5
        have S : ∀ s0 : Int32, wX12_step_238 (wX12_step_246 Q) Q w s0 M5 := by
          intro s0 M6 e6 M7 e7
          rw [e7, e6]
          refine E246 _ (ke_si (by decide) (ke_si (by decide) K5)) ?_ ?_ ?_ (fun _ => ?_)
          · show _ ≤ (km_i M5 64).toInt
            rw [g64]; omega
          · show (km_i M5 64).toInt ≤ (km_i M5 60).toInt
            rw [g64, g60]; omega
          · show (km_i M5 60).toInt ≤ _
            rw [g60]; omega
          · show (km_i M5 64).toInt < (km_i M5 60).toInt
            rw [g64, g60]; omega
        have S2 : ∀ s : Int32, wX12_step_227 (wX12_step_246 Q) Q w s M5 := fun s => ⟨fun _ => S 4, fun _ => S 3⟩
        exact ⟨fun _ => S2 1, fun _ => ⟨fun _ => S2 1, fun _ => ⟨fun _ => S2 1, fun _ => ⟨fun _ => S2 1, fun _ => ⟨fun _ => S2 1, fun _ => ⟨fun _ => S2 1, fun _ => ⟨fun _ => S2 1, fun _ => ⟨fun _ => S2 1, fun _ => ⟨fun _ => S2 0, fun _ => S2 1⟩⟩⟩⟩⟩⟩⟩⟩⟩
      · rw [e5]
        refine E246 _ (ke_si (by decide) K4) ?_ ?_ ?_ (fun x => absurd rfl x)
        · show _ ≤ (km_i M4 64).toInt
          rw [f64]; omega
        · show (km_i M4 64).toInt ≤ (km_i M4 60).toInt
          rw [f64, f60]; omega
        · show (km_i M4 60).toInt ≤ _
          rw [f60]; omega
  exact ⟨501, L0 501 M ke_refl (by omega) h1 (by omega)⟩
theorem ks_lens : ∀ l : Nat, l < 12 → (nI (ks_len.getD l 0)).toInt = ((ks_len.getD l 0 : Nat) : Int) ∧ ks_len.getD l 0 ≤ 5 := by decide
theorem rz_isWord {l : Nat} {M : km_S} {Q : Int32 → km_S → Prop} (hl : l < 12) (h0 : 0 ≤ (km_i M 64).toInt) (h1 : (km_i M 64).toInt ≤ (km_i M 65).toInt) (h2 : (km_i M 65).toInt ≤ 500) (k0 : Q 0 M) (k1 : km_i M 62 = 1 → Q 1 M) : wX12_isWord l M Q := by
  have L := ks_lens l hl
  have N0 : wX12_isWord_29 Q l 0 M := ⟨1, ⟨fun _ => ⟨rfl, k0⟩, fun x => absurd rfl x⟩⟩
  refine ⟨fun _ => N0, fun c => ⟨hl, fun _ => N0, fun e => ⟨7, ?_⟩⟩⟩
  have d := ki_sub (a := km_i M 65) (b := km_i M 64) (by omega) (by omega)
  have ee := ki_eq.1 e
  rw [L.1, d] at ee
  have Lp : ∀ (n : Nat) (s i : Int32), (s = 0 ∨ s = 1) → 0 ≤ i.toInt → i.toInt ≤ ((ks_len.getD l 0 : Nat) : Int) → ((ks_len.getD l 0 : Nat) : Int) - i.toInt < (n : Int) → wX12_isWord_32 Q n l s i M := by
    intro n
    induction n with
    | zero => intro s i hs g1 g2 g3; omega
    | succ n ih =>
      intro s i hs g1 g2 g3
      refine ⟨fun x => ?_, fun x => ⟨hl, fun _ => ?_, fun q => ?_⟩⟩
      · rw [x]; exact ⟨rfl, k0⟩
      · rcases hs with y | y
        · exact absurd y x
        · rw [y]; exact ⟨rfl, k1 c⟩
      · rw [ki_le, L.1] at q
        have ii := ki_inc (a := i) (by omega) (by omega)
        have ia := ki_add (a := km_i M 64) (b := i) (by omega) (by omega)
        refine ⟨hl, by rw [ki_in]; omega, by rw [ki_in]; omega, fun _ v ev => ?_, fun _ v ev => ?_⟩
        · rw [ev]; exact ih 0 (i + 1) (.inl rfl) (by omega) (by omega) (by omega)
        · rw [ev]; exact ih 1 (i + 1) (.inr rfl) (by omega) (by omega) (by omega)
  exact Lp 7 1 0 (.inr rfl) (by decide) (by rw [ki_z0]; omega) (by rw [ki_z0]; omega)
