/-! codes of a piece of law: run from any height they leave one more -/
theorem im_run_mono {f : Nat → Int32} : ∀ (n m k e d : Nat), n ≤ m → im_run f n k e d → im_run f m k e d := by
  intro n
  induction n with
  | zero => intro m k e d _ h; exact False.elim h
  | succ n ih =>
    intro m k e d hm h
    cases m with
    | zero => omega
    | succ m =>
      unfold im_run at h ⊢
      split
      · rename_i c; rw [if_pos c] at h; exact h
      · rename_i c; rw [if_neg c] at h
        split
        · rename_i c; rw [if_pos c] at h; exact ⟨h.1, h.2.1, ih m _ _ _ (by omega) h.2.2⟩
        · rename_i c; rw [if_neg c] at h
          split
          · rename_i c; rw [if_pos c] at h; exact ⟨h.1, h.2.1, ih m _ _ _ (by omega) h.2.2⟩
          · rename_i c; rw [if_neg c] at h
            split
            · rename_i c; rw [if_pos c] at h; exact ⟨h.1, ih m _ _ _ (by omega) h.2⟩
            · rename_i c; rw [if_neg c] at h; exact ⟨h.1, ih m _ _ _ (by omega) h.2⟩
def ip_ (f : Nat → Int32) (a e h : Nat) : Prop := a ≤ e ∧ ∀ f' : Nat → Int32, (∀ i, a ≤ i → i < e → f' i = f i) → ∀ (E d n : Nat), e ≤ E → d + h ≤ 190 → im_run f' n e E (d + 1) → ∃ m, m ≤ n + (e - a) ∧ im_run f' m a E d
theorem ip_of {f g : Nat → Int32} {a e h : Nat} (H : ip_ f a e h) (hg : ∀ i, a ≤ i → i < e → g i = f i) : ip_ g a e h := ⟨H.1, fun f' hf => H.2 f' (fun i x y => (hf i x y).trans (hg i x y))⟩
theorem ip_le {f : Nat → Int32} {a e h h' : Nat} (H : ip_ f a e h) (q : h ≤ h') : ip_ f a e h' := ⟨H.1, fun f' hf E d n hE hd R => H.2 f' hf E d n hE (by omega) R⟩
theorem ip_num {f : Nat → Int32} {a : Nat} (h0 : f a = 0) : ip_ f a (a + 2) 1 := by
  refine ⟨by omega, fun f' hf E d n hE hd R => ⟨n + 1, by omega, ?_⟩⟩
  unfold im_run
  rw [if_neg (by omega), if_pos ((hf a (by omega) (by omega)).trans h0)]
  exact ⟨by omega, by omega, R⟩
theorem ip_name {f : Nat → Int32} {a : Nat} (h1 : 20 ≤ f a) (h2 : f a < 27) : ip_ f a (a + 1) 1 := by
  refine ⟨by omega, fun f' hf E d n hE hd R => ⟨n + 1, by omega, ?_⟩⟩
  have e := hf a (by omega) (by omega)
  unfold im_run
  rw [e, if_neg (by omega), if_neg (fun x => by rw [x] at h1; exact absurd h1 (by decide)), if_pos h1]
  exact ⟨h2, by omega, R⟩
theorem ip_bin {f : Nat → Int32} {a m e h1 h2 h : Nat} (A : ip_ f a m h1) (B : ip_ f m e h2) (q1 : h1 ≤ h) (q2 : h2 + 1 ≤ h) (n0 : f e ≠ 0) (n20 : ¬ 20 ≤ f e) (n9 : f e ≠ 9) : ip_ f a (e + 1) h := by
  have la := A.1
  have lb := B.1
  refine ⟨by omega, fun f' hf E d n hE hd R => ?_⟩
  have ee := hf e (by omega) (by omega)
  have R1 : im_run f' (n + 1) e E (d + 1 + 1) := by
    unfold im_run
    rw [ee, if_neg (by omega), if_neg n0, if_neg n20, if_neg n9]
    exact ⟨by omega, R⟩
  obtain ⟨m2, q3, R2⟩ := B.2 f' (fun i x y => hf i (by omega) (by omega)) E (d + 1) (n + 1) (by omega) (by omega) R1
  obtain ⟨m1, q4, R3⟩ := A.2 f' (fun i x y => hf i x (by omega)) E d m2 (by omega) (by omega) R2
  exact ⟨m1, by omega, R3⟩
theorem ip_not {f : Nat → Int32} {a e h : Nat} (A : ip_ f a e h) (n9 : f e = 9) : ip_ f a (e + 1) h := by
  have la := A.1
  refine ⟨by omega, fun f' hf E d n hE hd R => ?_⟩
  have ee := (hf e (by omega) (by omega)).trans n9
  have R1 : im_run f' (n + 1) e E (d + 1) := by
    unfold im_run
    rw [ee, if_neg (by omega), if_neg (by decide), if_neg (by decide), if_pos rfl]
    exact ⟨by omega, R⟩
  obtain ⟨m1, q4, R3⟩ := A.2 f' (fun i x y => hf i x (by omega)) E d (n + 1) (by omega) (by omega) R1
  exact ⟨m1, by omega, R3⟩
theorem ip_end {f : Nat → Int32} {a e h : Nat} (A : ip_ f a e h) (q : h ≤ 190) (l : e ≤ 900) : im_run f 901 a e 0 := by
  obtain ⟨m, hm, R⟩ := A.2 f (fun _ _ _ => rfl) e 0 1 (by omega) (by omega) (by unfold im_run; rw [if_pos (by omega)]; exact ⟨rfl, rfl⟩)
  exact im_run_mono m 901 _ _ _ (by omega) R
/-! the reader's state -/
def it_ (M : km_S) : Prop := 0 ≤ (km_i M 64).toInt ∧ (km_i M 64).toInt ≤ (km_i M 65).toInt ∧ km_i M 60 = km_i M 65 ∧ (km_i M 65).toInt ≤ (km_i M 61).toInt ∧ (km_i M 61).toInt ≤ 500 ∧ (km_i M 62 ≠ 0 → (km_i M 64).toInt < (km_i M 65).toInt) ∧ 0 ≤ (km_i M 5).toInt ∧ (km_i M 5).toInt < 6
theorem it_ke {I A : List Nat} {M M' : km_S} (d : ∀ j ∈ [5, 60, 61, 62, 64, 65], j ∉ I) (K : ke_ I A M M') (h : it_ M) : it_ M' := by
  unfold it_
  rw [K.1 5 (d 5 (by decide)), K.1 60 (d 60 (by decide)), K.1 61 (d 61 (by decide)), K.1 62 (d 62 (by decide)), K.1 64 (d 64 (by decide)), K.1 65 (d 65 (by decide))]
  exact h
abbrev ir_ (M : km_S) : Nat → Int32 := fun i => km_a M 56 (900 * (km_i M 5).toNatClampNeg + i)
theorem rz_step2 {M : km_S} {Q : km_S → Prop} (T : it_ M) (kk : ∀ M', ke_ [60, 62, 63, 64, 65] [] M M' → it_ M' → (km_i M 65).toInt ≤ (km_i M' 64).toInt → Q M') : wX12_step M Q := by
  obtain ⟨t1, t2, t3, t4, t5, t6, t7⟩ := T
  refine rz_step (by rw [t3]; omega) (by rw [t3]; omega) t5 (fun M' S => kk M' S.1 ?_ (by have := S.2.1; rw [t3] at this; exact this))
  obtain ⟨K, s1, s2, s3, s4, s5⟩ := S
  rw [t3] at s1
  unfold it_
  rw [K.1 61 (by decide), K.1 5 (by decide)]
  exact ⟨by omega, s2, s3, s4, t5, s5, t7⟩
theorem rz_wrong2 {c : Int32} {M : km_S} {Q : km_S → Prop} (hc : c ≠ 0) (kk : ∀ M', ke_ [66, 67] [] M M' → km_i M' 66 ≠ 0 → Q M') : wX12_wrong c M Q := by
  refine ⟨fun _ M2 e2 M3 e3 => ?_, fun h => kk M ke_refl h⟩
  rw [e3, e2]
  exact kk _ (ke_si (by decide) (ke_si (by decide) ke_refl)) hc
theorem rz_emit2 {c : Int32} {M : km_S} {Q : km_S → Prop} (T : it_ M) (hc : km_i M 66 = 0 → 0 ≤ (km_i M 59).toInt ∧ (km_i M 59).toInt < 900) (k0 : km_i M 66 ≠ 0 → Q M)
    (k1 : km_i M 66 = 0 → ∀ M', ke_ [59] [56] M M' → km_i M' 59 = km_i M 59 + 1 → km_a M' 56 = upd (km_a M 56) (900 * (km_i M 5).toNatClampNeg + (km_i M 59).toNatClampNeg) c → Q M') : wX12_emit c M Q := by
  refine ⟨fun b => ?_, k0⟩
  have h := hc b
  have h5 := T.2.2.2.2.2.2
  have z : (900 : Int32).toInt = 900 := by decide
  have m : (900 * km_i M 5).toInt = 900 * (km_i M 5).toInt := by rw [ki_mul (by rw [z]; omega) (by rw [z]; omega), z]
  have a : (900 * km_i M 5 + km_i M 59).toInt = 900 * (km_i M 5).toInt + (km_i M 59).toInt := by rw [ki_add (by rw [m]; omega) (by rw [m]; omega), m]
  have p : (900 * km_i M 5 + km_i M 59).toNatClampNeg = 900 * (km_i M 5).toNatClampNeg + (km_i M 59).toNatClampNeg := by rw [ki_nat, ki_nat, ki_nat, a]; omega
  refine ⟨by rw [ki_in]; omega, fun M2 e2 M3 e3 => ?_⟩
  rw [p] at e2
  rw [e3, e2]
  exact k1 b _ (ke_si (by decide) (ke_sa (by decide) ke_refl)) rfl rfl
abbrev iI : List Nat := [59, 60, 62, 63, 64, 65, 66, 67]
/-- before: room for codes -/
def ic_ (M : km_S) : Prop := km_i M 66 = 0 → 0 ≤ (km_i M 59).toInt ∧ 2 * (km_i M 59).toInt ≤ 3 * (km_i M 64).toInt
/-- a piece read: from M to M' -/
def iq_ (p h : Nat) (M M' : km_S) : Prop := ke_ iI [56] M M' ∧ it_ M' ∧ (km_i M 64).toInt ≤ (km_i M' 64).toInt ∧ (∀ y : Nat, y < 900 * (km_i M 5).toNatClampNeg → km_a M' 56 y = km_a M 56 y) ∧
  (km_i M' 66 = 0 → km_i M 66 = 0 ∧ (km_i M 59).toInt ≤ (km_i M' 59).toInt ∧ 2 * (km_i M' 59).toInt - 2 * (km_i M 59).toInt ≤ 3 * (km_i M' p).toInt - 3 * (km_i M 64).toInt + 1 ∧ (∀ i : Nat, (i : Int) < (km_i M 59).toInt → ir_ M' i = ir_ M i) ∧ ip_ (ir_ M') (km_i M 59).toNatClampNeg (km_i M' 59).toNatClampNeg h)
theorem iq_bad {p h p' h' : Nat} {M M' : km_S} (R : iq_ p h M M') (b : km_i M' 66 ≠ 0) : iq_ p' h' M M' := ⟨R.1, R.2.1, R.2.2.1, R.2.2.2.1, fun x => absurd x b⟩
theorem iq_le {p h h' : Nat} {M M' : km_S} (R : iq_ p h M M') (q : h ≤ h') : iq_ p h' M M' := ⟨R.1, R.2.1, R.2.2.1, R.2.2.2.1, fun x => have o := R.2.2.2.2 x; ⟨o.1, o.2.1, o.2.2.1, o.2.2.2.1, ip_le o.2.2.2.2 q⟩⟩
theorem iq_self {p h : Nat} {M : km_S} (T : it_ M) (b : km_i M 66 ≠ 0) : iq_ p h M M := ⟨ke_refl, T, Int.le_refl _, fun _ _ => rfl, fun x => absurd x b⟩
/-- wrong, and so done -/
theorem iq_wrong {p h : Nat} {M M' : km_S} {A : List Nat} (K : ke_ [66, 67] A M M') (hA : A = []) (T : it_ M) (b : km_i M' 66 ≠ 0) : iq_ p h M M' := by
  subst hA
  exact ⟨ke_mono (by decide) (by decide) K, it_ke (by decide) K T, by rw [K.1 64 (by decide)]; exact Int.le_refl _, fun y _ => by rw [K.2 56 (by decide)], fun x => absurd x b⟩
theorem iq_then {p h p' h' : Nat} {A B C : km_S} (R : ke_ iI [56] A B) (l : (km_i A 64).toInt ≤ (km_i B 64).toInt) (s : ∀ y : Nat, y < 900 * (km_i A 5).toNatClampNeg → km_a B 56 y = km_a A 56 y) (S : iq_ p h B C) (b : km_i C 66 ≠ 0) : iq_ p' h' A C := by
  refine ⟨ke_trans R S.1, S.2.1, by have := S.2.2.1; omega, fun y hy => ?_, fun x => absurd x b⟩
  rw [S.2.2.2.1 y (by rw [R.1 5 (by decide)]; exact hy)]
  exact s y hy
/-- the next token after a piece -/
theorem rz_next {h : Nat} {M M2 : km_S} {Q : km_S → Prop} (R : iq_ 65 h M M2) (kk : ∀ M3, iq_ 64 h M M3 → Q M3) : wX12_step M2 Q := by
  refine rz_step2 R.2.1 (fun M3 K T l => kk M3 ?_)
  obtain ⟨r1, r2, r3, r4, r5⟩ := R
  have t2 := r2.2.1
  refine ⟨ke_trans r1 (ke_mono (by decide) (by decide) K), T, by omega, fun y hy => by rw [K.2 56 (by decide)]; exact r4 y hy, fun x => ?_⟩
  rw [K.1 66 (by decide)] at x
  have o := r5 x
  have er : ir_ M3 = ir_ M2 := by unfold ir_; rw [K.1 5 (by decide), K.2 56 (by decide)]
  rw [er, K.1 59 (by decide)]
  exact ⟨o.1, o.2.1, by omega, o.2.2.2.1, o.2.2.2.2⟩
def rs_ (h : Nat) (w : km_S → (km_S → Prop) → Prop) : Prop := ∀ (M : km_S) (Q : km_S → Prop), it_ M → ic_ M → (∀ M', iq_ 64 h M M' → Q M') → w M Q
/-- an operator's step, its second piece, its code -/
theorem rz_op {h1 h2 h : Nat} {c : Int32} {w : km_S → (km_S → Prop) → Prop} {M M2 : km_S} {Q : km_S → Prop} (hw : rs_ h2 w) (hh1 : h1 ≤ h) (hh2 : h2 + 1 ≤ h) (c0 : c ≠ 0) (c20 : ¬ 20 ≤ c) (c9 : c ≠ 9) (IC : ic_ M) (R : iq_ 64 h1 M M2) (b2 : km_i M2 66 = 0) (k2 : km_i M2 62 ≠ 0)
    (kk : ∀ M5, iq_ 64 h M M5 → (km_i M2 64).toInt < (km_i M5 64).toInt → Q M5) : wX12_step M2 (fun μ1 => w μ1 (fun μ2 => wX12_emit c μ2 Q)) := by
  obtain ⟨r1, r2, r3, r4, r5⟩ := R
  have o2 := r5 b2
  have ic := IC o2.1
  have tl := r2.2.2.2.2.2.1 k2
  refine rz_step2 r2 (fun M3 K3 T3 l3 => ?_)
  have e59 : km_i M3 59 = km_i M2 59 := K3.1 59 (by decide)
  have K3' : ke_ iI [56] M2 M3 := ke_mono (by decide) (by decide) K3
  have s3 : ir_ M3 = ir_ M2 := by unfold ir_; rw [K3.1 5 (by decide), K3.2 56 (by decide)]
  refine hw M3 _ T3 (fun _ => by rw [e59]; omega) (fun M4 R4 => ?_)
  have l4 := R4.2.2.1
  have s43 : ∀ y : Nat, y < 900 * (km_i M 5).toNatClampNeg → km_a M3 56 y = km_a M 56 y := fun y hy => by rw [K3.2 56 (by decide)]; exact r4 y hy
  refine rz_emit2 R4.2.1 (fun b4 => ?_) (fun b4 => kk M4 (iq_then (ke_trans r1 K3') (by omega) s43 R4 b4) (by omega)) (fun b4 M5 K5 i5 a5 => ?_)
  · have o4 := R4.2.2.2.2 b4
    have t4 := R4.2.1
    have := t4.2.1
    have := t4.2.2.2.1
    have := t4.2.2.2.2.1
    rw [e59] at o4
    omega
  · obtain ⟨q1, q2, q3, q4, q5⟩ := R4
    have o4 := q5 b4
    rw [e59] at o4
    have := q2.2.1
    have := q2.2.2.2.1
    have := q2.2.2.2.2.1
    have ii := ki_inc (a := km_i M4 59) (by omega) (by omega)
    have f5 : km_i M4 5 = km_i M 5 := (q1.1 5 (by decide)).trans ((K3.1 5 (by decide)).trans (r1.1 5 (by decide)))
    have g5 : km_i M5 5 = km_i M 5 := (K5.1 5 (by decide)).trans f5
    have e2 : km_i M2 5 = km_i M 5 := r1.1 5 (by decide)
    obtain ⟨n4, en4⟩ : ∃ n, n = (km_i M4 59).toNatClampNeg := ⟨_, rfl⟩
    have hn4 : (n4 : Int) = (km_i M4 59).toInt := by rw [en4, ki_nat]; omega
    obtain ⟨n2, en2⟩ : ∃ n, n = (km_i M2 59).toNatClampNeg := ⟨_, rfl⟩
    have hn2 : (n2 : Int) = (km_i M2 59).toInt := by rw [en2, ki_nat]; omega
    obtain ⟨n0, en0⟩ : ∃ n, n = (km_i M 59).toNatClampNeg := ⟨_, rfl⟩
    have hn0 : (n0 : Int) = (km_i M 59).toInt := by rw [en0, ki_nat]; omega
    have x5 : ∀ i : Nat, ir_ M5 i = if i = n4 then c else ir_ M4 i := by
      intro i
      show km_a M5 56 _ = if i = n4 then c else km_a M4 56 _
      rw [a5, g5, f5, ← en4]
      by_cases q : i = n4
      · rw [q, if_pos rfl, ku_self]
      · rw [if_neg q, ku_ne (by omega)]
    have row4 : ∀ i : Nat, i < n2 → ir_ M4 i = ir_ M2 i := fun i hi => by rw [o4.2.2.2.1 i (by omega), s3]
    refine kk M5 ⟨ke_trans (ke_trans r1 K3') (ke_trans q1 (ke_mono (by decide) (by decide) K5)), it_ke (by decide) K5 q2, by rw [K5.1 64 (by decide)]; omega, fun y hy => ?_, fun b5 => ⟨o2.1, ?_, ?_, fun i hi => ?_, ?_⟩⟩ (by rw [K5.1 64 (by decide)]; omega)
    · rw [a5, ku_ne (by rw [f5]; omega), q4 y (by rw [K3.1 5 (by decide), e2]; exact hy)]
      exact s43 y hy
    · rw [i5]; omega
    · rw [i5, K5.1 64 (by decide)]; omega
    · rw [x5 i, if_neg (by omega), row4 i (by omega)]
      exact o2.2.2.2.1 i hi
    · have i5n : (km_i M5 59).toNatClampNeg = n4 + 1 := by rw [i5, ki_nat]; omega
      have A := o2.2.2.2.2
      have B := o4.2.2.2.2
      rw [← en0, ← en2] at A
      rw [← en2, ← en4] at B
      have lb := B.1
      rw [i5n, ← en0]
      exact ip_bin (ip_of A (fun i _ hi => by rw [x5 i, if_neg (by omega), row4 i hi])) (ip_of B (fun i _ hi => by rw [x5 i, if_neg (by omega)])) hh1 hh2 (by rw [x5, if_pos rfl]; exact c0) (by rw [x5, if_pos rfl]; exact c20) (by rw [x5, if_pos rfl]; exact c9)
theorem rz_isSign {s : Int32} {M : km_S} {Q : Int32 → km_S → Prop} (k0 : Q 0 M) (k1 : km_i M 62 = 3 → Q 1 M) : wX12_isSign s M Q := ⟨fun _ => k0, fun c => ⟨fun _ => k0, fun _ => k1 c⟩⟩
theorem rz_isWord2 {l : Nat} {M : km_S} {Q : Int32 → km_S → Prop} (hl : l < 12) (T : it_ M) (k0 : Q 0 M) (k1 : km_i M 62 = 1 → Q 1 M) : wX12_isWord l M Q := by
  obtain ⟨t1, t2, t3, t4, t5, t6, t7⟩ := T
  exact rz_isWord hl t1 t2 (by omega) k0 k1
