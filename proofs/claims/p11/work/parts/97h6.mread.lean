/-! the reference's reader -/
def enc1 (v : Int32) : List Int32 := if 0 ≤ v then [0, v] else if -8 < v then [19 - v] else [-7 - v]
def enc (L : List Int32) : List Int32 := L.flatMap enc1
theorem enc_app {L M : List Int32} : enc (L ++ M) = enc L ++ enc M := List.flatMap_append
theorem enc_one {v : Int32} : enc [v] = enc1 v := by
  unfold enc
  rw [List.flatMap_cons, List.flatMap_nil, List.append_nil]
theorem enc_len : ∀ L : List Int32, (enc L).length ≤ 2 * L.length := by
  intro L
  induction L with
  | nil => exact Nat.le_refl 0
  | cons v L ih =>
    have e : enc (v :: L) = enc1 v ++ enc L := List.flatMap_cons
    have h1 : (enc1 v).length ≤ 2 := by
      unfold enc1
      split
      · exact Nat.le_refl 2
      · split <;> exact Nat.le_succ 1
    rw [e, List.length_append, List.length_cons]
    omega
def gq_ (lw : Nat) (μ u : km_S) : Prop := (∀ j, j ≠ 59 → j ≠ 60 → j ≠ 62 → j ≠ 63 → j ≠ 64 → j ≠ 65 → j ≠ 66 → j ≠ 67 → km_i u j = km_i μ j) ∧ (∀ g, g ≠ 56 → km_a u g = km_a μ g) ∧ (∀ i, i < 900 * lw → km_a u 56 i = km_a μ 56 i) ∧ u.2.2 = μ.2.2
theorem gq_refl {lw : Nat} {μ : km_S} : gq_ lw μ μ := ⟨fun _ _ _ _ _ _ _ _ _ => rfl, fun _ _ => rfl, fun _ _ => rfl, rfl⟩
theorem gq_mk {lw : Nat} {μ u v : km_S} (h : gq_ lw μ u) (k : mk_ u v) : gq_ lw μ v := by
  obtain ⟨k1, k2⟩ := k
  refine ⟨fun j a b c d e g x y => (k1 j b c d e g).trans (h.1 j a b c d e g x y), fun g hg => ?_, fun i hi => ?_, ?_⟩
  · refine Eq.trans ?_ (h.2.1 g hg)
    show v.2.1 g = u.2.1 g
    rw [k2]
  · refine Eq.trans ?_ (h.2.2.1 i hi)
    show v.2.1 56 i = u.2.1 56 i
    rw [k2]
  · rw [k2]
    exact h.2.2.2
theorem gq_si {lw : Nat} {μ u : km_S} {g : Nat} {w : Int32} (h : gq_ lw μ u) (hg : g = 59 ∨ g = 66 ∨ g = 67) : gq_ lw μ (km_si u g w) := by
  refine ⟨fun j a b c d e g1 x y => ?_, h.2.1, h.2.2.1, h.2.2.2⟩
  refine Eq.trans ?_ (h.1 j a b c d e g1 x y)
  show upd u.1 g w j = u.1 j
  refine w_updN ?_
  rcases hg with rfl | rfl | rfl <;> assumption
theorem gq_sa {lw : Nat} {μ u : km_S} {i : Nat} {w : Int32} (h : gq_ lw μ u) (hi : 900 * lw ≤ i) : gq_ lw μ (km_sa u 56 i w) := by
  refine ⟨h.1, fun g hg => ?_, fun q hq => ?_, h.2.2.2⟩
  · refine Eq.trans ?_ (h.2.1 g hg)
    show (if g = 56 then _ else u.2.1 g) = u.2.1 g
    exact if_neg hg
  · refine Eq.trans ?_ (h.2.2.1 q hq)
    show upd (u.2.1 56) i w q = u.2.1 56 q
    exact w_updN (by omega)
def mD_ (lw : Nat) (E : List Int32) (u : km_S) : Prop := (km_i u 59).toInt = (E.length : Int) ∧ ∀ i, i < E.length → km_a u 56 (900 * lw + i) = E.getD i 0
def m0_ (f : Nat → Int32) (n lw : Nat) (μ : km_S) : Prop := mt_ f n μ ∧ (∀ i, i < n → ¬ f i = -1) ∧ (km_i μ 5).toInt = (lw : Int) ∧ lw < 6
def mq_ (f : Nat → Int32) (n lw : Nat) (μ : km_S) (k : Nat) (L : List Int32) (t : tk_T) (u : km_S) : Prop := gq_ lw μ u ∧ km_i u 66 = 0 ∧ mT_ t u ∧ tt_ f n t ∧ mD_ lw (enc L) u ∧ L.length + k ≤ t.2.1
def mF_ (lw : Nat) (μ : km_S) (p : Nat) (u : km_S) : Prop := gq_ lw μ u ∧ ¬ km_i u 66 = 0 ∧ (km_i u 67).toInt = (p : Int)
def mr_ (f : Nat → Int32) (n lw : Nat) (μ : km_S) (k : Nat) (L : List Int32) (r : pr_T) (u : km_S) : Prop := match r with
  | .inl p => mF_ lw μ p u
  | .inr (t, cs) => mq_ f n lw μ k (L ++ cs) t u
def mp_ (f : Nat → Int32) (n lw : Nat) (μ : km_S) (V : km_S → (km_S → Prop) → Prop) (P : tk_T → pr_T) : Prop := ∀ (k : Nat) (L : List Int32) (t : tk_T) (u : km_S) (Q : km_S → Prop), 1 ≤ k → mq_ f n lw μ k L t u → (∀ u', mr_ f n lw μ k L (P t) u' → Q u') → V u Q
theorem t_rk0 {k : Int32} : t_rk k = 0 ↔ k = 0 := by
  unfold t_rk
  constructor
  · intro e
    split at e
    · assumption
    · split at e
      · exact absurd e (by decide)
      · split at e
        · exact absurd e (by decide)
        · split at e <;> exact absurd e (by decide)
  · intro e
    rw [e]
    decide
theorem t_rk1 {k : Int32} : t_rk k = 1 ↔ k = 1 := by
  unfold t_rk
  constructor
  · intro e
    split at e
    · exact absurd e (by decide)
    · split at e
      · assumption
      · split at e
        · exact absurd e (by decide)
        · split at e <;> exact absurd e (by decide)
  · intro e
    rw [e]
    decide
theorem t_rk2 {k : Int32} : t_rk k = 2 ↔ k = 2 := by
  unfold t_rk
  constructor
  · intro e
    split at e
    · exact absurd e (by decide)
    · split at e
      · exact absurd e (by decide)
      · split at e
        · assumption
        · split at e <;> exact absurd e (by decide)
  · intro e
    rw [e]
    decide
section
variable {f : Nat → Int32} {n lw : Nat} {μ : km_S}
theorem gq_mt {u : km_S} (C : m0_ f n lw μ) (h : gq_ lw μ u) : mt_ f n u := by
  obtain ⟨⟨c1, c2, c3⟩, _⟩ := C
  refine ⟨by rw [h.1 61 (by decide) (by decide) (by decide) (by decide) (by decide) (by decide) (by decide) (by decide)]; exact c1, c2, fun i hi => ?_⟩
  rw [h.2.1 52 (by decide)]
  exact c3 i hi
theorem gq_5 {u : km_S} (C : m0_ f n lw μ) (h : gq_ lw μ u) : (km_i u 5).toInt = (lw : Int) := by
  rw [h.1 5 (by decide) (by decide) (by decide) (by decide) (by decide) (by decide) (by decide) (by decide)]
  exact C.2.2.1
theorem mq_le {k : Nat} {L : List Int32} {t : tk_T} {u : km_S} (h : mq_ f n lw μ (k + 1) L t u) : mq_ f n lw μ k L t u := ⟨h.1, h.2.1, h.2.2.1, h.2.2.2.1, h.2.2.2.2.1, by have := h.2.2.2.2.2; omega⟩
theorem mr_pre {k : Nat} {L cs : List Int32} {t : tk_T} {X : tk_T → pr_T} {u : km_S} (h : mr_ f n lw μ k (L ++ cs) (X t) u) : mr_ f n lw μ k L (p_bind (.inr (t, cs)) X) u := by
  cases e : X t with
  | inl p =>
    rw [p_bind_l e]
    rw [e] at h
    exact h
  | inr q =>
    obtain ⟨t2, ds⟩ := q
    rw [p_bind_r e]
    rw [e] at h
    have h : mq_ f n lw μ k ((L ++ cs) ++ ds) t2 u := h
    show mq_ f n lw μ k (L ++ (cs ++ ds)) t2 u
    rw [← List.append_assoc]
    exact h
theorem mr_nil {k : Nat} {L cs : List Int32} {t : tk_T} {X : tk_T → pr_T} {u : km_S} (e : X t = .inr (t, [])) (h : mq_ f n lw μ k (L ++ cs) t u) : mr_ f n lw μ k L (p_bind (.inr (t, cs)) X) u := by
  refine mr_pre ?_
  rw [e]
  show mq_ f n lw μ k ((L ++ cs) ++ []) t u
  rw [List.append_nil]
  exact h
theorem ve_adv0 {k : Nat} {L : List Int32} {t : tk_T} {u : km_S} {Q : km_S → Prop} (C : m0_ f n lw μ) (hX : gq_ lw μ u) (h0 : km_i u 66 = 0) (T : mT_ t u) (ht : tt_ f n t) (hc : mD_ lw (enc L) u) (hl : L.length + k ≤ t.2.2) (kk : ∀ u', mq_ f n lw μ k L (p_adv f n t) u' → Q u') : vX12_step u Q := by
  refine vm_step (p := t.2.2) C.2.1 (gq_mt C hX) T.1 (tt_ok ht).2 (fun u' c _ T' => kk u' ⟨gq_mk hX c, ?_, T', (tt_adv ht).1, ⟨?_, fun i hi => ?_⟩, ?_⟩)
  · rw [c.1 66 (by decide) (by decide) (by decide) (by decide) (by decide)]
    exact h0
  · rw [c.1 59 (by decide) (by decide) (by decide) (by decide) (by decide)]
    exact hc.1
  · refine Eq.trans ?_ (hc.2 i hi)
    show u'.2.1 56 _ = u.2.1 56 _
    rw [c.2]
  · have := (tt_adv ht).2
    omega
theorem ve_adv1 {k : Nat} {L : List Int32} {t : tk_T} {u : km_S} {Q : km_S → Prop} (C : m0_ f n lw μ) (h : mq_ f n lw μ k L t u) (hk : ¬ t.1 = 0) (kk : ∀ u', mq_ f n lw μ (k + 1) L (p_adv f n t) u' → Q u') : vX12_step u Q :=
  ve_adv0 C h.1 h.2.1 h.2.2.1 h.2.2.2.1 h.2.2.2.2.1 (by have := tt_pos h.2.2.2.1 hk; have := h.2.2.2.2.2; omega) kk
theorem mD_emit {E : List Int32} {u : km_S} {v : Int32} (h : mD_ lw E u) (hl : E.length ≤ 2000) : mD_ lw (E ++ [v]) (km_si (km_sa u 56 (900 * lw + E.length) v) 59 (km_i u 59 + 1)) := by
  refine ⟨?_, fun i hi => ?_⟩
  · show (upd u.1 59 (km_i u 59 + 1) 59).toInt = _
    rw [w_updS, ki_add (by rw [h.1, ki_z1]; omega) (by rw [h.1, ki_z1]; omega), h.1, ki_z1, List.length_append]
    simp
  · show upd (u.2.1 56) (900 * lw + E.length) v (900 * lw + i) = _
    have hi' : i < E.length + 1 := by rw [List.length_append] at hi; exact hi
    by_cases c : i = E.length
    · rw [c, w_updS, l_getD_r]
    · rw [w_updN (by omega), l_getD_l (by omega)]
      exact h.2 i (by omega)
theorem ve_emit0 {E : List Int32} {v : Int32} {u : km_S} {Q : km_S → Prop} (C : m0_ f n lw μ) (hX : gq_ lw μ u) (h0 : km_i u 66 = 0) (hE : mD_ lw E u) (hl : E.length ≤ 2000) (kk : Q (km_si (km_sa u 56 (900 * lw + E.length) v) 59 (km_i u 59 + 1))) : vX12_emit v u Q := by
  have z9 : (900 : Int32).toInt = 900 := by decide
  have h5 := gq_5 C hX
  have l6 := C.2.2.2
  have e1 : (900 * km_i u 5).toInt = 900 * (lw : Int) := by rw [ki_mul (by rw [z9, h5]; omega) (by rw [z9, h5]; omega), z9, h5]
  have e2 : (900 * km_i u 5 + km_i u 59).toNatClampNeg = 900 * lw + E.length := by
    rw [ki_nat, ki_add (by rw [e1, hE.1]; omega) (by rw [e1, hE.1]; omega), e1, hE.1]
    omega
  unfold vX12_emit
  rw [e2]
  refine ⟨fun _ _ => ?_, fun c => absurd h0 c⟩
  rintro μ3 rfl μ4 rfl
  exact kk
theorem ve_emitF {v : Int32} {p : Nat} {u : km_S} {Q : km_S → Prop} (h : mF_ lw μ p u) (kk : Q u) : vX12_emit v u Q := ⟨fun c => absurd c h.2.1, fun _ => kk⟩
theorem ve_put {k : Nat} {L : List Int32} {r : pr_T} {v c : Int32} {u : km_S} {Q : km_S → Prop} (C : m0_ f n lw μ) (he : enc1 v = [c]) (h : mr_ f n lw μ (k + 1) L r u) (kk : ∀ u', mr_ f n lw μ k L (p_bind r (p_put v)) u' → Q u') : vX12_emit c u Q := by
  cases r with
  | inl p => exact ve_emitF h (kk u h)
  | inr q =>
    obtain ⟨t, cs⟩ := q
    have h : mq_ f n lw μ (k + 1) (L ++ cs) t u := h
    obtain ⟨hX, h0, T, ht, hc, hl⟩ := h
    have ok := tt_ok ht
    have o1 := ok.1
    have o2 := ok.2
    have h5 := C.1.2.1
    have el := enc_len (L ++ cs)
    refine ve_emit0 C hX h0 hc (by omega) (kk _ ?_)
    show mq_ f n lw μ k (L ++ (cs ++ [v])) t _
    rw [← List.append_assoc]
    refine ⟨gq_si (gq_sa hX (by omega)) (.inl rfl), h0, T, ht, ?_, ?_⟩
    · rw [enc_app, enc_one, he]
      exact mD_emit hc (by omega)
    · rw [List.length_append]
      show (L ++ cs).length + 1 + k ≤ t.2.1
      omega
theorem ve_wrong {k : Nat} {L : List Int32} {t : tk_T} {v : Int32} {u : km_S} {Q : km_S → Prop} (h : mq_ f n lw μ k L t u) (hv : ¬ v = 0) (kk : ∀ u', mF_ lw μ t.2.1 u' → Q u') : vX12_wrong v u Q := by
  unfold vX12_wrong
  refine ⟨fun _ => ?_, fun c => absurd h.2.1 c⟩
  rintro μ2 rfl μ3 rfl
  refine kk _ ⟨gq_si (gq_si h.1 (.inr (.inl rfl))) (.inr (.inr rfl)), ?_, ?_⟩
  · show ¬ upd u.1 66 v 66 = 0
    rw [w_updS]
    exact hv
  · show (upd (upd u.1 66 v) 67 (km_i u 64) 67).toInt = _
    rw [w_updS]
    exact h.2.2.1.2.1
theorem ve_isWord {k : Nat} {L : List Int32} {t : tk_T} {l : Nat} {u : km_S} {Q : Int32 → km_S → Prop} (C : m0_ f n lw μ) (h : mq_ f n lw μ k L t u) (k1 : t_wd f t l = true → Q 1 u) (k0 : t_wd f t l = false → Q 0 u) : vX12_isWord l u Q := vm_isWord (gq_mt C h.1) h.2.2.1 (tt_ok h.2.2.2.1) k1 k0
theorem ve_200F {re : Int32 → km_S → (km_S → Prop) → Prop} {p : Nat} {u : km_S} {Q : km_S → Prop} (h : mF_ lw μ p u) (kk : Q u) : vX12_readPart_200 re Q u := ⟨fun _ => kk, fun c => absurd c h.2.1⟩
theorem ve_200 {re : Int32 → km_S → (km_S → Prop) → Prop} {k : Nat} {L : List Int32} {t : tk_T} {u : km_S} {Q : km_S → Prop} (C : m0_ f n lw μ) (hX : gq_ lw μ u) (h0 : km_i u 66 = 0) (T : mT_ t u) (ht : tt_ f n t) (hc : mD_ lw (enc L) u) (hl : L.length + k ≤ t.2.2) (kk : ∀ u', mq_ f n lw μ k L (p_adv f n t) u' → Q u') : vX12_readPart_200 re Q u := ⟨fun c => absurd h0 c, fun _ => ve_adv0 C hX h0 T ht hc hl kk⟩
/-- the words are seven -/
theorem t_wd_one {t : tk_T} {i j : Nat} (hi : i < 7) (hj : j < 7) (h1 : t_wd f t i = true) (h2 : t_wd f t j = true) : i = j := by
  have a := t_wd_iff.1 h1
  have b := t_wd_iff.1 h2
  have key : ∀ i, i < 7 → ∀ j, j < 7 → t_len i = t_len j → t_byt i 0 = t_byt j 0 → i = j := by decide +kernel
  have pos : ∀ i, i < 7 → 0 < t_len i := by decide +kernel
  refine key i hi j hj (a.2.1.symm.trans b.2.1) ?_
  have p1 := a.2.2 0 (pos i hi)
  have p2 := b.2.2 0 (pos j hj)
  exact p1.symm.trans p2
theorem p_nm0 {t : tk_T} (h : p_nm f t = 0) : ∀ l, l < 7 → t_wd f t l = false := by
  intro l hl
  cases e : t_wd f t l with
  | false => rfl
  | true =>
    exfalso
    revert h
    unfold p_nm
    repeat' split
    all_goals first
      | (intro x; exact absurd x (by decide))
      | skip
    intro _
    have : l = 0 ∨ l = 1 ∨ l = 2 ∨ l = 3 ∨ l = 4 ∨ l = 5 ∨ l = 6 := by omega
    rcases this with rfl | rfl | rfl | rfl | rfl | rfl | rfl <;> contradiction
theorem p_nm1 {t : tk_T} (h : ¬ p_nm f t = 0) : ∃ l, l < 7 ∧ t_wd f t l = true ∧ enc1 (p_nm f t) = [20 + nI l] := by
  revert h
  unfold p_nm
  split
  · next w => intro _; exact ⟨0, by decide, w, by decide⟩
  · split
    · next w => intro _; exact ⟨1, by decide, w, by decide⟩
    · split
      · next w => intro _; exact ⟨2, by decide, w, by decide⟩
      · split
        · next w => intro _; exact ⟨3, by decide, w, by decide⟩
        · split
          · next w => intro _; exact ⟨4, by decide, w, by decide⟩
          · split
            · next w => intro _; exact ⟨5, by decide, w, by decide⟩
            · split
              · next w => intro _; exact ⟨6, by decide, w, by decide⟩
              · intro x; exact absurd rfl x
theorem ve_nameA {re : Int32 → km_S → (km_S → Prop) → Prop} {k : Nat} {L : List Int32} {t : tk_T} {u : km_S} {Q : km_S → Prop} {K : Int32 → km_S → Prop} (C : m0_ f n lw μ) (h : mq_ f n lw μ k L t u) (hn : ∀ l, l < 7 → t_wd f t l = false) (kk : K (-1) u) : ∀ (j q : Nat) (l3 : Int32), l3.toInt = (q : Int) → q ≤ 7 → vX12_readPart_103 re K Q j (-1) l3 u := by
  have z7 : (7 : Int32).toInt = 7 := by decide
  intro j
  induction j with
  | zero => intro _ _ _ _; exact trivial
  | succ j ih =>
    intro q l3 hl hq
    unfold vX12_readPart_103
    refine ⟨fun _ => kk, fun c _ => ?_⟩
    rw [ki_le, z7, hl] at c
    have eq : l3.toNatClampNeg = q := by rw [ki_nat]; omega
    rw [eq]
    refine ve_isWord C h (fun w => absurd w (b_no (hn q (by omega)))) (fun w => ⟨fun _ => ?_, fun x => absurd rfl x⟩)
    unfold vX12_readPart_124
    intro v1 e1
    refine ih (q + 1) v1 ?_ (by omega)
    rw [e1, ki_add (by rw [hl, ki_z1]; omega) (by rw [hl, ki_z1]; omega), hl, ki_z1]
    omega
theorem ve_nameB {re : Int32 → km_S → (km_S → Prop) → Prop} {k : Nat} {L : List Int32} {t : tk_T} {u : km_S} {Q : km_S → Prop} {K : Int32 → km_S → Prop} {l : Nat} (C : m0_ f n lw μ) (h : mq_ f n lw μ k L t u) (hl7 : l < 7) (hw : t_wd f t l = true) (kk : K (nI l) u) : ∀ (j q : Nat) (l2 l3 : Int32), l3.toInt = (q : Int) → q ≤ 7 → l2 = (if l < q then nI l else -1) → vX12_readPart_103 re K Q j l2 l3 u := by
  have z7 : (7 : Int32).toInt = 7 := by decide
  intro j
  induction j with
  | zero => intro _ _ _ _ _ _; exact trivial
  | succ j ih =>
    intro q l2 l3 hl hq h2
    unfold vX12_readPart_103
    refine ⟨fun c => ?_, fun c _ => ?_⟩
    · rw [ki_le, z7, hl] at c
      rw [if_pos (by omega)] at h2
      rw [h2]
      exact kk
    rw [ki_le, z7, hl] at c
    have eq : l3.toNatClampNeg = q := by rw [ki_nat]; omega
    rw [eq]
    have nx : ∀ v1 : Int32, v1 = l3 + 1 → v1.toInt = ((q + 1 : Nat) : Int) := by
      intro v1 e1
      rw [e1, ki_add (by rw [hl, ki_z1]; omega) (by rw [hl, ki_z1]; omega), hl, ki_z1]
      omega
    refine ve_isWord C h (fun w => ⟨fun x => absurd x (by decide), fun _ => ?_⟩) (fun w => ⟨fun _ => ?_, fun x => absurd rfl x⟩)
    · unfold vX12_readPart_124
      intro v1 e1
      have el := t_wd_one (by omega) hl7 w hw
      refine ih (q + 1) l3 v1 (nx v1 e1) (by omega) ?_
      rw [if_pos (by omega), ki_eq, hl, t_nI (by omega), el]
    · unfold vX12_readPart_124
      intro v1 e1
      have nl : ¬ l = q := fun e => by rw [e, w] at hw; exact absurd hw (by decide)
      refine ih (q + 1) l2 v1 (nx v1 e1) (by omega) ?_
      rw [h2]
      by_cases c2 : l < q
      · rw [if_pos c2, if_pos (by omega)]
      · rw [if_neg c2, if_neg (by omega)]
theorem ve_number {re : Int32 → km_S → (km_S → Prop) → Prop} {k : Nat} {L : List Int32} {t : tk_T} {u : km_S} {Q : km_S → Prop} {K : Int32 → km_S → Prop} (C : m0_ f n lw μ) (h : mq_ f n lw μ k L t u) : ∀ (j p : Nat) (v l3 : Int32), l3.toInt = (p : Int) → p ≤ t.2.2 → K (t_num f (t.2.2 - p) p v) u → vX12_readPart_42 re K Q j v l3 u := by
  have ok := tt_ok h.2.2.2.1
  have o2 := ok.2
  have h5 := C.1.2.1
  intro j
  induction j with
  | zero => intro _ _ _ _ _ _; exact trivial
  | succ j ih =>
    intro p v l3 hl hp kk
    unfold vX12_readPart_42
    rw [ki_le, h.2.2.1.2.2.1, hl]
    refine ⟨fun c => ?_, fun c => ⟨fun d => absurd h.2.1 d, fun _ _ => ?_⟩⟩
    · rw [show t.2.2 - p = 0 by omega] at kk
      exact kk
    · have eq : l3.toNatClampNeg = p := by rw [ki_nat]; omega
      rw [eq, (gq_mt C h.1).2.2 p (by omega)]
      intro v17 e17 v18 e18
      refine ih (p + 1) v17 v18 ?_ (by omega) ?_
      · rw [e18, ki_add (by rw [hl, ki_z1]; omega) (by rw [hl, ki_z1]; omega), hl, ki_z1]
        omega
      · rw [show t.2.2 - p = (t.2.2 - (p + 1)) + 1 by omega] at kk
        rw [e17, Int32.mul_comm]
        exact kk
theorem ve_part {re : Int32 → km_S → (km_S → Prop) → Prop} {l1 : Int32} {R : tk_T → pr_T} (C : m0_ f n lw μ) (hre : mp_ f n lw μ (fun u Q => re (l1 + 1) u Q) R) : mp_ f n lw μ (fun u Q => vX12_readPart re l1 u Q) (p_part f n R) := by
  intro k L t u Q hk h kk
  show vX12_readPart re l1 u Q
  have ht := h.2.2.2.1
  have ok := tt_ok ht
  have o1 := ok.1
  have o2 := ok.2
  have h5 := C.1.2.1
  have hl := h.2.2.2.2.2
  have hc := h.2.2.2.2.1
  have el := enc_len L
  unfold vX12_readPart
  rw [h.2.2.1.2.2.2.1]
  refine ⟨fun _ => ⟨fun c => ⟨fun d => ?_, fun d => ?_⟩, fun c => ?_⟩, fun c => absurd h.2.1 c⟩
  · have c := fun q => c (t_rk2.2 q)
    have d := fun q => d (t_rk1.2 q)
    refine vm_isSign h.2.2.1 (by decide) (fun e => ⟨fun x => absurd x (by decide), fun _ => ?_⟩) (fun e => ⟨fun _ => ?_, fun x => absurd rfl x⟩)
    · rw [p_part_par e] at kk
      refine ve_adv1 C h (by rw [e]; decide) (fun u1 g1 => ?_)
      refine hre k L (p_adv f n t) u1 _ hk (mq_le g1) (fun u2 g2 => ?_)
      revert g2 kk
      cases R (p_adv f n t) with
      | inl p =>
        intro kk g2
        exact ⟨fun _ => ve_200F g2 (kk u2 g2), fun x => absurd x g2.2.1⟩
      | inr q =>
        obtain ⟨t2, cs⟩ := q
        intro kk g2
        have g2 : mq_ f n lw μ k (L ++ cs) t2 u2 := g2
        refine ⟨fun x => absurd g2.2.1 x, fun _ => ?_⟩
        refine vm_isSign g2.2.2.1 (by decide) (fun e2 => ⟨fun _ => ?_, fun x => absurd x (by decide)⟩) (fun e2 => ⟨fun x => absurd rfl x, fun _ => ?_⟩)
        · refine ⟨fun x => absurd g2.2.1 x, fun _ => ve_adv1 C g2 (by rw [e2]; decide) (fun u3 g3 => kk u3 (mr_pre ?_))⟩
          rw [show p_sg f n 41 t2 = .inr (p_adv f n t2, []) from if_pos e2]
          show mq_ f n lw μ k ((L ++ cs) ++ []) _ u3
          rw [List.append_nil]
          exact mq_le g3
        · refine ve_wrong g2 (by decide) (fun u3 g3 => ve_200F g3 (kk u3 (mr_pre ?_)))
          rw [show p_sg f n 41 t2 = .inl t2.2.1 from if_neg e2]
          exact g3
    · have no : ¬ fp_ f t := by
        rintro (q | q | q)
        · exact c q.1
        · exact d q.1
        · exact e q
      rw [p_part_no no] at kk
      exact ve_wrong h (by decide) (fun u' h' => ve_200F h' (kk u' h'))
  · have d := t_rk1.1 d
    intro j
    by_cases e : p_nm f t = 0
    · have no : ¬ fp_ f t := by
        rintro (q | q | q)
        · rw [d] at q; exact absurd q.1 (by decide)
        · exact q.2 e
        · rw [d] at q; exact absurd q (by decide)
      rw [p_part_no no] at kk
      refine ve_nameA C h (p_nm0 e) ?_ j 0 0 (by decide) (by decide)
      unfold vX12_readPart_130 vX12_readPart_140
      refine ⟨fun x => absurd rfl x, fun _ => ve_wrong h (by decide) (fun u' h' => ve_emitF h' (ve_200F h' (kk u' h')))⟩
    · obtain ⟨l, l7, w, en⟩ := p_nm1 e
      rw [p_part_name d e] at kk
      refine ve_nameB C h l7 w ?_ j 0 (-1) 0 (by decide) (by decide) rfl
      unfold vX12_readPart_130 vX12_readPart_140
      refine ⟨fun _ => ?_, fun x => ?_⟩
      · have o3 := tt_pos ht (by rw [d]; decide)
        refine ve_emit0 C h.1 h.2.1 hc (by omega) ?_
        refine ve_200 (L := L ++ [p_nm f t]) (k := k) (t := t) C (gq_si (gq_sa h.1 (by omega)) (.inl rfl)) h.2.1 h.2.2.1 ht ?_ ?_ (fun u' h' => kk u' h')
        · rw [enc_app, enc_one, en]
          exact mD_emit hc (by omega)
        · rw [List.length_append]
          show L.length + 1 + k ≤ t.2.2
          omega
      · rw [ki_eq, t_nI (by omega), ki_zm] at x
        omega
  · have c := t_rk2.1 c
    have es : (km_i u 65 - km_i u 64).toInt = (t.2.2 : Int) - t.2.1 := by
      rw [ki_sub (by rw [h.2.2.1.2.2.1, h.2.2.1.2.1]; omega) (by rw [h.2.2.1.2.2.1, h.2.2.1.2.1]; omega), h.2.2.1.2.2.1, h.2.2.1.2.1]
    have z6 : (6 : Int32).toInt = 6 := by decide
    rw [ki_le, es, z6]
    refine ⟨fun d => ?_, fun d => ?_⟩
    · have d6 : ¬ 6 < t.2.2 - t.2.1 := by omega
      rw [p_part_num c d6] at kk
      have o3 := tt_pos ht (by rw [c]; decide)
      have nn := t_num_lo (f := f) (t.2.2 - t.2.1) t.2.1 0 0 (by omega) (by decide) (by decide) (fun i a b => tt_dig ht c i a (by omega))
      unfold vX12_readPart_35
      rintro v19 rfl j
      refine ve_number C h j t.2.1 0 _ h.2.2.1.2.1 o1 ?_
      unfold vX12_readPart_78
      have en : enc1 (t_num f (t.2.2 - t.2.1) t.2.1 0) = [0, t_num f (t.2.2 - t.2.1) t.2.1 0] := if_pos (by rw [ki_le, ki_z0]; exact nn.1)
      have hE : mD_ lw (enc L ++ [0]) _ := mD_emit (v := 0) hc (by omega)
      refine ve_emit0 C h.1 h.2.1 hc (by omega) ?_
      refine ve_emit0 C (gq_si (gq_sa h.1 (by omega)) (.inl rfl)) h.2.1 hE (by rw [List.length_append]; show (enc L).length + 1 ≤ 2000; omega) ?_
      refine ve_200 (L := L ++ [t_num f (t.2.2 - t.2.1) t.2.1 0]) (k := k) (t := t) C (gq_si (gq_sa (gq_si (gq_sa h.1 (by omega)) (.inl rfl)) (by omega)) (.inl rfl)) h.2.1 h.2.2.1 ht ?_ ?_ (fun u' h' => kk u' h')
      · rw [enc_app, enc_one, en]
        have := mD_emit (v := t_num f (t.2.2 - t.2.1) t.2.1 0) hE (by rw [List.length_append]; show (enc L).length + 1 ≤ 2000; omega)
        rw [List.append_assoc] at this
        exact this
      · rw [List.length_append]
        show L.length + 1 + k ≤ t.2.2
        omega
    · have no : ¬ fp_ f t := by
        rintro (q | q | q)
        · have := q.2; omega
        · rw [c] at q; exact absurd q.1 (by decide)
        · rw [c] at q; exact absurd q (by decide)
      rw [p_part_no no] at kk
      refine ve_wrong h (by decide) (fun u' h' => ?_)
      unfold vX12_readPart_35
      rintro v19 rfl j
      have fin : ∀ v : Int32, vX12_readPart_78 re (vX12_readPart_200 re Q) Q v u' := by
        intro v
        unfold vX12_readPart_78
        exact ve_emitF h' (ve_emitF h' (ve_200F h' (kk u' h')))
      cases j with
      | zero => exact trivial
      | succ j =>
        unfold vX12_readPart_42
        exact ⟨fun _ => fin 0, fun _ => ⟨fun _ => fin 0, fun x => absurd x h'.2.1⟩⟩
theorem ve_loopT {re : Int32 → km_S → (km_S → Prop) → Prop} {l1 : Int32} {R : tk_T → pr_T} {k : Nat} {L : List Int32} {Q : km_S → Prop} (C : m0_ f n lw μ) (hk : 1 ≤ k) (h1 : mp_ f n lw μ (fun u Q => vX12_readPart re l1 u Q) (p_part f n R)) : ∀ (j m : Nat) (r : pr_T) (u : km_S), (∀ t cs, r = .inr (t, cs) → 500 < (L ++ cs).length + k + m) → mr_ f n lw μ k L r u → (∀ u', mr_ f n lw μ k L (p_bind r (p_loop f n (p_part f n R) p_opT m)) u' → Q u') → vX12_readTerm_5 re Q j l1 u := by
  intro j
  induction j with
  | zero => intro _ _ _ _ _ _; exact trivial
  | succ j ih =>
    intro m r u hm h kk
    unfold vX12_readTerm_5
    cases r with
    | inl p => exact ⟨fun _ => kk u h, fun c => absurd c h.2.1⟩
    | inr q =>
      obtain ⟨t, cs⟩ := q
      have h : mq_ f n lw μ k (L ++ cs) t u := h
      have hm := hm t cs rfl
      have ok := tt_ok h.2.2.2.1
      have o1 := ok.1
      have o2 := ok.2
      have h5 := C.1.2.1
      have hl := h.2.2.2.2.2
      obtain ⟨m, rfl⟩ : ∃ q, m = q + 1 := ⟨m - 1, by omega⟩
      refine ⟨fun c => absurd h.2.1 c, fun _ => ?_⟩
      have go : ∀ (c v : Int32), p_opT t = v → ¬ v = 0 → ¬ t.1 = 0 → enc1 v = [c] → vX12_readTerm_44 re (vX12_readTerm_5 re Q j) Q l1 c u := by
        intro c v hop hv0 ht he
        unfold vX12_readTerm_44
        refine ve_adv1 C h ht (fun u1 g1 => ?_)
        refine h1 (k + 1) (L ++ cs) (p_adv f n t) u1 _ (by omega) g1 (fun u2 g2 => ?_)
        refine ve_put C he g2 (fun u3 g3 => ?_)
        refine ih m (p_bind (.inr (t, cs)) (fun t => p_bind (p_part f n R (p_adv f n t)) (p_put v))) u3 (fun t' cs' e' => ?_) (mr_pre g3) (fun u' h' => kk u' ?_)
        · revert e'
          cases e : p_bind (p_part f n R (p_adv f n t)) (p_put v) with
          | inl p => rw [p_bind_l e]; intro e'; exact absurd e' (by simp)
          | inr q =>
            obtain ⟨t3, ds⟩ := q
            rw [p_bind_r e]
            intro e'
            have e2 : cs' = cs ++ ds := by
              have := Sum.inr.inj e'
              exact (congrArg Prod.snd this).symm
            have d1 : 1 ≤ ds.length := by
              revert e
              cases p_part f n R (p_adv f n t) with
              | inl p => intro e; exact absurd e (by unfold p_bind; simp)
              | inr q =>
                obtain ⟨t4, es⟩ := q
                rw [p_bind_r (t2 := t4) (ds := [v]) rfl]
                intro e
                have := congrArg Prod.snd (Sum.inr.inj e)
                have e3 : ds = es ++ [v] := this.symm
                rw [e3, List.length_append]
                show 1 ≤ es.length + 1
                omega
            rw [e2, ← List.append_assoc, List.length_append]
            omega
        · rw [p_bind_assoc] at h'
          rw [p_bind_congr (k' := fun t => p_bind (p_bind (p_part f n R (p_adv f n t)) (p_put v)) (p_loop f n (p_part f n R) p_opT m)) (by rw [p_loop_go (by rw [hop]; exact hv0), hop])]
          exact h'
      have g30 : ∀ (e : t.1 = 42 ∨ t.1 = 47), vX12_readTerm_30 re (vX12_readTerm_5 re Q j) Q l1 u := by
        intro e
        unfold vX12_readTerm_30
        refine vm_isSign h.2.2.1 (by decide) (fun d => ⟨fun x => absurd x (by decide), fun _ => ?_⟩) (fun d => ⟨fun _ => ?_, fun x => absurd rfl x⟩)
        · exact go 3 (-10) (if_pos d) (by decide) (by rw [d]; decide) (by decide)
        · have d2 : t.1 = 47 := e.elim (fun x => absurd x d) id
          exact go 4 (-11) ((if_neg d).trans (if_pos d2)) (by decide) (by rw [d2]; decide) (by decide)
      refine vm_isSign h.2.2.1 (by decide) (fun d => ⟨fun _ => g30 (.inl d), fun x => absurd x (by decide)⟩) (fun d => ⟨fun x => absurd rfl x, fun _ => ?_⟩)
      refine vm_isSign h.2.2.1 (by decide) (fun d2 => ⟨fun x => absurd x (by decide), fun _ => g30 (.inr d2)⟩) (fun d2 => ⟨fun _ => kk u (mr_nil (p_loop_stop ((if_neg d).trans (if_neg d2))) h), fun x => absurd rfl x⟩)
theorem ve_term {re : Int32 → km_S → (km_S → Prop) → Prop} {l1 : Int32} {R : tk_T → pr_T} (C : m0_ f n lw μ) (hre : mp_ f n lw μ (fun u Q => re (l1 + 1) u Q) R) : mp_ f n lw μ (fun u Q => vX12_readTerm re l1 u Q) (p_term f n R) := by
  intro k L t u Q hk h kk
  show vX12_readTerm re l1 u Q
  unfold vX12_readTerm
  refine ve_part C hre k L t u _ hk h (fun u1 g1 => ?_)
  intro j
  exact ve_loopT C hk (ve_part C hre) j 500 _ u1 (fun _ _ _ => by omega) g1 kk

theorem ve_loopS {re : Int32 → km_S → (km_S → Prop) → Prop} {l1 : Int32} {R : tk_T → pr_T} {k : Nat} {L : List Int32} {Q : km_S → Prop} (C : m0_ f n lw μ) (hk : 1 ≤ k) (h1 : mp_ f n lw μ (fun u Q => vX12_readTerm re l1 u Q) (p_term f n R)) : ∀ (j m : Nat) (r : pr_T) (u : km_S), (∀ t cs, r = .inr (t, cs) → 500 < (L ++ cs).length + k + m) → mr_ f n lw μ k L r u → (∀ u', mr_ f n lw μ k L (p_bind r (p_loop f n (p_term f n R) p_opS m)) u' → Q u') → vX12_readSum_5 re Q j l1 u := by
  intro j
  induction j with
  | zero => intro _ _ _ _ _ _; exact trivial
  | succ j ih =>
    intro m r u hm h kk
    unfold vX12_readSum_5
    cases r with
    | inl p => exact ⟨fun _ => kk u h, fun c => absurd c h.2.1⟩
    | inr q =>
      obtain ⟨t, cs⟩ := q
      have h : mq_ f n lw μ k (L ++ cs) t u := h
      have hm := hm t cs rfl
      have ok := tt_ok h.2.2.2.1
      have o1 := ok.1
      have o2 := ok.2
      have h5 := C.1.2.1
      have hl := h.2.2.2.2.2
      obtain ⟨m, rfl⟩ : ∃ q, m = q + 1 := ⟨m - 1, by omega⟩
      refine ⟨fun c => absurd h.2.1 c, fun _ => ?_⟩
      have go : ∀ (c v : Int32), p_opS t = v → ¬ v = 0 → ¬ t.1 = 0 → enc1 v = [c] → vX12_readSum_44 re (vX12_readSum_5 re Q j) Q l1 c u := by
        intro c v hop hv0 ht he
        unfold vX12_readSum_44
        refine ve_adv1 C h ht (fun u1 g1 => ?_)
        refine h1 (k + 1) (L ++ cs) (p_adv f n t) u1 _ (by omega) g1 (fun u2 g2 => ?_)
        refine ve_put C he g2 (fun u3 g3 => ?_)
        refine ih m (p_bind (.inr (t, cs)) (fun t => p_bind (p_term f n R (p_adv f n t)) (p_put v))) u3 (fun t' cs' e' => ?_) (mr_pre g3) (fun u' h' => kk u' ?_)
        · revert e'
          cases e : p_bind (p_term f n R (p_adv f n t)) (p_put v) with
          | inl p => rw [p_bind_l e]; intro e'; exact absurd e' (by simp)
          | inr q =>
            obtain ⟨t3, ds⟩ := q
            rw [p_bind_r e]
            intro e'
            have e2 : cs' = cs ++ ds := by
              have := Sum.inr.inj e'
              exact (congrArg Prod.snd this).symm
            have d1 : 1 ≤ ds.length := by
              revert e
              cases p_term f n R (p_adv f n t) with
              | inl p => intro e; exact absurd e (by unfold p_bind; simp)
              | inr q =>
                obtain ⟨t4, es⟩ := q
                rw [p_bind_r (t2 := t4) (ds := [v]) rfl]
                intro e
                have := congrArg Prod.snd (Sum.inr.inj e)
                have e3 : ds = es ++ [v] := this.symm
                rw [e3, List.length_append]
                show 1 ≤ es.length + 1
                omega
            rw [e2, ← List.append_assoc, List.length_append]
            omega
        · rw [p_bind_assoc] at h'
          rw [p_bind_congr (k' := fun t => p_bind (p_bind (p_term f n R (p_adv f n t)) (p_put v)) (p_loop f n (p_term f n R) p_opS m)) (by rw [p_loop_go (by rw [hop]; exact hv0), hop])]
          exact h'
      have g30 : ∀ (e : t.1 = 43 ∨ t.1 = 45), vX12_readSum_30 re (vX12_readSum_5 re Q j) Q l1 u := by
        intro e
        unfold vX12_readSum_30
        refine vm_isSign h.2.2.1 (by decide) (fun d => ⟨fun x => absurd x (by decide), fun _ => ?_⟩) (fun d => ⟨fun _ => ?_, fun x => absurd rfl x⟩)
        · exact go 1 (-8) (if_pos d) (by decide) (by rw [d]; decide) (by decide)
        · have d2 : t.1 = 45 := e.elim (fun x => absurd x d) id
          exact go 2 (-9) ((if_neg d).trans (if_pos d2)) (by decide) (by rw [d2]; decide) (by decide)
      refine vm_isSign h.2.2.1 (by decide) (fun d => ⟨fun _ => g30 (.inl d), fun x => absurd x (by decide)⟩) (fun d => ⟨fun x => absurd rfl x, fun _ => ?_⟩)
      refine vm_isSign h.2.2.1 (by decide) (fun d2 => ⟨fun x => absurd x (by decide), fun _ => g30 (.inr d2)⟩) (fun d2 => ⟨fun _ => kk u (mr_nil (p_loop_stop ((if_neg d).trans (if_neg d2))) h), fun x => absurd rfl x⟩)
theorem ve_sum {re : Int32 → km_S → (km_S → Prop) → Prop} {l1 : Int32} {R : tk_T → pr_T} (C : m0_ f n lw μ) (hre : mp_ f n lw μ (fun u Q => re (l1 + 1) u Q) R) : mp_ f n lw μ (fun u Q => vX12_readSum re l1 u Q) (p_sum f n R) := by
  intro k L t u Q hk h kk
  show vX12_readSum re l1 u Q
  unfold vX12_readSum
  refine ve_term C hre k L t u _ hk h (fun u1 g1 => ?_)
  intro j
  exact ve_loopS C hk (ve_term C hre) j 500 _ u1 (fun _ _ _ => by omega) g1 kk

theorem ve_test16 {re : Int32 → km_S → (km_S → Prop) → Prop} {l1 l2 : Int32} {R : tk_T → pr_T} {k : Nat} {L : List Int32} {t : tk_T} {u : km_S} {Q : km_S → Prop} (C : m0_ f n lw μ) (hk : 1 ≤ k) (hre : mp_ f n lw μ (fun u Q => re (l1 + 1) u Q) R) (h : mq_ f n lw μ k L t u) (kk : ∀ u', mr_ f n lw μ k L (p_cmp f n R t) u' → vX12_readTest_76 re Q l2 u') : vX12_readTest_16 re Q l1 l2 u := by
  unfold vX12_readTest_16
  refine ve_sum C hre k L t u _ hk h (fun u1 g1 => ?_)
  unfold p_cmp at kk
  revert g1 kk
  cases p_sum f n R t with
  | inl p =>
    intro kk g1
    exact ⟨fun _ => kk u1 g1, fun c => absurd c g1.2.1⟩
  | inr q =>
    obtain ⟨t1, cs⟩ := q
    intro kk g1
    have g1 : mq_ f n lw μ k (L ++ cs) t1 u1 := g1
    refine ⟨fun c => absurd g1.2.1 c, fun _ => ?_⟩
    have go : ∀ (c v : Int32), p_opC t1 = v → ¬ v = 0 → ¬ t1.1 = 0 → enc1 v = [c] → vX12_readTest_61 re (vX12_readTest_76 re Q) Q l1 l2 c u1 := by
      intro c v hop hv0 ht he
      unfold vX12_readTest_61
      refine ve_adv1 C g1 ht (fun u2 g2 => ?_)
      refine ve_sum C hre (k + 1) (L ++ cs) (p_adv f n t1) u2 _ (by omega) g2 (fun u3 g3 => ?_)
      refine ve_put C he g3 (fun u4 g4 => kk u4 (mr_pre ?_))
      rw [show p_cmp2 f n R t1 = p_bind (p_sum f n R (p_adv f n t1)) (p_put v) from (if_neg (by rw [hop]; exact hv0)).trans (by rw [hop])]
      exact g4
    have g46 : ∀ (e : t1.1 = 60 ∨ t1.1 = 61), vX12_readTest_46 re (vX12_readTest_76 re Q) Q l1 l2 u1 := by
      intro e
      unfold vX12_readTest_46
      refine vm_isSign g1.2.2.1 (by decide) (fun d => ⟨fun x => absurd x (by decide), fun _ => ?_⟩) (fun d => ⟨fun _ => ?_, fun x => absurd rfl x⟩)
      · exact go 5 (-12) (if_pos d) (by decide) (by rw [d]; decide) (by decide)
      · have d2 : t1.1 = 61 := e.elim (fun x => absurd x d) id
        exact go 6 (-13) ((if_neg d).trans (if_pos d2)) (by decide) (by rw [d2]; decide) (by decide)
    refine vm_isSign g1.2.2.1 (by decide) (fun d => ⟨fun _ => g46 (.inl d), fun x => absurd x (by decide)⟩) (fun d => ⟨fun x => absurd rfl x, fun _ => ?_⟩)
    refine vm_isSign g1.2.2.1 (by decide) (fun d2 => ⟨fun x => absurd x (by decide), fun _ => g46 (.inr d2)⟩) (fun d2 => ⟨fun _ => kk u1 (mr_nil ?_ g1), fun x => absurd rfl x⟩)
    exact if_pos ((if_neg d).trans (if_neg d2))
theorem ve_test {re : Int32 → km_S → (km_S → Prop) → Prop} {l1 : Int32} {R : tk_T → pr_T} (C : m0_ f n lw μ) (hre : mp_ f n lw μ (fun u Q => re (l1 + 1) u Q) R) : mp_ f n lw μ (fun u Q => vX12_readTest re l1 u Q) (p_test f n R) := by
  intro k L t u Q hk h kk
  show vX12_readTest re l1 u Q
  unfold vX12_readTest
  refine ve_isWord C h (fun w => ⟨fun x => absurd x (by decide), fun _ => ?_⟩) (fun w => ⟨fun _ => ?_, fun x => absurd rfl x⟩)
  · have ht : ¬ t.1 = 0 := by rw [(t_wd_iff.1 w).1]; decide
    refine ve_adv1 C h ht (fun u1 g1 => ?_)
    refine ve_test16 C (by omega) hre g1 (fun u2 g2 => ?_)
    unfold vX12_readTest_76
    refine ⟨fun x => absurd x (by decide), fun _ => ve_put (v := -16) C (by decide) g2 (fun u3 g3 => kk u3 ?_)⟩
    rw [show p_test f n R t = p_bind (p_cmp f n R (p_adv f n t)) (p_put (-16)) from if_pos w]
    exact g3
  · refine ve_test16 C hk hre h (fun u2 g2 => ?_)
    unfold vX12_readTest_76
    refine ⟨fun _ => kk u2 ?_, fun x => absurd rfl x⟩
    rw [show p_test f n R t = p_cmp f n R t from if_neg (b_no w)]
    exact g2
theorem ve_loopE {re : Int32 → km_S → (km_S → Prop) → Prop} {l1 : Int32} {R : tk_T → pr_T} {k : Nat} {L : List Int32} {Q : km_S → Prop} (C : m0_ f n lw μ) (hk : 1 ≤ k) (h1 : mp_ f n lw μ (fun u Q => vX12_readTest re l1 u Q) (p_test f n R)) : ∀ (j m : Nat) (r : pr_T) (u : km_S), (∀ t cs, r = .inr (t, cs) → 500 < (L ++ cs).length + k + m) → mr_ f n lw μ k L r u → (∀ u', mr_ f n lw μ k L (p_bind r (p_loop f n (p_test f n R) (p_opE f) m)) u' → Q u') → vX12_readExpression_67 re Q j l1 u := by
  intro j
  induction j with
  | zero => intro _ _ _ _ _ _; exact trivial
  | succ j ih =>
    intro m r u hm h kk
    unfold vX12_readExpression_67
    cases r with
    | inl p => exact ⟨fun _ => kk u h, fun c => absurd c h.2.1⟩
    | inr q =>
      obtain ⟨t, cs⟩ := q
      have h : mq_ f n lw μ k (L ++ cs) t u := h
      have hm := hm t cs rfl
      have ok := tt_ok h.2.2.2.1
      have o1 := ok.1
      have o2 := ok.2
      have h5 := C.1.2.1
      have hl := h.2.2.2.2.2
      obtain ⟨m, rfl⟩ : ∃ q, m = q + 1 := ⟨m - 1, by omega⟩
      refine ⟨fun c => absurd h.2.1 c, fun _ => ?_⟩
      have go : ∀ (c v : Int32), p_opE f t = v → ¬ v = 0 → ¬ t.1 = 0 → enc1 v = [c] → vX12_readExpression_111 re (vX12_readExpression_67 re Q j) Q l1 c u := by
        intro c v hop hv0 ht he
        unfold vX12_readExpression_111
        refine ve_adv1 C h ht (fun u1 g1 => ?_)
        refine h1 (k + 1) (L ++ cs) (p_adv f n t) u1 _ (by omega) g1 (fun u2 g2 => ?_)
        refine ve_put C he g2 (fun u3 g3 => ?_)
        refine ih m (p_bind (.inr (t, cs)) (fun t => p_bind (p_test f n R (p_adv f n t)) (p_put v))) u3 (fun t' cs' e' => ?_) (mr_pre g3) (fun u' h' => kk u' ?_)
        · revert e'
          cases e : p_bind (p_test f n R (p_adv f n t)) (p_put v) with
          | inl p => rw [p_bind_l e]; intro e'; exact absurd e' (by simp)
          | inr q =>
            obtain ⟨t3, ds⟩ := q
            rw [p_bind_r e]
            intro e'
            have e2 : cs' = cs ++ ds := by
              have := Sum.inr.inj e'
              exact (congrArg Prod.snd this).symm
            have d1 : 1 ≤ ds.length := by
              revert e
              cases p_test f n R (p_adv f n t) with
              | inl p => intro e; exact absurd e (by unfold p_bind; simp)
              | inr q =>
                obtain ⟨t4, es⟩ := q
                rw [p_bind_r (t2 := t4) (ds := [v]) rfl]
                intro e
                have := congrArg Prod.snd (Sum.inr.inj e)
                have e3 : ds = es ++ [v] := this.symm
                rw [e3, List.length_append]
                show 1 ≤ es.length + 1
                omega
            rw [e2, ← List.append_assoc, List.length_append]
            omega
        · rw [p_bind_assoc] at h'
          rw [p_bind_congr (k' := fun t => p_bind (p_bind (p_test f n R (p_adv f n t)) (p_put v)) (p_loop f n (p_test f n R) (p_opE f) m)) (by rw [p_loop_go (by rw [hop]; exact hv0), hop])]
          exact h'
      have g94 : ∀ (e : t_wd f t 9 = true ∨ t_wd f t 10 = true), vX12_readExpression_94 re (vX12_readExpression_67 re Q j) Q l1 u := by
        intro e
        have t1 : ¬ t.1 = 0 := by rcases e with w | w <;> (rw [(t_wd_iff.1 w).1]; decide)
        unfold vX12_readExpression_94
        refine ve_isWord C h (fun d => ⟨fun x => absurd x (by decide), fun _ => ?_⟩) (fun d => ⟨fun _ => ?_, fun x => absurd rfl x⟩)
        · exact go 7 (-14) (if_pos d) (by decide) t1 (by decide)
        · have d2 : t_wd f t 10 = true := e.elim (fun x => absurd x (b_no d)) id
          exact go 8 (-15) ((if_neg (b_no d)).trans (if_pos d2)) (by decide) t1 (by decide)
      refine ve_isWord C h (fun d => ⟨fun _ => g94 (.inl d), fun x => absurd x (by decide)⟩) (fun d => ⟨fun x => absurd rfl x, fun _ => ?_⟩)
      refine ve_isWord C h (fun d2 => ⟨fun x => absurd x (by decide), fun _ => g94 (.inr d2)⟩) (fun d2 => ⟨fun _ => kk u (mr_nil (p_loop_stop ((if_neg (b_no d)).trans (if_neg (b_no d2)))) h), fun x => absurd rfl x⟩)
/-- what can't begin an expression -/
theorem p_expr_no {d : Nat} {t : tk_T} (h1 : ¬ t.1 = 1) (h2 : ¬ t.1 = 2) (h3 : ¬ t.1 = 40) : p_expr f n d t = .inl t.2.1 := by
  cases d with
  | zero => rfl
  | succ d =>
    have no : ¬ fp_ f t := by
      rintro (q | q | q)
      · exact h2 q.1
      · exact h1 q.1
      · exact h3 q
    have w : t_wd f t 11 = false := t_wd_no (fun x => h1 x.1)
    have e1 : p_term f n (p_expr f n d) t = .inl t.2.1 := by
      unfold p_term
      rw [p_part_no no]
      rfl
    have e2 : p_cmp f n (p_expr f n d) t = .inl t.2.1 := by
      unfold p_cmp p_sum
      rw [e1]
      rfl
    show p_bind (p_test f n (p_expr f n d) t) _ = _
    rw [show p_test f n (p_expr f n d) t = p_cmp f n (p_expr f n d) t from if_neg (b_no w), e2]
    rfl
theorem ve_expr (C : m0_ f n lw μ) : ∀ (d D : Nat) (l1 : Int32), l1.toInt = 8 - (d : Int) → d ≤ 8 → mp_ f n lw μ (fun u Q => vX12_readExpression D l1 u Q) (p_expr f n d) := by
  have z8 : (8 : Int32).toInt = 8 := by decide
  intro d
  induction d with
  | zero =>
    intro D l1 hl _ k L t u Q hk h kk
    cases D with
    | zero => exact trivial
    | succ D =>
      show vX12_readExpression_b (vX12_readExpression D) l1 u Q
      have e8 : l1 = 8 := ki_eq.2 (by rw [hl, z8]; omega)
      have f54 : ∀ u', mF_ lw μ t.2.1 u' → vX12_readExpression_54 (vX12_readExpression D) Q l1 u' := by
        intro u' h'
        unfold vX12_readExpression_54
        exact ⟨fun x => absurd x h'.2.1, fun _ => kk u' h'⟩
      have f30 : ∀ s0 : Int32, vX12_readExpression_30 (vX12_readExpression D) Q l1 s0 u := by
        intro s0
        unfold vX12_readExpression_30
        exact ⟨fun _ => ⟨fun x => absurd e8 x, fun _ => ve_wrong h (by decide) f54⟩, fun _ => ve_wrong h (by decide) f54⟩
      unfold vX12_readExpression_b vX12_readExpression_25
      exact ⟨fun _ => f30 1, fun _ => ⟨fun _ => f30 1, fun _ => vm_isSign h.2.2.1 (by decide) (fun _ => ⟨fun _ => f30 0, fun _ => f30 1⟩) (fun _ => ⟨fun _ => f30 0, fun _ => f30 1⟩)⟩⟩
  | succ d ih =>
    intro D l1 hl hd k L t u Q hk h kk
    cases D with
    | zero => exact trivial
    | succ D =>
      show vX12_readExpression_b (vX12_readExpression D) l1 u Q
      have n8 : ¬ l1 = 8 := fun e => by rw [e, z8] at hl; omega
      have hre : mp_ f n lw μ (fun u Q => vX12_readExpression D (l1 + 1) u Q) (p_expr f n d) := by
        refine ih D (l1 + 1) ?_ (by omega)
        rw [ki_add (by rw [hl, ki_z1]; omega) (by rw [hl, ki_z1]; omega), hl, ki_z1]
        omega
      have yes : vX12_readExpression_30 (vX12_readExpression D) Q l1 1 u := by
        unfold vX12_readExpression_30
        refine ⟨fun _ => ⟨fun _ => ?_, fun x => absurd x n8⟩, fun x => absurd x (by decide)⟩
        unfold vX12_readExpression_54
        refine ⟨fun _ => ?_, fun x => absurd h.2.1 x⟩
        refine ve_test C hre k L t u _ hk h (fun u1 g1 => ?_)
        intro j
        exact ve_loopE C hk (ve_test C hre) j 500 _ u1 (fun _ _ _ => by omega) g1 kk
      unfold vX12_readExpression_b vX12_readExpression_25
      rw [h.2.2.1.2.2.2.1]
      refine ⟨fun _ => yes, fun c => ⟨fun _ => yes, fun c2 => vm_isSign h.2.2.1 (by decide) (fun _ => ⟨fun x => absurd x (by decide), fun _ => yes⟩) (fun c3 => ⟨fun _ => ?_, fun x => absurd rfl x⟩)⟩⟩
      rw [p_expr_no (fun q => c (t_rk1.2 q)) (fun q => c2 (t_rk2.2 q)) c3] at kk
      unfold vX12_readExpression_30
      refine ⟨fun x => absurd rfl x, fun _ => ve_wrong h (by decide) (fun u' h' => ?_)⟩
      unfold vX12_readExpression_54
      exact ⟨fun x => absurd x h'.2.1, fun _ => kk u' h'⟩
end

