/-! the reference's text -/
def p_ops (rs : List (Bool × List Int32)) : List Int32 := rs.flatMap (fun r => r.2)
theorem p_ops_app {a b : List (Bool × List Int32)} : p_ops (a ++ b) = p_ops a ++ p_ops b := List.flatMap_append
theorem p_ops_one {a : Bool × List Int32} : p_ops [a] = a.2 := by
  unfold p_ops
  rw [List.flatMap_cons, List.flatMap_nil, List.append_nil]
def gu_ (lw : Nat) (μ u : km_S) : Prop := (∀ j, j ≠ 59 → j ≠ 60 → j ≠ 62 → j ≠ 63 → j ≠ 64 → j ≠ 65 → j ≠ 66 → j ≠ 67 → km_i u j = km_i μ j) ∧ (∀ g, g ≠ 54 → g ≠ 55 → g ≠ 56 → g ≠ 58 → km_a u g = km_a μ g) ∧ (∀ i, i < 900 * lw → km_a u 56 i = km_a μ 56 i) ∧ (∀ i, i < 13 * lw → km_a u 55 i = km_a μ 55 i) ∧ (∀ i, i < 12 * lw → km_a u 58 i = km_a μ 58 i) ∧ (∀ i, i ≠ lw → km_a u 54 i = km_a μ 54 i) ∧ u.2.2 = μ.2.2
theorem gu_refl {lw : Nat} {μ : km_S} : gu_ lw μ μ := ⟨fun _ _ _ _ _ _ _ _ _ => rfl, fun _ _ _ _ _ => rfl, fun _ _ => rfl, fun _ _ => rfl, fun _ _ => rfl, fun _ _ => rfl, rfl⟩
theorem gu_gf {lw : Nat} {μ u v : km_S} (h : gu_ lw μ u) (k : gq_ lw u v) : gu_ lw μ v := by
  refine ⟨fun j a b c d e g x y => (k.1 j a b c d e g x y).trans (h.1 j a b c d e g x y), fun g a b c d => (k.2.1 g c).trans (h.2.1 g a b c d), fun i hi => (k.2.2.1 i hi).trans (h.2.2.1 i hi), fun i hi => ?_, fun i hi => ?_, fun i hi => ?_, k.2.2.2.trans h.2.2.2.2.2.2⟩
  · rw [k.2.1 55 (by decide)]; exact h.2.2.2.1 i hi
  · rw [k.2.1 58 (by decide)]; exact h.2.2.2.2.1 i hi
  · rw [k.2.1 54 (by decide)]; exact h.2.2.2.2.2.1 i hi
theorem gu_55 {lw : Nat} {μ u : km_S} {i : Nat} {v : Int32} (h : gu_ lw μ u) (hi : 13 * lw ≤ i) : gu_ lw μ (km_sa u 55 i v) := by
  refine ⟨h.1, fun g a b c d => ?_, h.2.2.1, fun q hq => ?_, h.2.2.2.2.1, h.2.2.2.2.2.1, h.2.2.2.2.2.2⟩
  · refine Eq.trans ?_ (h.2.1 g a b c d)
    show (if g = 55 then _ else u.2.1 g) = u.2.1 g
    exact if_neg b
  · refine Eq.trans ?_ (h.2.2.2.1 q hq)
    show upd (u.2.1 55) i v q = u.2.1 55 q
    exact w_updN (by omega)
theorem gu_58 {lw : Nat} {μ u : km_S} {i : Nat} {v : Int32} (h : gu_ lw μ u) (hi : 12 * lw ≤ i) : gu_ lw μ (km_sa u 58 i v) := by
  refine ⟨h.1, fun g a b c d => ?_, h.2.2.1, h.2.2.2.1, fun q hq => ?_, h.2.2.2.2.2.1, h.2.2.2.2.2.2⟩
  · refine Eq.trans ?_ (h.2.1 g a b c d)
    show (if g = 58 then _ else u.2.1 g) = u.2.1 g
    exact if_neg d
  · refine Eq.trans ?_ (h.2.2.2.2.1 q hq)
    show upd (u.2.1 58) i v q = u.2.1 58 q
    exact w_updN (by omega)
theorem gu_54 {lw : Nat} {μ u : km_S} {v : Int32} (h : gu_ lw μ u) : gu_ lw μ (km_sa u 54 lw v) := by
  refine ⟨h.1, fun g a b c d => ?_, h.2.2.1, h.2.2.2.1, h.2.2.2.2.1, fun q hq => ?_, h.2.2.2.2.2.2⟩
  · refine Eq.trans ?_ (h.2.1 g a b c d)
    show (if g = 54 then _ else u.2.1 g) = u.2.1 g
    exact if_neg a
  · refine Eq.trans ?_ (h.2.2.2.2.2.1 q hq)
    show upd (u.2.1 54) lw v q = u.2.1 54 q
    exact w_updN hq
theorem m0_gt {f : Nat → Int32} {n lw : Nat} {μ u : km_S} (C : m0_ f n lw μ) (h : gu_ lw μ u) : m0_ f n lw u := by
  obtain ⟨⟨c1, c2, c3⟩, c4, c5, c6⟩ := C
  refine ⟨⟨?_, c2, fun i hi => ?_⟩, c4, ?_, c6⟩
  · rw [h.1 61 (by decide) (by decide) (by decide) (by decide) (by decide) (by decide) (by decide) (by decide)]; exact c1
  · rw [h.2.1 52 (by decide) (by decide) (by decide) (by decide)]; exact c3 i hi
  · rw [h.1 5 (by decide) (by decide) (by decide) (by decide) (by decide) (by decide) (by decide) (by decide)]; exact c5
def mR_ (lw : Nat) (RS : List (Bool × List Int32)) (u : km_S) : Prop := ∀ i r, RS[i]? = some r → km_a u 58 (12 * lw + i) = (if r.1 = true then 1 else 0) ∧ (km_a u 55 (13 * lw + i)).toInt = ((enc (p_ops (RS.take i))).length : Int)
theorem mR_gf {lw : Nat} {RS : List (Bool × List Int32)} {u v : km_S} (h : mR_ lw RS u) (k : gq_ lw u v) : mR_ lw RS v := by
  intro i r hr
  rw [k.2.1 58 (by decide), k.2.1 55 (by decide)]
  exact h i r hr
theorem mR_new {lw : Nat} {RS : List (Bool × List Int32)} {u : km_S} {a : Bool} {cs : List Int32} {b c : Int32} (h : mR_ lw RS u) (hb : b = (if a = true then 1 else 0)) (hc : c.toInt = ((enc (p_ops RS)).length : Int)) : mR_ lw (RS ++ [(a, cs)]) (km_sa (km_sa u 58 (12 * lw + RS.length) b) 55 (13 * lw + RS.length) c) := by
  intro i r hr
  have hlt : i < RS.length + 1 := by
    have := (List.getElem?_eq_some_iff.1 hr).1
    rw [List.length_append] at this
    exact this
  show upd (u.2.1 58) (12 * lw + RS.length) b (12 * lw + i) = _ ∧ (upd (u.2.1 55) (13 * lw + RS.length) c (13 * lw + i)).toInt = _
  by_cases e : i = RS.length
  · subst e
    rw [List.getElem?_append_right (Nat.le_refl _), Nat.sub_self] at hr
    have : r = (a, cs) := (Option.some.inj hr).symm
    rw [this, w_updS, w_updS, List.take_append_of_le_length (Nat.le_refl _), List.take_length]
    exact ⟨hb, hc⟩
  · have hi : i < RS.length := by omega
    rw [List.getElem?_append_left hi] at hr
    rw [w_updN (by omega), w_updN (by omega), List.take_append_of_le_length (by omega)]
    exact h i r hr
def mz_ (lw : Nat) (μ : km_S) (RS : List (Bool × List Int32)) (r : pt_T) (u : km_S) : Prop := match r with
  | .inl p => gu_ lw μ u ∧ ¬ km_i u 66 = 0 ∧ (km_i u 67).toInt = (p : Int)
  | .inr rs => gu_ lw μ u ∧ km_i u 66 = 0 ∧ mD_ lw (enc (p_ops (RS ++ rs))) u ∧ mR_ lw (RS ++ rs) u ∧ (km_a u 55 (13 * lw + (RS ++ rs).length)).toInt = ((enc (p_ops (RS ++ rs))).length : Int) ∧ (km_a u 54 lw).toInt = ((RS ++ rs).length : Int)
section
variable {f : Nat → Int32} {n lw : Nat} {μ : km_S}
theorem ve_147 {i : Int32} {q : Nat} {u : km_S} {Q : km_S → Prop} (C : m0_ f n lw μ) (h : gu_ lw μ u) (hi : i.toInt = (q : Int)) (hq : q ≤ 13) (kk : Q (km_sa (km_sa u 55 (13 * lw + q) (km_i u 59)) 54 lw i)) : vX12_readLaw_147 Q i u := by
  have z : (13 : Int32).toInt = 13 := by decide
  have h5 := (m0_gt C h).2.2.1
  have l6 := C.2.2.2
  have e1 : (13 * km_i u 5).toInt = 13 * (lw : Int) := by rw [ki_mul (by rw [z, h5]; omega) (by rw [z, h5]; omega), z, h5]
  have e2 : (13 * km_i u 5 + i).toNatClampNeg = 13 * lw + q := by
    rw [ki_nat, ki_add (by rw [e1, hi]; omega) (by rw [e1, hi]; omega), e1, hi]
    omega
  have e3 : (km_i u 5).toNatClampNeg = lw := by rw [ki_nat, h5]; omega
  unfold vX12_readLaw_147
  rw [e2]
  rintro _ μ6 rfl _ μ8 rfl
  have e4 : (km_i (km_sa u 55 (13 * lw + q) (km_i u 59)) 5).toNatClampNeg = lw := e3
  rw [e4]
  exact kk
theorem ve_6F {i : Int32} {q p : Nat} {u : km_S} {Q : km_S → Prop} {RS : List (Bool × List Int32)} (C : m0_ f n lw μ) (h : gu_ lw μ u) (hb : ¬ km_i u 66 = 0) (hp : (km_i u 67).toInt = (p : Int)) (hi : i.toInt = (q : Int)) (hq : q ≤ 13) (kk : ∀ u', mz_ lw μ RS (.inl p) u' → Q u') : ∀ j, vX12_readLaw_6 (vX12_readLaw_147 Q) Q j i u := by
  intro j
  cases j with
  | zero => exact trivial
  | succ j =>
    unfold vX12_readLaw_6
    exact ⟨fun _ => ve_147 C h hi hq (kk _ ⟨gu_54 (gu_55 h (by omega)), hb, hp⟩), fun x => absurd x hb⟩
theorem ve_text6 {Q : km_S → Prop} (C : m0_ f n lw μ) : ∀ (j m : Nat) (i : Int32) (q : Nat) (RS : List (Bool × List Int32)) (t : tk_T) (u : km_S), i.toInt = (q : Int) → m + q = 13 → 1 ≤ m → RS.length = q → gu_ lw μ u → mR_ lw RS u → mq_ f n lw u 0 (p_ops RS) t u → (∀ u', mz_ lw μ RS (p_text f n m q t) u' → Q u') → vX12_readLaw_6 (vX12_readLaw_147 Q) Q j i u := by
  have z12 : (12 : Int32).toInt = 12 := by decide
  have z13 : (13 : Int32).toInt = 13 := by decide
  intro j
  induction j with
  | zero => intro _ _ _ _ _ _ _ _ _ _ _ _ _ _; exact trivial
  | succ j ih =>
    intro m i q RS t u hi hm h1 hq hg hR h kk
    have l6 := C.2.2.2
    have Cu := m0_gt C hg
    have h5 := Cu.2.2.1
    have hn5 := C.1.2.1
    obtain ⟨m, rfl⟩ : ∃ x, m = x + 1 := ⟨m - 1, by omega⟩
    unfold vX12_readLaw_6
    refine ⟨fun c => absurd h.2.1 c, fun _ => ⟨fun d => ?_, fun d => ?_⟩⟩
    · rw [h.2.2.1.2.2.2.1] at d
      have d1 := t_rk0.1 d
      rw [show p_text f n (m + 1) q t = .inr [] from if_pos d1] at kk
      refine ve_147 C hg hi (by omega) (kk _ ?_)
      have hD := h.2.2.2.2.1
      show gu_ lw μ _ ∧ _
      rw [List.append_nil]
      refine ⟨gu_54 (gu_55 hg (by omega)), h.2.1, hD, fun i r hr => ?_, ?_, ?_⟩
      · have hlt := (List.getElem?_eq_some_iff.1 hr).1
        show u.2.1 58 (12 * lw + i) = _ ∧ (upd (u.2.1 55) (13 * lw + q) (km_i u 59) (13 * lw + i)).toInt = _
        rw [w_updN (by omega)]
        exact hR i r hr
      · show (upd (u.2.1 55) (13 * lw + q) (km_i u 59) (13 * lw + RS.length)).toInt = _
        rw [hq, w_updS]
        exact hD.1
      · show (upd (u.2.1 54) lw i lw).toInt = _
        rw [w_updS, hi, hq]
    · rw [h.2.2.1.2.2.2.1] at d
      have d1 : ¬ t.1 = 0 := fun x => d (t_rk0.2 x)
      have nx : ∀ v : Int32, v = i + 1 → v.toInt = ((q + 1 : Nat) : Int) := by
        intro v e
        rw [e, ki_add (by rw [hi, ki_z1]; omega) (by rw [hi, ki_z1]; omega), hi, ki_z1]
        omega
      have bad : ∀ (v : Int32) (l2 : Int32), ¬ v = 0 → p_rule f n q t = .inl t.2.1 → vX12_wrong v u (fun μ4 => vX12_readLaw_59 (vX12_readLaw_6 (vX12_readLaw_147 Q) Q j) Q i l2 μ4) := by
        intro v l2 hv er
        have e2 : p_text f n (m + 1) q t = .inl t.2.1 := by
          show (if t.1 = 0 then (.inr [] : pt_T) else _) = _
          rw [if_neg d1, er]
        rw [e2] at kk
        refine ve_wrong h hv (fun u' h' => ?_)
        unfold vX12_readLaw_59
        exact ⟨fun x => absurd x h'.2.1, fun _ => kk u' ⟨gu_gf hg h'.1, h'.2.1, h'.2.2⟩⟩
      have go : ∀ l2 : Int32, (t_wd f t 8 = true ∨ t_wd f t 7 = true) → vp_nar .boolean l2 = (if t_wd f t 7 = true then 1 else 0) → vX12_readLaw_48 (vX12_readLaw_59 (vX12_readLaw_6 (vX12_readLaw_147 Q) Q j) Q) Q i l2 u := by
        intro l2 hw h2
        unfold vX12_readLaw_48
        refine ⟨fun c => ?_, fun c => ?_⟩
        · have nq : ¬ q = 12 := fun e => c (ki_eq.2 (by rw [hi, z12]; omega))
          have er : p_rule f n q t = p_bind (p_expr f n 8 (p_adv f n t)) (p_sg f n 59) := (if_pos hw).trans (if_neg nq)
          have e1 : (12 * km_i u 5).toInt = 12 * (lw : Int) := by rw [ki_mul (by rw [z12, h5]; omega) (by rw [z12, h5]; omega), z12, h5]
          have e2 : (12 * km_i u 5 + i).toNatClampNeg = 12 * lw + q := by
            rw [ki_nat, ki_add (by rw [e1, hi]; omega) (by rw [e1, hi]; omega), e1, hi]
            omega
          have e3 : (13 * km_i u 5).toInt = 13 * (lw : Int) := by rw [ki_mul (by rw [z13, h5]; omega) (by rw [z13, h5]; omega), z13, h5]
          have e4 : (13 * km_i u 5 + i).toNatClampNeg = 13 * lw + q := by
            rw [ki_nat, ki_add (by rw [e3, hi]; omega) (by rw [e3, hi]; omega), e3, hi]
            omega
          unfold vX12_readLaw_59
          rw [e2]
          refine ⟨fun _ _ => ?_, fun x => absurd h.2.1 x⟩
          rintro μ11 rfl
          have e5 : (13 * km_i (km_sa u 58 (12 * lw + q) (vp_nar .boolean l2)) 5 + i).toNatClampNeg = 13 * lw + q := e4
          rw [e5]
          rintro _ μ13 rfl v14 e14
          have hv14 := nx v14 e14
          have g1 : gu_ lw μ (km_sa (km_sa u 58 (12 * lw + q) (vp_nar .boolean l2)) 55 (13 * lw + q) (km_i u 59)) := gu_55 (gu_58 hg (by omega)) (by omega)
          have hR1 : ∀ cs, mR_ lw (RS ++ [(t_wd f t 7, cs)]) (km_sa (km_sa u 58 (12 * lw + q) (vp_nar .boolean l2)) 55 (13 * lw + q) (km_i u 59)) := by
            intro cs
            have := mR_new (a := t_wd f t 7) (cs := cs) (b := vp_nar .boolean l2) (c := km_i u 59) hR h2 h.2.2.2.2.1.1
            rw [hq] at this
            exact this
          have hq1 : mq_ f n lw (km_sa (km_sa u 58 (12 * lw + q) (vp_nar .boolean l2)) 55 (13 * lw + q) (km_i u 59)) 0 (p_ops RS) t (km_sa (km_sa u 58 (12 * lw + q) (vp_nar .boolean l2)) 55 (13 * lw + q) (km_i u 59)) := ⟨gq_refl, h.2.1, h.2.2.1, h.2.2.2.1, h.2.2.2.2.1, h.2.2.2.2.2⟩
          show vX12_step (km_sa (km_sa u 58 (12 * lw + q) (vp_nar .boolean l2)) 55 (13 * lw + q) (km_i u 59)) _
          generalize km_sa (km_sa u 58 (12 * lw + q) (vp_nar .boolean l2)) 55 (13 * lw + q) (km_i u 59) = w at *
          have Cw := m0_gt C g1
          refine ve_adv1 Cw hq1 d1 (fun u1 k1 => ?_)
          refine ve_expr Cw 8 10 0 (by decide) (Nat.le_refl _) 1 (p_ops RS) (p_adv f n t) u1 _ (Nat.le_refl 1) k1 (fun u2 k2 => ?_)
          have flt : ∀ (p : Nat) (u' : km_S), p_text f n (m + 1) q t = .inl p → mF_ lw w p u' → vX12_readLaw_133 (vX12_readLaw_6 (vX12_readLaw_147 Q) Q j) Q v14 u' := by
            intro p u' e h'
            rw [e] at kk
            unfold vX12_readLaw_133 vX12_readLaw_144
            exact ⟨fun _ => ve_6F C (gu_gf g1 h'.1) h'.2.1 h'.2.2 hv14 (by omega) kk j, fun x => absurd x h'.2.1⟩
          have et : p_text f n (m + 1) q t = match p_rule f n q t with
              | .inl p => .inl p
              | .inr (t2, cs) => match p_text f n m (q + 1) t2 with
                | .inl p => .inl p
                | .inr rs => .inr ((t_wd f t 7, cs) :: rs) := by
            show (if t.1 = 0 then (.inr [] : pt_T) else _) = _
            rw [if_neg d1]
            rfl
          revert k2 er
          cases p_expr f n 8 (p_adv f n t) with
          | inl p =>
            intro er k2
            have e : p_text f n (m + 1) q t = .inl p := by rw [et, er]; rfl
            exact ⟨fun _ => flt p u2 e k2, fun x => absurd x k2.2.1⟩
          | inr y =>
            obtain ⟨t2, cs⟩ := y
            intro er k2
            have k2 : mq_ f n lw w 1 (p_ops RS ++ cs) t2 u2 := k2
            refine ⟨fun x => absurd k2.2.1 x, fun _ => ?_⟩
            refine vm_isSign k2.2.2.1 (by decide) (fun e2 => ⟨fun _ => ?_, fun x => absurd x (by decide)⟩) (fun e2 => ⟨fun x => absurd rfl x, fun _ => ?_⟩)
            · have er2 : p_rule f n q t = .inr (p_adv f n t2, cs) := by
                rw [er, p_bind_r (show p_sg f n 59 t2 = .inr (p_adv f n t2, []) from if_pos e2), List.append_nil]
              unfold vX12_readLaw_133 vX12_readLaw_144
              refine ⟨fun x => absurd k2.2.1 x, fun _ => ve_adv1 Cw k2 (by rw [e2]; decide) (fun u3 k3 => ?_)⟩
              have eo : p_ops (RS ++ [(t_wd f t 7, cs)]) = p_ops RS ++ cs := by rw [p_ops_app, p_ops_one]
              refine ih m v14 (q + 1) (RS ++ [(t_wd f t 7, cs)]) (p_adv f n t2) u3 hv14 (by omega) (by omega) (by rw [List.length_append, hq]; rfl) (gu_gf g1 k3.1) (mR_gf (hR1 cs) k3.1) ?_ (fun u' h' => kk u' ?_)
              · rw [eo]
                exact ⟨gq_refl, k3.2.1, k3.2.2.1, k3.2.2.2.1, k3.2.2.2.2.1, by have := k3.2.2.2.2.2; omega⟩
              · rw [et, er2]
                show mz_ lw μ RS (match p_text f n m (q + 1) (p_adv f n t2) with
                  | .inl p => .inl p
                  | .inr rs => .inr ((t_wd f t 7, cs) :: rs)) u'
                revert h'
                cases p_text f n m (q + 1) (p_adv f n t2) with
                | inl p => intro h'; exact h'
                | inr rs =>
                  intro h'
                  have h' : gu_ lw μ u' ∧ km_i u' 66 = 0 ∧ mD_ lw (enc (p_ops ((RS ++ [(t_wd f t 7, cs)]) ++ rs))) u' ∧ mR_ lw ((RS ++ [(t_wd f t 7, cs)]) ++ rs) u' ∧ (km_a u' 55 (13 * lw + ((RS ++ [(t_wd f t 7, cs)]) ++ rs).length)).toInt = ((enc (p_ops ((RS ++ [(t_wd f t 7, cs)]) ++ rs))).length : Int) ∧ (km_a u' 54 lw).toInt = (((RS ++ [(t_wd f t 7, cs)]) ++ rs).length : Int) := h'
                  rw [List.append_assoc] at h'
                  exact h'
            · have er2 : p_rule f n q t = .inl t2.2.1 := by rw [er, p_bind_l (show p_sg f n 59 t2 = .inl t2.2.1 from if_neg e2)]
              have e : p_text f n (m + 1) q t = .inl t2.2.1 := by rw [et, er2]
              exact ve_wrong k2 (by decide) (fun u3 k3 => flt t2.2.1 u3 e k3)
        · have nq : q = 12 := by
            have := congrArg Int32.toInt c
            rw [hi, z12] at this
            omega
          exact bad 2 l2 (by decide) ((if_pos hw).trans (if_pos nq))
      refine ve_isWord Cu h (fun w => ⟨fun _ => go 1 (.inr w) (by rw [if_pos w]; rfl), fun x => absurd x (by decide)⟩) (fun w => ⟨fun x => absurd rfl x, fun _ => ?_⟩)
      refine ve_isWord Cu h (fun w2 => ⟨fun _ => go 0 (.inl w2) (by rw [if_neg (b_no w)]; rfl), fun x => absurd x (by decide)⟩) (fun w2 => ⟨fun x => absurd rfl x, fun _ => ?_⟩)
      exact bad 1 0 (by decide) (if_neg (fun x => x.elim (b_no w2) (b_no w)))
theorem ve_text {Q : km_S → Prop} (C : m0_ f n lw μ) (h60 : km_i μ 60 = 0) (h66 : km_i μ 66 = 0) (h59 : km_i μ 59 = 0) (kk : ∀ u', mz_ lw μ [] (p_text f n 13 0 (t_tok f n 0)) u' → Q u') : vX12_readLaw μ Q := by
  unfold vX12_readLaw
  refine vm_step (p := 0) C.2.1 C.1 (by rw [h60]; decide) (Nat.zero_le n) (fun u' c _ T' => ?_)
  intro j
  have g : gq_ lw μ u' := gq_mk gq_refl c
  refine ve_text6 C j 13 0 0 [] (t_tok f n 0) u' (by decide) rfl (by decide) rfl (gu_gf gu_refl g) (fun i r hr => absurd hr (by simp)) ⟨gq_refl, ?_, T', ⟨0, Nat.zero_le n, rfl⟩, ⟨?_, fun i hi => absurd hi (Nat.not_lt_zero i)⟩, Nat.zero_le _⟩ kk
  · rw [c.1 66 (by decide) (by decide) (by decide) (by decide) (by decide)]
    exact h66
  · rw [c.1 59 (by decide) (by decide) (by decide) (by decide) (by decide), h59]
    rfl
end
