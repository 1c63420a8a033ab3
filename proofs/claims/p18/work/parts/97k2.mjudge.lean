section
/-! the reference's judge -/
theorem l_getD_r2 {L M : List Int32} {i : Nat} : (L ++ M).getD (L.length + i) 0 = M.getD i 0 := by
  rw [List.getD_eq_getElem?_getD, List.getElem?_append_right (by omega), List.getD_eq_getElem?_getD]
  congr 2
  omega
def md_ (μ u : km_S) : Prop := (∀ j, j ≠ 68 → km_i u j = km_i μ j) ∧ (∀ g, g ≠ 57 → km_a u g = km_a μ g) ∧ u.2.2 = μ.2.2
theorem md_refl {μ : km_S} : md_ μ μ := ⟨fun _ _ => rfl, fun _ _ => rfl, rfl⟩
theorem md_trans {a b c : km_S} (h : md_ a b) (k : md_ b c) : md_ a c := ⟨fun j hj => (k.1 j hj).trans (h.1 j hj), fun g hg => (k.2.1 g hg).trans (h.2.1 g hg), k.2.2.trans h.2.2⟩
theorem md_si {μ u : km_S} {w : Int32} (h : md_ μ u) : md_ μ (km_si u 68 w) := by
  refine ⟨fun j hj => ?_, h.2.1, h.2.2⟩
  refine Eq.trans ?_ (h.1 j hj)
  show upd u.1 68 w j = u.1 j
  exact w_updN hj
theorem md_sa {μ u : km_S} {i : Nat} {w : Int32} (h : md_ μ u) : md_ μ (km_sa u 57 i w) := by
  refine ⟨h.1, fun g hg => ?_, h.2.2⟩
  refine Eq.trans ?_ (h.2.1 g hg)
  show (if g = 57 then _ else u.2.1 g) = u.2.1 g
  exact if_neg hg
def ms_ (μ : km_S) (s : e_T) (u : km_S) : Prop := md_ μ u ∧ (km_i u 68).toInt = (s.1 : Int) ∧ ∀ i, i < s.1 → km_a u 57 i = s.2 i
def e_mn (g : Nat) (r : Int32) (μ : km_S) (k : Nat) : Int32 := match k with
  | 0 => km_a μ 35 g
  | 1 => km_a μ 36 g
  | 2 => km_a μ 37 g
  | 3 => km_i μ 2 - km_i μ 2 / 24 * 24
  | 4 => km_i μ 2 / 24
  | 5 => r
  | _ => km_a μ 41 g
theorem ki_rsub {k c : Int32} {z : Int} (hk : k.toInt = z) (h1 : -2147483648 ≤ z - c.toInt) (h2 : z - c.toInt < 2147483648) : ∃ w, w = k - c ∧ w.toInt = z - c.toInt := ⟨k - c, rfl, by rw [ki_sub (by rw [hk]; exact h1) (by rw [hk]; exact h2), hk]⟩
theorem vt_value {μ u : km_S} {v gI r : Int32} {g : Nat} {Q : Int32 → km_S → Prop} (h : md_ μ u) (eg : gI.toNatClampNeg = g) (h0 : 0 ≤ v.toInt) (h7 : v.toInt < 7) (kk : Q (e_mn g r μ v.toNatClampNeg) u) : vX12_value v gI r u Q := by
  unfold vX12_value
  intro v1 e1
  rw [e1, eg, h.2.1 35 (by decide), h.2.1 36 (by decide), h.2.1 37 (by decide), h.2.1 41 (by decide), h.1 2 (by decide)]
  refine ⟨fun e _ => ?_, fun e _ => ?_, fun e _ => ?_, fun e => ?_, fun e => ?_, fun e => ?_, fun n0 n1 n2 n3 n4 n5 _ => ?_⟩
  · rw [e, show (0 : Int32).toNatClampNeg = 0 by decide] at kk; exact kk
  · rw [e, show (1 : Int32).toNatClampNeg = 1 by decide] at kk; exact kk
  · rw [e, show (2 : Int32).toNatClampNeg = 2 by decide] at kk; exact kk
  · rw [e, show (3 : Int32).toNatClampNeg = 3 by decide] at kk; exact kk
  · rw [e, show (4 : Int32).toNatClampNeg = 4 by decide] at kk; exact kk
  · rw [e, show (5 : Int32).toNatClampNeg = 5 by decide] at kk; exact kk
  · have e6 : v.toNatClampNeg = 6 := by
      rw [ki_eq, show (0 : Int32).toInt = 0 by decide] at n0
      rw [ki_eq, show (1 : Int32).toInt = 1 by decide] at n1
      rw [ki_eq, show (2 : Int32).toInt = 2 by decide] at n2
      rw [ki_eq, show (3 : Int32).toInt = 3 by decide] at n3
      rw [ki_eq, show (4 : Int32).toInt = 4 by decide] at n4
      rw [ki_eq, show (5 : Int32).toInt = 5 by decide] at n5
      rw [ki_nat]
      omega
    rw [e6] at kk
    exact kk
theorem vt_two {c a b : Int32} {u : km_S} {Q : Int32 → km_S → Prop} (h1 : ¬ -8 < c.toInt) (h2 : -16 < c.toInt) (kk : Q (e_join c a b) u) : vX12_two (-7 - c) a b u Q := by
  rcases e_cases h1 h2 with rfl | rfl | rfl | rfl | rfl | rfl | rfl | rfl
  · rw [e_j8] at kk
    rw [show (-7 - -8 : Int32) = 1 by decide]
    unfold vX12_two
    rintro _ rfl
    exact ⟨fun _ => kk, fun q => absurd q (by decide), fun q => absurd q (by decide), fun q => absurd q (by decide), fun q => absurd q (by decide), fun q => absurd q (by decide), fun q => absurd q (by decide), fun m1 m2 m3 m4 m5 m6 m7 => absurd rfl m1⟩
  · rw [e_j9] at kk
    rw [show (-7 - -9 : Int32) = 2 by decide]
    unfold vX12_two
    rintro _ rfl
    exact ⟨fun q => absurd q (by decide), fun _ => kk, fun q => absurd q (by decide), fun q => absurd q (by decide), fun q => absurd q (by decide), fun q => absurd q (by decide), fun q => absurd q (by decide), fun m1 m2 m3 m4 m5 m6 m7 => absurd rfl m2⟩
  · rw [e_j10] at kk
    rw [show (-7 - -10 : Int32) = 3 by decide]
    unfold vX12_two
    rintro _ rfl
    exact ⟨fun q => absurd q (by decide), fun q => absurd q (by decide), fun _ => kk, fun q => absurd q (by decide), fun q => absurd q (by decide), fun q => absurd q (by decide), fun q => absurd q (by decide), fun m1 m2 m3 m4 m5 m6 m7 => absurd rfl m3⟩
  · rw [e_j11] at kk
    rw [show (-7 - -11 : Int32) = 4 by decide]
    unfold vX12_two
    rintro _ rfl
    exact ⟨fun q => absurd q (by decide), fun q => absurd q (by decide), fun q => absurd q (by decide), fun _ => ⟨fun q => ⟨fun q2 _ => by rw [if_neg q] at kk; exact kk, fun q2 => by rw [if_neg q, q2, e_div] at kk; exact kk⟩, fun q => by rw [if_pos q] at kk; exact kk⟩, fun q => absurd q (by decide), fun q => absurd q (by decide), fun q => absurd q (by decide), fun m1 m2 m3 m4 m5 m6 m7 => absurd rfl m4⟩
  · rw [e_j12] at kk
    rw [show (-7 - -12 : Int32) = 5 by decide]
    unfold vX12_two
    rintro _ rfl
    exact ⟨fun q => absurd q (by decide), fun q => absurd q (by decide), fun q => absurd q (by decide), fun q => absurd q (by decide), fun _ => ⟨fun q => by rw [if_pos q] at kk; exact kk, fun q => by rw [if_neg q] at kk; exact kk⟩, fun q => absurd q (by decide), fun q => absurd q (by decide), fun m1 m2 m3 m4 m5 m6 m7 => absurd rfl m5⟩
  · rw [e_j13] at kk
    rw [show (-7 - -13 : Int32) = 6 by decide]
    unfold vX12_two
    rintro _ rfl
    exact ⟨fun q => absurd q (by decide), fun q => absurd q (by decide), fun q => absurd q (by decide), fun q => absurd q (by decide), fun q => absurd q (by decide), fun _ => ⟨fun q => by rw [if_neg q] at kk; exact kk, fun q => by rw [if_pos q] at kk; exact kk⟩, fun q => absurd q (by decide), fun m1 m2 m3 m4 m5 m6 m7 => absurd rfl m6⟩
  · rw [e_j14] at kk
    rw [show (-7 - -14 : Int32) = 7 by decide]
    unfold vX12_two
    rintro _ rfl
    exact ⟨fun q => absurd q (by decide), fun q => absurd q (by decide), fun q => absurd q (by decide), fun q => absurd q (by decide), fun q => absurd q (by decide), fun q => absurd q (by decide), fun _ => ⟨fun q => by rw [if_pos q] at kk; exact kk, fun q => ⟨fun r => by rw [if_neg q, if_pos r] at kk; exact kk, fun r => by rw [if_neg q, if_neg r] at kk; exact kk⟩⟩, fun m1 m2 m3 m4 m5 m6 m7 => absurd rfl m7⟩
  · rw [e_j15] at kk
    rw [show (-7 - -15 : Int32) = 8 by decide]
    unfold vX12_two
    rintro _ rfl
    exact ⟨fun q => absurd q (by decide), fun q => absurd q (by decide), fun q => absurd q (by decide), fun q => absurd q (by decide), fun q => absurd q (by decide), fun q => absurd q (by decide), fun q => absurd q (by decide), fun _ _ _ _ _ _ _ => ⟨fun q => by rw [if_neg q] at kk; exact kk, fun q => ⟨fun r => by rw [if_pos q, if_pos r] at kk; exact kk, fun r => by rw [if_pos q, if_neg r] at kk; exact kk⟩⟩⟩
section
variable {μ : km_S} {gI r : Int32} {g : Nat}
theorem vt_told8 {Q : Int32 → km_S → Prop} {L : List Int32} {a : Nat} {l2 : Int32} (eg : gI.toNatClampNeg = g) (ha : a ≤ 6000) (hlen : L.length ≤ 500) (hto : l2.toInt = ((a + (enc L).length : Nat) : Int)) (hcode : ∀ i, i < (enc L).length → km_a μ 56 (a + i) = (enc L).getD i 0) : ∀ (j : Nat) (R P : List Int32) (s : e_T) (l5 : Int32) (u : km_S), L = P ++ R → l5.toInt = ((a + (enc P).length : Nat) : Int) → s.1 ≤ 33 → ed_ 33 R s.1 1 → ms_ μ s u → (∀ u', ms_ μ (e_run (e_mn g r μ) R s) u' → Q ((e_run (e_mn g r μ) R s).2 0) u') → vX12_told_8 (vX12_told_193 Q) Q j l2 gI r l5 u := by
  have m7 : (-7 : Int32).toInt = -7 := by decide
  have m8 : (-8 : Int32).toInt = -8 := by decide
  have p19 : (19 : Int32).toInt = 19 := by decide
  have p20 : (20 : Int32).toInt = 20 := by decide
  have eL := enc_len L
  intro j
  induction j with
  | zero => intro _ _ _ _ _ _ _ _ _ _ _; exact trivial
  | succ j ih =>
    intro R P s l5 u hL hl h33 hed h kk
    obtain ⟨h1, h2, h3⟩ := h
    unfold vX12_told_8
    rw [ki_le, hto, hl]
    have nx : ∀ (v1 w : Int32) (q : Nat), v1 = w + 1 → w.toInt = (q : Int) → q ≤ 10000 → v1.toInt = ((q + 1 : Nat) : Int) := by
      intro v1 w q e hw hq
      rw [e, ki_add (by rw [hw, ki_z1]; omega) (by rw [hw, ki_z1]; omega), hw, ki_z1]
      omega
    cases R with
    | nil =>
      rw [List.append_nil] at hL
      subst hL
      refine ⟨fun _ => ?_, fun c => absurd (Int.le_refl _) c⟩
      have hs : s.1 = 1 := hed
      unfold vX12_told_193
      have e0 : km_a u 57 (Int32.toNatClampNeg 0) = s.2 0 := h3 0 (by omega)
      rw [e0]
      exact kk u ⟨h1, h2, h3⟩
    | cons c R =>
      have eLs : enc L = enc P ++ (enc1 c ++ enc R) := by
        rw [hL, enc_app]
        show enc P ++ enc (c :: R) = _
        rw [show enc (c :: R) = enc1 c ++ enc R from List.flatMap_cons]
      have eLl : (enc L).length = (enc P).length + ((enc1 c).length + (enc R).length) := by rw [eLs, List.length_append, List.length_append]
      have hP : L = (P ++ [c]) ++ R := by rw [hL, List.append_assoc]; rfl
      have eP : (enc (P ++ [c])).length = (enc P).length + (enc1 c).length := by rw [enc_app, enc_one, List.length_append]
      have pos1 : 1 ≤ (enc1 c).length := by
        unfold enc1
        split
        · exact Nat.le_succ 1
        · split <;> exact Nat.le_refl 1
      have code : ∀ i, i < (enc1 c).length → km_a u 56 (a + ((enc P).length + i)) = (enc1 c).getD i 0 := by
        intro i hi
        rw [h1.2.1 56 (by decide), hcode _ (by omega), eLs, l_getD_r2, l_getD_l hi]
      have ei : l5.toNatClampNeg = a + ((enc P).length + 0) := by rw [ki_nat, hl]; omega
      refine ⟨fun x => absurd x (by omega), fun _ _ => ?_⟩
      rw [ei, code 0 (by omega)]
      rintro v6 rfl
      unfold ed_ at hed
      have kk : ∀ u', ms_ μ (e_run (e_mn g r μ) R (e_st (e_mn g r μ) s c)) u' → Q ((e_run (e_mn g r μ) R (e_st (e_mn g r μ) s c)).2 0) u' := kk
      by_cases ps : -8 < c.toInt
      · rw [if_pos ps] at hed
        have es : e_st (e_mn g r μ) s c = (s.1 + 1, upd s.2 s.1 (if 0 ≤ c.toInt then c else e_mn g r μ (-1 - c).toNatClampNeg)) := if_pos ps
        rw [es] at kk
        have e68 : (km_i u 68).toNatClampNeg = s.1 := by rw [ki_nat, h2]; omega
        have push : ∀ (v : Int32), ms_ μ (s.1 + 1, upd s.2 s.1 v) (km_si (km_sa u 57 s.1 v) 68 (km_i u 68 + 1)) := by
          intro v
          refine ⟨md_si (md_sa h1), ?_, fun i hi => ?_⟩
          · show (upd u.1 68 (km_i u 68 + 1) 68).toInt = ((s.1 + 1 : Nat) : Int)
            rw [w_updS, ki_add (by rw [h2, ki_z1]; omega) (by rw [h2, ki_z1]; omega), h2, ki_z1]
            omega
          · have hi : i < s.1 + 1 := hi
            show upd (u.2.1 57) s.1 v i = upd s.2 s.1 v i
            by_cases q : i = s.1
            · rw [q, w_updS, w_updS]
            · rw [w_updN q, w_updN q]
              exact h3 i (by omega)
        by_cases c0 : 0 ≤ c.toInt
        · have en : enc1 c = [0, c] := if_pos (by rw [ki_le, ki_z0]; exact c0)
          rw [if_pos c0] at kk
          have e2 : (enc (P ++ [c])).length = (enc P).length + 2 := by rw [eP, en]; rfl
          have c1 := code 1 (by rw [en]; show 1 < 2; omega)
          rw [en] at c1
          rw [en]
          refine ⟨fun x => absurd rfl x, fun _ => ?_⟩
          rintro v24 e24 _ _ μ27 rfl μ28 rfl
          have hv24 := nx v24 l5 _ e24 hl (by rw [eLl] at eL; omega)
          have ev : v24.toNatClampNeg = a + ((enc P).length + 1) := by rw [ki_nat, hv24]; omega
          rw [ev, c1, e68]
          unfold vX12_told_187
          intro v1 e1
          have hv1 := nx v1 v24 _ e1 hv24 (by rw [eLl] at eL; omega)
          refine ih R (P ++ [c]) (s.1 + 1, upd s.2 s.1 c) v1 _ hP ?_ (by show s.1 + 1 ≤ 33; omega) hed.2 (push c) (fun u' h' => kk u' h')
          rw [hv1, e2]
          omega
        · have n0 : ¬ (0 : Int32) ≤ c := by rw [ki_le, ki_z0]; exact c0
          obtain ⟨w, ew, hw⟩ := ki_rsub (c := c) p19 (by omega) (by omega)
          have en : enc1 c = [w] := by
            rw [ew]
            exact (if_neg n0).trans (if_pos (by rw [ki_lt, m8]; exact ps))
          rw [if_neg c0] at kk
          have e2 : (enc (P ++ [c])).length = (enc P).length + 1 := by rw [eP, en]; rfl
          rw [en]
          show (¬ w = 0 → _) ∧ _
          obtain ⟨y, ey, hy⟩ := ki_rsub (c := c) ki_zm (by omega) (by omega)
          rw [← ey] at kk
          refine ⟨fun _ => ⟨fun x => ?_, fun _ => ?_⟩, fun x => ?_⟩
          · have x : w < 20 := x
            rw [ki_lt, hw, p20] at x
            omega
          · have ev : w - 20 = y := by
              rw [ki_eq, ki_sub (by rw [hw, p20]; omega) (by rw [hw, p20]; omega), hw, p20, hy]
              omega
            show vX12_value (w - 20) gI r u _
            rw [ev]
            refine vt_value h1 eg (by rw [hy]; omega) (by rw [hy]; omega) ?_
            rintro _ μ22 rfl μ23 rfl
            rw [e68]
            unfold vX12_told_187
            intro v1 e1
            have hv1 := nx v1 l5 _ e1 hl (by rw [eLl] at eL; omega)
            refine ih R (P ++ [c]) (s.1 + 1, upd s.2 s.1 (e_mn g r μ y.toNatClampNeg)) v1 _ hP ?_ (by show s.1 + 1 ≤ 33; omega) hed.2 (push _) (fun u' h' => kk u' h')
            rw [hv1, e2]
            omega
          · have x : w = 0 := x
            rw [ki_eq, hw, ki_z0] at x
            omega
      · rw [if_neg ps] at hed
        have n0 : ¬ (0 : Int32) ≤ c := by rw [ki_le, ki_z0]; omega
        have n8 : ¬ (-8 : Int32) < c := by rw [ki_lt, m8]; exact ps
        have lo : -16 ≤ c.toInt := by
          split at hed
          · omega
          · omega
        obtain ⟨w, ew, hw⟩ := ki_rsub (c := c) m7 (by omega) (by omega)
        have en : enc1 c = [w] := by
          rw [ew]
          exact (if_neg n0).trans (if_neg n8)
        have e2 : (enc (P ++ [c])).length = (enc P).length + 1 := by rw [eP, en]; rfl
        rw [en]
        show (¬ w = 0 → _) ∧ _
        refine ⟨fun _ => ⟨fun _ => ?_, fun x => ?_⟩, fun x => ?_⟩
        · by_cases c16 : c.toInt = -16
          · rw [if_pos c16] at hed
            have es : e_st (e_mn g r μ) s c = (s.1, upd s.2 (s.1 - 1) (if s.2 (s.1 - 1) = 0 then 1 else 0)) := (if_neg ps).trans (if_pos c16)
            rw [es] at kk
            have e9 : w = 9 := ki_eq.2 (by rw [hw, c16]; decide)
            refine ⟨fun x => absurd e9 x, fun _ _ => ?_⟩
            have h1' := hed.1
            obtain ⟨t, et, ht⟩ : ∃ t, t = km_i u 68 - 1 ∧ t.toInt = ((s.1 - 1 : Nat) : Int) := ⟨_, rfl, by
              rw [ki_sub (by rw [h2, ki_z1]; omega) (by rw [h2, ki_z1]; omega), h2, ki_z1]
              omega⟩
            rw [← et]
            have e68 : t.toNatClampNeg = s.1 - 1 := by rw [ki_nat, ht]; omega
            have fin : ∀ v : Int32, v = (if s.2 (s.1 - 1) = 0 then 1 else 0) → vX12_told_137 (vX12_told_187 (vX12_told_8 (vX12_told_193 Q) Q j) Q) Q l2 gI r l5 v t u := by
              intro v ev
              unfold vX12_told_137 vX12_told_187
              rw [e68]
              rintro _ μ3 rfl v1 e1
              have hv1 := nx v1 l5 _ e1 hl (by rw [eLl] at eL; omega)
              refine ih R (P ++ [c]) (s.1, upd s.2 (s.1 - 1) (if s.2 (s.1 - 1) = 0 then 1 else 0)) v1 _ hP ?_ h33 hed.2 ⟨md_sa h1, h2, fun i hi => ?_⟩ (fun u' h' => kk u' h')
              · rw [hv1, e2]
                omega
              · have hi : i < s.1 := hi
                show upd (u.2.1 57) (s.1 - 1) v i = upd s.2 (s.1 - 1) (if s.2 (s.1 - 1) = 0 then 1 else 0) i
                rw [← ev]
                by_cases q : i = s.1 - 1
                · rw [q, w_updS, w_updS]
                · rw [w_updN q, w_updN q]
                  exact h3 i hi
            rw [e68, h3 (s.1 - 1) (by omega)]
            exact ⟨fun q => fin 0 (if_neg q).symm, fun q => fin 1 (if_pos q).symm⟩
          · rw [if_neg c16] at hed
            obtain ⟨g1, g2, g3⟩ := hed
            have es : e_st (e_mn g r μ) s c = (s.1 - 1, upd s.2 (s.1 - 2) (e_join c (s.2 (s.1 - 2)) (s.2 (s.1 - 1)))) := (if_neg ps).trans (if_neg c16)
            rw [es] at kk
            have n9 : ¬ w = 9 := by
              rw [ki_eq, hw, show (9 : Int32).toInt = 9 by decide]
              omega
            refine ⟨fun _ => ?_, fun x => absurd x n9⟩
            rintro μ10 rfl _ _
            obtain ⟨t, et, ht⟩ : ∃ t, t = km_i u 68 - 1 ∧ t.toInt = ((s.1 - 1 : Nat) : Int) := ⟨_, rfl, by
              rw [ki_sub (by rw [h2, ki_z1]; omega) (by rw [h2, ki_z1]; omega), h2, ki_z1]
              omega⟩
            rw [← et]
            have x68 : km_i (km_si u 68 t) 68 = t := by
              show upd u.1 68 t 68 = t
              exact w_updS
            obtain ⟨t2, et2, ht2⟩ : ∃ t2, t2 = t - 1 ∧ t2.toInt = ((s.1 - 2 : Nat) : Int) := ⟨_, rfl, by
              rw [ki_sub (by rw [ht, ki_z1]; omega) (by rw [ht, ki_z1]; omega), ht, ki_z1]
              omega⟩
            have i1 : t.toNatClampNeg = s.1 - 1 := by rw [ki_nat, ht]; omega
            have i2 : t2.toNatClampNeg = s.1 - 2 := by rw [ki_nat, ht2]; omega
            rw [x68, ← et2, i1, i2]
            have a1 : km_a (km_si u 68 t) 57 (s.1 - 1) = s.2 (s.1 - 1) := h3 _ (by omega)
            have a2 : km_a (km_si u 68 t) 57 (s.1 - 2) = s.2 (s.1 - 2) := h3 _ (by omega)
            rw [a1, a2]
            show vX12_two w _ _ _ _
            rw [ew]
            refine vt_two ps g1 ?_
            rintro _ μ16 rfl
            unfold vX12_told_187
            intro v1 e1
            have hv1 := nx v1 l5 _ e1 hl (by rw [eLl] at eL; omega)
            refine ih R (P ++ [c]) (s.1 - 1, upd s.2 (s.1 - 2) (e_join c (s.2 (s.1 - 2)) (s.2 (s.1 - 1)))) v1 _ hP ?_ (by show s.1 - 1 ≤ 33; omega) g3 ⟨md_sa (md_si h1), ?_, fun i hi => ?_⟩ (fun u' h' => kk u' h')
            · rw [hv1, e2]
              omega
            · show (km_i (km_si u 68 t) 68).toInt = ((s.1 - 1 : Nat) : Int)
              rw [x68]
              exact ht
            · have hi : i < s.1 - 1 := hi
              show upd (u.2.1 57) (s.1 - 2) _ i = upd s.2 (s.1 - 2) _ i
              by_cases q : i = s.1 - 2
              · rw [q, w_updS, w_updS]
              · rw [w_updN q, w_updN q]
                exact h3 i (by omega)
        · exfalso
          apply x
          show w < 20
          rw [ki_lt, hw, p20]
          omega
        · have x : w = 0 := x
          rw [ki_eq, hw, ki_z0] at x
          omega
theorem vt_told {Q : Int32 → km_S → Prop} {L : List Int32} {a : Nat} {l1 l2 : Int32} {u : km_S} (eg : gI.toNatClampNeg = g) (ha : a ≤ 6000) (hlen : L.length ≤ 500) (hfr : l1.toInt = (a : Int)) (hto : l2.toInt = ((a + (enc L).length : Nat) : Int)) (hcode : ∀ i, i < (enc L).length → km_a μ 56 (a + i) = (enc L).getD i 0) (hed : ed_ 33 L 0 1) (hu : md_ μ u) (kk : ∀ u', md_ μ u' → Q (e_val (e_mn g r μ) L) u') : vX12_told l1 l2 gI r u Q := by
  unfold vX12_told
  rintro μ29 rfl j
  refine vt_told8 eg ha hlen hto hcode j L [] (0, fun _ => 0) l1 _ rfl ?_ (by decide) hed ⟨md_si hu, ?_, fun i hi => absurd hi (Nat.not_lt_zero i)⟩ (fun u' h' => kk u' h'.1)
  · rw [hfr]
    rfl
  · show (upd u.1 68 0 68).toInt = _
    rw [w_updS]
    rfl
/-- a law in the reference -/
def mL_ (l : Nat) (R : List (Bool × List Int32)) (μ : km_S) : Prop := (km_a μ 54 l).toInt = (R.length : Int) ∧ R.length ≤ 12 ∧ mR_ l R μ ∧ (km_a μ 55 (13 * l + R.length)).toInt = ((enc (p_ops R)).length : Int) ∧ (∀ i, i < (enc (p_ops R)).length → km_a μ 56 (900 * l + i) = (enc (p_ops R)).getD i 0) ∧ (∀ x ∈ R, ed_ 33 x.2 0 1) ∧ (p_ops R).length ≤ 500
theorem vt_71 {Q : Int32 → km_S → Prop} {R : List (Bool × List Int32)} {l : Nat} {l4 : Int32} (eg : gI.toNatClampNeg = g) (hl6 : l < 6) (hl4 : l4.toInt = (l : Int)) (hL : mL_ l R μ) : ∀ (j q : Nat) (l5 l6 : Int32) (u : km_S), l6.toInt = (q : Int) → q ≤ R.length → (l5 = 0 ∨ l5 = 1) → md_ μ u → (∀ u', md_ μ u' → Q (if l5 = 1 ∨ e_bar (e_mn g r μ) (R.drop q) = true then 1 else 0) u') → vX12_ruled_71 Q j 0 gI r l4 l5 l6 u := by
  obtain ⟨b1, b2, b3, b4, b5, b6, b7⟩ := hL
  have z12 : (12 : Int32).toInt = 12 := by decide
  have z13 : (13 : Int32).toInt = 13 := by decide
  have z900 : (900 : Int32).toInt = 900 := by decide
  have el : l4.toNatClampNeg = l := by rw [ki_nat, hl4]; omega
  have nm1 : ¬ l4 = -1 := by rw [ki_eq, ki_zm]; omega
  have eE := enc_len (p_ops R)
  intro j
  induction j with
  | zero => intro _ _ _ _ _ _ _ _ _; exact trivial
  | succ j ih =>
    intro q l5 l6 u hq hqR h5 hu kk
    unfold vX12_ruled_71
    refine ⟨fun x => absurd x nm1, fun _ _ => ?_⟩
    rw [el, hu.2.1 54 (by decide), ki_le, b1, hq]
    refine ⟨fun c => ?_, fun c _ => ?_⟩
    · have : q = R.length := by omega
      rw [this, List.drop_length] at kk
      have e : (if l5 = 1 ∨ e_bar (e_mn g r μ) [] = true then (1 : Int32) else 0) = l5 := by
        rcases h5 with e | e
        · rw [e, if_neg]
          rintro (x | x)
          · exact absurd x (by decide)
          · exact absurd x (by unfold e_bar; simp)
        · rw [e, if_pos (.inl rfl)]
      rw [e] at kk
      exact kk u hu
    · have hlt : q < R.length := by omega
      obtain ⟨x, hx⟩ : ∃ x, R[q]? = some x := ⟨R[q], List.getElem?_eq_getElem hlt⟩
      obtain ⟨r1, r2⟩ := b3 q x hx
      have ed : R.drop q = x :: R.drop (q + 1) := by
        rw [List.drop_eq_getElem_cons hlt]
        rw [List.getElem?_eq_getElem hlt] at hx
        rw [Option.some.inj hx]
      have hxm : x ∈ R := List.mem_of_getElem? hx
      have e12 : (12 * l4).toInt = 12 * (l : Int) := by rw [ki_mul (by rw [z12, hl4]; omega) (by rw [z12, hl4]; omega), z12, hl4]
      have i58 : (12 * l4 + l6).toNatClampNeg = 12 * l + q := by
        rw [ki_nat, ki_add (by rw [e12, hq]; omega) (by rw [e12, hq]; omega), e12, hq]
        omega
      have e13 : (13 * l4).toInt = 13 * (l : Int) := by rw [ki_mul (by rw [z13, hl4]; omega) (by rw [z13, hl4]; omega), z13, hl4]
      have t55 : (13 * l4 + l6).toInt = ((13 * l + q : Nat) : Int) := by
        rw [ki_add (by rw [e13, hq]; omega) (by rw [e13, hq]; omega), e13, hq]
        omega
      have i55 : (13 * l4 + l6).toNatClampNeg = 13 * l + q := by rw [ki_nat, t55]; omega
      have i56 : (13 * l4 + l6 + 1).toNatClampNeg = 13 * l + (q + 1) := by
        rw [ki_nat, ki_add (by rw [t55, ki_z1]; omega) (by rw [t55, ki_z1]; omega), t55, ki_z1]
        omega
      have nx : ∀ v1 : Int32, v1 = l6 + 1 → v1.toInt = ((q + 1 : Nat) : Int) := by
        intro v1 e
        rw [e, ki_add (by rw [hq, ki_z1]; omega) (by rw [hq, ki_z1]; omega), hq, ki_z1]
        omega
      have eb : e_bar (e_mn g r μ) (R.drop q) = ((!x.1 && decide (¬ e_val (e_mn g r μ) x.2 = 0)) || e_bar (e_mn g r μ) (R.drop (q + 1))) := by
        rw [ed]
        unfold e_bar
        rw [List.any_cons]
      rw [i58, hu.2.1 58 (by decide), r1]
      refine ⟨fun c2 => ?_, fun c2 => ?_⟩
      · have hx1 : x.1 = false := by
          cases y : x.1 with
          | false => rfl
          | true => rw [y, if_pos rfl] at c2; exact absurd c2 (by decide)
        rintro v15 rfl _ _
        rw [i55, i56, hu.2.1 55 (by decide)]
        have sp : p_ops R = p_ops (R.take q) ++ (x.2 ++ p_ops (R.drop (q + 1))) := by
          conv => lhs; rw [← List.take_append_drop q R, ed]
          rw [p_ops_app]
          rfl
        have spE : enc (p_ops R) = enc (p_ops (R.take q)) ++ (enc x.2 ++ enc (p_ops (R.drop (q + 1)))) := by rw [sp, enc_app, enc_app]
        have spL : (enc (p_ops R)).length = (enc (p_ops (R.take q))).length + ((enc x.2).length + (enc (p_ops (R.drop (q + 1)))).length) := by rw [spE, List.length_append, List.length_append]
        have xl : x.2.length ≤ 500 := by
          have : (p_ops R).length = (p_ops (R.take q)).length + (x.2.length + (p_ops (R.drop (q + 1))).length) := by rw [sp, List.length_append, List.length_append]
          omega
        have r3 : (km_a μ 55 (13 * l + (q + 1))).toInt = (((enc (p_ops (R.take q))).length + (enc x.2).length : Nat) : Int) := by
          have tk : p_ops (R.take (q + 1)) = p_ops (R.take q) ++ x.2 := by
            rw [List.take_add_one, hx, p_ops_app]
            show p_ops (R.take q) ++ p_ops [x] = _
            rw [p_ops_one]
          by_cases c3 : q + 1 < R.length
          · obtain ⟨y, hy⟩ : ∃ y, R[q + 1]? = some y := ⟨R[q + 1], List.getElem?_eq_getElem c3⟩
            rw [(b3 (q + 1) y hy).2, tk, enc_app, List.length_append]
          · have e : q + 1 = R.length := by omega
            rw [e, b4]
            rw [e, List.take_length] at tk
            rw [tk, enc_app, List.length_append]
        have e900 : (900 * l4).toInt = 900 * (l : Int) := by rw [ki_mul (by rw [z900, hl4]; omega) (by rw [z900, hl4]; omega), z900, hl4]
        refine vt_told (a := 900 * l + (enc (p_ops (R.take q))).length) (L := x.2) eg (by omega) xl ?_ ?_ (fun i hi => ?_) (b6 x hxm) hu (fun u' h' => ?_)
        · rw [ki_add (by rw [e900, r2]; omega) (by rw [e900, r2]; omega), e900, r2]
          omega
        · rw [ki_add (by rw [e900, r3]; omega) (by rw [e900, r3]; omega), e900, r3]
          omega
        · rw [Nat.add_assoc, b5 _ (by omega), spE, l_getD_r2, l_getD_l hi]
        · refine ⟨fun _ => ?_, fun y => absurd rfl y⟩
          rw [eb, hx1] at kk
          unfold vX12_ruled_180 vX12_ruled_182
          refine ⟨fun z v1 e1 => ih (q + 1) l5 v1 u' (nx v1 e1) (by omega) h5 h' (fun u2 h2 => ?_), fun z v1 e1 => ih (q + 1) 1 v1 u' (nx v1 e1) (by omega) (.inr rfl) h' (fun u2 h2 => ?_)⟩
          · have := kk u2 h2
            simp [z] at this
            exact this
          · have := kk u2 h2
            simp [z] at this
            simp
            exact this
      · have hx1 : x.1 = true := by
          cases y : x.1 with
          | true => rfl
          | false => rw [y, if_neg (by decide)] at c2; exact absurd rfl c2
        rw [eb, hx1] at kk
        unfold vX12_ruled_182
        intro v1 e1
        refine ih (q + 1) l5 v1 u (nx v1 e1) (by omega) h5 hu (fun u2 h2 => ?_)
        have := kk u2 h2
        simp at this
        exact this
def lI_ : Option Nat → Int32
  | none => -1
  | some q => nI q
theorem vt_ruled {Q : Int32 → km_S → Prop} {m : Nat} {day : Nat → Int32} {RL : Nat → List (Bool × List Int32)} (eg : gI.toNatClampNeg = g) (h5 : (km_i μ 5).toInt = (m : Int)) (hm : m ≤ 6) (hday : ∀ i, i < m → km_a μ 53 i = day i) (hL : ∀ l, l < m → mL_ l (RL l) μ) (kk : ∀ u', md_ μ u' → Q (if e_barO (e_mn g r μ) ((lf_ day (km_i μ 2 / 24) m 0 none).map RL) = true then 1 else 0) u') : vX12_ruled 0 gI r μ Q := by
  unfold vX12_ruled
  have fin : ∀ l : Option Nat, (∀ q, l = some q → q < m) → (∀ u', md_ μ u' → Q (if e_barO (e_mn g r μ) (l.map RL) = true then 1 else 0) u') → vX12_ruled_65 Q 0 gI r (lI_ l) μ := by
    intro l hl kl
    unfold vX12_ruled_65
    intro j
    cases l with
    | none =>
      cases j with
      | zero => exact trivial
      | succ j =>
        unfold vX12_ruled_71
        exact ⟨fun _ => kl μ md_refl, fun x => absurd rfl x⟩
    | some q =>
      have hq := hl q rfl
      refine vt_71 (l := q) eg (by omega) (t_nI (by omega)) (hL q hq) j 0 0 0 μ (by decide) (Nat.zero_le _) (.inl rfl) md_refl (fun u' h' => ?_)
      have := kl u' h'
      have e : (if e_barO (e_mn g r μ) ((some q).map RL) = true then (1 : Int32) else 0) = if (0 : Int32) = 1 ∨ e_bar (e_mn g r μ) ((RL q).drop 0) = true then 1 else 0 := by
        show (if e_bar (e_mn g r μ) (RL q) = true then (1 : Int32) else 0) = if (0 : Int32) = 1 ∨ e_bar (e_mn g r μ) (RL q) = true then 1 else 0
        by_cases z : e_bar (e_mn g r μ) (RL q) = true
        · rw [if_pos z, if_pos (.inr z)]
        · rw [if_neg z, if_neg]
          rintro (y | y)
          · exact absurd y (by decide)
          · exact z y
      rw [← e]
      exact this
  have loop : ∀ (j k p : Nat) (i : Int32) (l : Option Nat), i.toInt = (p : Int) → p + k = m → (∀ q, l = some q → q < m) → (∀ u', md_ μ u' → Q (if e_barO (e_mn g r μ) ((lf_ day (km_i μ 2 / 24) k p l).map RL) = true then 1 else 0) u') → vX12_ruled_6 (vX12_ruled_65 Q) Q j 0 gI r (lI_ l) i μ := by
    intro j
    induction j with
    | zero => intro _ _ _ _ _ _ _ _; exact trivial
    | succ j ih =>
      intro k p i l hi hp hl kq
      unfold vX12_ruled_6
      rw [ki_le, h5, hi]
      refine ⟨fun c => ?_, fun c _ => ?_⟩
      · have : k = 0 := by omega
        subst this
        exact fin l hl kq
      · obtain ⟨k, rfl⟩ : ∃ q, k = q + 1 := ⟨k - 1, by omega⟩
        have ei : i.toNatClampNeg = p := by rw [ki_nat, hi]; omega
        rw [ei, hday p (by omega)]
        have nx : ∀ v1 : Int32, v1 = i + 1 → v1.toInt = ((p + 1 : Nat) : Int) := by
          intro v1 e
          rw [e, ki_add (by rw [hi, ki_z1]; omega) (by rw [hi, ki_z1]; omega), hi, ki_z1]
          omega
        have ip : i = lI_ (some p) := ki_eq.2 (by rw [hi]; exact (t_nI (by omega)).symm)
        rw [lf_succ] at kq
        refine ⟨fun d => ?_, fun d => ?_⟩
        · rw [lf_n1 d] at kq
          unfold vX12_ruled_59
          intro v2 e2
          exact ih k (p + 1) v2 l (nx v2 e2) (by omega) hl kq
        · have new : (∀ u', md_ μ u' → Q (if e_barO (e_mn g r μ) ((lf_ day (km_i μ 2 / 24) k (p + 1) (some p)).map RL) = true then 1 else 0) u') → vX12_ruled_55 (vX12_ruled_59 (vX12_ruled_6 (vX12_ruled_65 Q) Q j) Q) Q 0 gI r i μ := by
            intro kn
            unfold vX12_ruled_55 vX12_ruled_59
            intro v2 e2
            have := ih k (p + 1) v2 (some p) (nx v2 e2) (by omega) (fun q e => by rw [← Option.some.inj e]; omega) kn
            rw [← ip] at this
            exact this
          cases l with
          | none =>
            rw [lf_n2 d] at kq
            exact ⟨fun _ => new kq, fun x => absurd rfl x⟩
          | some q =>
            have hq := hl q rfl
            have tq : (lI_ (some q)).toInt = (q : Int) := t_nI (by omega)
            have eq : (lI_ (some q)).toNatClampNeg = q := by rw [ki_nat, tq]; omega
            refine ⟨fun x => ?_, fun _ _ _ => ?_⟩
            · rw [ki_eq, tq, ki_zm] at x
              omega
            · rw [eq, hday q hq]
              rw [lf_n3 d] at kq
              refine ⟨fun e => ?_, fun e => ?_⟩
              · rw [if_pos e] at kq
                unfold vX12_ruled_59
                intro v2 e2
                exact ih k (p + 1) v2 (some q) (nx v2 e2) (by omega) hl kq
              · rw [if_neg e] at kq
                exact new kq
  intro j
  exact loop j m 0 0 none (by decide) (by omega) (fun q e => absurd e (by simp)) kk
end
end
section
/-! the river, told once for both: fields by the reference's numbers; rows of logs: cells 0 to 119 (12 r + c), heaps 120 + r -/
abbrev ra_T : Type := (Nat → Nat → Int32) × (Nat → List Nat)
def fs_ (a : ra_T) (f i : Nat) (v : Int32) : ra_T := (fun g => if g = f then upd (a.1 f) i v else a.1 g, a.2)
def ks_ (a : ra_T) (k : Nat) (L : List Nat) : ra_T := (a.1, fun j => if j = k then L else a.2 j)
def ln_ (a : ra_T) (r : Nat) : Nat := (a.1 14 r).toNatClampNeg
def a_open (a : ra_T) (r c : Nat) : Bool := decide (((a.2 (12 * r + c)).length : Int) < (a.1 15 r).toInt) && decide (a.1 33 (12 * r + c) = 0)
theorem a_openT {a : ra_T} {r c : Nat} : a_open a r c = true ↔ ((a.2 (12 * r + c)).length : Int) < (a.1 15 r).toInt ∧ a.1 33 (12 * r + c) = 0 := by
  unfold a_open
  rw [Bool.and_eq_true, decide_eq_true_iff, decide_eq_true_iff]
theorem a_openF {a : ra_T} {r c : Nat} (h : ¬ (((a.2 (12 * r + c)).length : Int) < (a.1 15 r).toInt ∧ a.1 33 (12 * r + c) = 0)) : a_open a r c = false := by
  cases e : a_open a r c
  · rfl
  · exact absurd (a_openT.1 e) h
def a_take (a : ra_T) (g r c : Nat) : ra_T := fs_ (fs_ (fs_ (ks_ a (12 * r + c) (a.2 (12 * r + c) ++ [g])) 38 g 1) 39 g (nI r)) 40 g (nI c)
def a_drop (a : ra_T) (g k : Nat) : ra_T := ks_ a k ((a.2 k).filter (fun x => decide (¬ x = g)))
def a_heap (a : ra_T) (g r : Nat) : ra_T := fs_ (fs_ (ks_ a (120 + r) (a.2 (120 + r) ++ [g])) 38 g 2) 40 g (-1)
def a_sea (a : ra_T) (g : Nat) : ra_T := fs_ (fs_ (fs_ a 38 g 4) 39 g (-1)) 40 g (-1)
/-- how far it goes in its reach: the cell, and the steps that are left -/
def a_jump (a : ra_T) (r : Nat) : Nat → Nat → Nat × Nat
  | 0, c => (c, 0)
  | s + 1, c => if c + 1 < ln_ a r ∧ a_open a r (c + 1) = true then a_jump a r s (c + 1) else (c, s + 1)
def a_exit (a : ra_T) (r g : Nat) : Option ra_T :=
  if ¬ a.1 22 r = 0 ∧ ((a.1 27 r >>> (a.1 35 g &&& 31)) &&& 1) = 1 then (if ((a.2 (120 + r)).length : Int) < (a.1 28 r).toInt then some (a_heap a g r) else none)
  else if ¬ a.1 21 r = 0 ∧ ¬ 50 ≤ a.1 19 r then none
  else if a.1 13 r = -1 then some (a_sea a g)
  else if a_open a (a.1 13 r).toNatClampNeg 0 = true then some (a_take a g (a.1 13 r).toNatClampNeg 0) else none
/-- whether it left its cell, and the river with it where it went (not yet out of the cell where it was) -/
def a_on (a : ra_T) (r c sp g : Nat) : Option ra_T :=
  match (if 0 < (a_jump a r sp c).2 ∧ (a_jump a r sp c).1 + 1 = ln_ a r then a_exit a r g else none) with
  | some b => some b
  | none => if (a_jump a r sp c).1 = c then none else some (a_take a g r (a_jump a r sp c).1)
def a_go (a : ra_T) (r c sp g : Nat) : ra_T := match a_on a r c sp g with
  | some b => a_drop b g (12 * r + c)
  | none => a
def a_logs (r c sp : Nat) : List Nat → ra_T → ra_T
  | [], a => a
  | g :: L, a => a_logs r c sp L (a_go a r c sp g)
def a_cell (a : ra_T) (r c sp : Nat) : ra_T := if a.1 33 (12 * r + c) = 0 then a_logs r c sp (a.2 (12 * r + c)) a else a
def a_cells (r sp : Nat) : Nat → ra_T → ra_T
  | 0, a => a
  | c + 1, a => a_cells r sp c (a_cell a r c sp)
def a_speed (a : ra_T) (r : Nat) : Int32 := if 6 < a.1 18 r / 100 then 6 else a.1 18 r / 100
def a_reach (a : ra_T) (r : Nat) : ra_T := if a_speed a r ≤ 0 then a else a_cells r (a_speed a r).toNatClampNeg (ln_ a r) a
def a_move : Nat → Nat → ra_T → ra_T
  | 0, _, a => a
  | m + 1, r, a => a_move m (r + 1) (a_reach a r)
theorem a_speed6 (a : ra_T) (r : Nat) : (a_speed a r).toInt ≤ 6 := by
  have z6 : (6 : Int32).toInt = 6 := by decide
  unfold a_speed
  split
  · rw [z6]; omega
  · next q => rw [ki_lt, z6] at q; omega
/-! what is written, what is read -/
theorem fs_s {a : ra_T} {f i : Nat} {v : Int32} : (fs_ a f i v).1 f = upd (a.1 f) i v := if_pos rfl
theorem fs_n {a : ra_T} {f g i : Nat} {v : Int32} (h : g ≠ f) : (fs_ a f i v).1 g = a.1 g := if_neg h
theorem ks_s {a : ra_T} {k : Nat} {L : List Nat} : (ks_ a k L).2 k = L := if_pos rfl
theorem ks_n {a : ra_T} {k j : Nat} {L : List Nat} (h : j ≠ k) : (ks_ a k L).2 j = a.2 j := if_neg h
/-- which rows there are -/
def vk_ (nr : Nat) (a : ra_T) (k : Nat) : Prop := (∃ r c, r < nr ∧ c < ln_ a r ∧ k = 12 * r + c) ∨ ∃ r, r < nr ∧ ¬ a.1 22 r = 0 ∧ k = 120 + r
/-- which rows may hold logs -/
def vk2_ (nr : Nat) (a : ra_T) (k : Nat) : Prop := (∃ r c, r < nr ∧ c < ln_ a r ∧ k = 12 * r + c) ∨ ∃ r, r < nr ∧ k = 120 + r
/-- what an hour keeps true -/
def ao_ (nr nl : Nat) (a : ra_T) : Prop :=
  (∀ r, r < nr → ln_ a r ≤ 12 ∧ 1 ≤ ln_ a r ∧ (1 ≤ (a.1 15 r).toInt ∧ (a.1 15 r).toInt ≤ 20) ∧ -1 ≤ (a.1 13 r).toInt ∧ (a.1 13 r).toInt < (r : Int)) ∧
  (∀ k g, g ∈ a.2 k → g < nl ∧ vk2_ nr a k) ∧ (∀ k, (a.2 k).Nodup) ∧
  (∀ r c, r < nr → c < ln_ a r → ((a.2 (12 * r + c)).length : Int) ≤ (a.1 15 r).toInt ∧ ∀ g, g ∈ a.2 (12 * r + c) → a.1 38 g = 1 ∧ (a.1 39 g).toInt = (r : Int) ∧ (a.1 40 g).toInt = (c : Int)) ∧
  (∀ r, r < nr → ((a.2 (120 + r)).length : Int) ≤ 100 ∧ ∀ g, g ∈ a.2 (120 + r) → a.1 38 g = 2 ∧ (a.1 39 g).toInt = (r : Int)) ∧
  (∀ g, g < nl → a.1 38 g = 1 → ∃ r c, r < nr ∧ c < ln_ a r ∧ g ∈ a.2 (12 * r + c))
end
section
/-! the class's rows of logs -/
theorem vy_xai {σ : kx_S} {l y : Nat} : vJx4a65c_add_9ea2d l y σ (fun _ u => ∀ a, xt σ a ≠ 0 → xt u a = xt σ a ∧ xai u a = xai σ a) := by
  refine jfJx4a65c_add_9ea2d (I := fun u => ∀ a, xt σ a ≠ 0 → xt u a = xt σ a ∧ xai u a = xai σ a) ?_ (fun _ _ h => h) _ _ _ (fun _ _ => ⟨rfl, rfl⟩)
  intro u h
  refine ⟨fun f _ => ⟨fun a v => h, fun a v => h, fun a v => h⟩, fun q => absurd q (by decide), fun q => absurd q (by decide), fun _ => ⟨fun a i v => h, fun a f => h⟩, fun q => absurd q (by decide), fun q => absurd q (by decide), fun t ht p hp => ?_, fun t ht p hp n a ha => ?_⟩
  · have : 1100 + t = 1222 := by
      simp at ht
      omega
    intro a ha
    have ne : a ≠ p := fun e => ha (by rw [← (h a ha).1, e]; exact hp)
    refine ⟨?_, (h a ha).2⟩
    show va_up (xt u) p t a = _
    rw [va_up_ne _ _ ne]
    exact (h a ha).1
  · have ne : a ≠ p := fun e => ha (by rw [← (h a ha).1, e]; exact hp)
    refine ⟨?_, ?_⟩
    · show va_up (xt u) p t a = _
      rw [va_up_ne _ _ ne]
      exact (h a ha).1
    · show va_up u.2.2.2.2.2.1 p _ a = _
      rw [va_up_ne _ _ ne]
      exact (h a ha).2
theorem vy_xaiR {σ : kx_S} {l : Nat} {i : Int32} : vJx4a65c_remove_915e3 l i σ (fun _ u => ∀ a, xai u a = xai σ a) := by
  refine jfJx4a65c_remove_915e3 (I := fun u => ∀ a, xai u a = xai σ a) ?_ (fun _ _ h => h) _ _ _ (fun _ => rfl)
  intro u h
  refine ⟨fun f _ => ⟨fun a v => h, fun a v => h, fun a v => h⟩, fun q => absurd q (by decide), fun q => absurd q (by decide), fun _ => ⟨fun a i v => h, fun a f => h⟩, fun q => absurd q (by decide), fun q => absurd q (by decide), fun t ht p hp => h, fun t ht p hp n a => ?_⟩
  exfalso
  simp at ht
  omega
theorem vy_rem0 {σ : kx_S} {l d : Nat} {i : Int32} {p m : Nat} {Q : Option Nat → kx_S → Prop} (hd : xr σ 17 l = some d) (hi : i.toInt = (p : Int)) (hs : (xi σ 18 l).toInt = (m : Int)) (hm : m ≤ 400) (kk : ∀ q τ, (∀ f, xr τ f = xr σ f) → (∀ j, j < p → xar τ d j = xar σ d j) → (∀ j, p ≤ j → j + 1 < m → xar τ d j = xar σ d (j + 1)) → Q q τ) : vJx4a65c_remove_915e3 l i σ Q := by
  unfold vJx4a65c_remove_915e3
  intro _
  unfold vJ15_checkIndex_7cf53 vJ3_checkIndex_8e157
  refine ⟨fun _ => trivial, fun c => ⟨fun c2 => ?_, fun _ => trivial⟩⟩
  rw [ki_lt, hi, hs] at c2
  intro _ a5 e5 _ _ q9 _
  obtain rfl := Option.some.inj (hd.symm.trans e5)
  unfold vJx4a65c_fastRemove_b59b0
  rintro _ σ10 rfl v12 e12
  have x18 : xi (xsi σ 16 l (xi σ 16 l + 1)) 18 l = xi σ 18 l := rfl
  rw [x18] at e12
  rw [x18]
  have hv : v12.toInt = ((m - 1 : Nat) : Int) := by
    rw [e12, ki_sub (by rw [hs, ki_z1]; omega) (by rw [hs, ki_z1]; omega), hs, ki_z1]
    omega
  have ev : v12.toNatClampNeg = m - 1 := by rw [ki_nat, hv]; omega
  rw [← e12, ki_le, hv, hi]
  have last : ∀ τ1 : kx_S, (∀ f, xr τ1 f = xr σ f) → (∀ j, j < p → xar τ1 d j = xar σ d j) → (∀ j, p ≤ j → j + 1 < m → xar τ1 d j = xar σ d (j + 1)) → vJx4a65c_fastRemove_b59b0_34 (fun σ10 => Q q9 σ10) l d v12 τ1 := by
    intro τ1 u1 u2 u3
    unfold vJx4a65c_fastRemove_b59b0_34
    rintro _ σ2 rfl _ _ σ6 rfl
    rw [ev]
    refine kk q9 _ u1 (fun j hj => ?_) (fun j h1 h2 => ?_)
    · show va_up (xar τ1) d (va_up (xar τ1 d) (m - 1) none) d j = _
      rw [va_up_self, va_up_ne _ _ (by omega)]
      exact u2 j hj
    · show va_up (xar τ1) d (va_up (xar τ1 d) (m - 1) none) d j = _
      rw [va_up_self, va_up_ne _ _ (by omega)]
      exact u3 j h1 h2
  refine ⟨fun c3 => last _ (fun _ => rfl) (fun _ _ => rfl) (fun j h1 h2 => by omega), fun c3 => ?_⟩
  have h1 : (i + 1).toNatClampNeg = p + 1 := by
    rw [ki_nat, ki_add (by rw [hi, ki_z1]; omega) (by rw [hi, ki_z1]; omega), hi, ki_z1]
    omega
  have h2 : i.toNatClampNeg = p := by rw [ki_nat, hi]; omega
  have h3 : (v12 - i).toNatClampNeg = m - 1 - p := by
    rw [ki_nat, ki_sub (by rw [hv, hi]; omega) (by rw [hv, hi]; omega), hv, hi]
    omega
  rw [h1, h2, h3]
  rintro _ _ _ _ _ _ _ σ21 rfl
  refine last _ (fun _ => rfl) (fun j hj => ?_) (fun j g1 g2 => ?_)
  · show va_up (xar σ) d (va_cpy (xar σ d) (xar σ d) (p + 1) p (m - 1 - p)) d j = _
    rw [va_up_self]
    unfold va_cpy
    rw [if_neg (by omega)]
  · show va_up (xar σ) d (va_cpy (xar σ d) (xar σ d) (p + 1) p (m - 1 - p)) d j = _
    rw [va_up_self]
    unfold va_cpy
    rw [if_pos (by omega)]
    congr 1
    omega
/-- a log comes into a row: what is known after -/
theorem vy_addlog {s : sz_T} {g κ : Nat → Nat} {B n : Nat} {σ : kx_S} {l y : Nat} {Q : Int32 → kx_S → Prop} (J : yJ_ s g κ B n σ) (hB : B ≤ 3000) (hn : n ≤ 200) (hl : xt σ l = 1) (k8 : κ l = 8) (h2 : l ≠ g 2) (hy : xt σ y = 8) (hs : (xi σ 18 l).toInt < 100) (kk : ∀ τ, yJ_ s g κ B n τ → ya_ l y σ τ → (∀ a, xt σ a ≠ 0 → xai τ a = xai σ a) → Q 1 τ) : vJx4a65c_add_9ea2d l y σ Q := by
  have w1 : wJx4a65c_add_9ea2d l y σ (fun r τ => r = 1 ∧ yJ_ s g κ B n τ ∧ ya_ l y σ τ) := by
    refine ry_add J.1 hB hn hl (by rw [hy, k8]) (by unfold ylb; rw [if_neg h2]; omega) (fun τ L A => ⟨rfl, ?_, A⟩)
    obtain ⟨a1, a2, a3, a4, a5, a6, a7, a8⟩ := A
    have S : ∀ l', xt σ l' = 1 → (κ l' ≠ 8 ∨ l' = g 2) → xi τ 18 l' = xi σ 18 l' := fun l' _ h => by
      rw [a4, va_up_ne _ _ (fun e => ?_)]
      rw [e] at h
      rcases h with h | h
      · exact h k8
      · exact h2 h
    refine yI_tr J L a1 a2 (fun f hf => a3 f ?_ ?_) S (fun i hi => a6 (g 1) J.2.2.1.2.1.2.1 i hi)
    · intro e; subst e; exact absurd hf (by decide)
    · intro e; subst e; exact absurd hf (by decide)
  have w2 := jcJx4a65c_add_9ea2d (Q'' := fun r τ => (r = 1 ∧ yJ_ s g κ B n τ ∧ ya_ l y σ τ) ∧ ∀ a, xt σ a ≠ 0 → xt τ a = xt σ a ∧ xai τ a = xai σ a) (fun _ _ a b => ⟨a, b⟩) _ _ _ w1 vy_xai
  refine jaJx4a65c_add_9ea2d (fun r τ h => ?_) _ _ _ w2
  rw [h.1.1]
  exact kk τ h.1.2.1 h.1.2.2 (fun a ha => (h.2 a ha).2)
theorem vy_remlog {s : sz_T} {g κ : Nat → Nat} {B n : Nat} {σ : kx_S} {l p m : Nat} {i : Int32} {Q : Option Nat → kx_S → Prop} (J : yJ_ s g κ B n σ) (hl : xt σ l = 1) (k8 : κ l = 8) (h2 : l ≠ g 2) (hi : i.toInt = (p : Int)) (hs : (xi σ 18 l).toInt = (m : Int)) (hp : p < m) (kk : ∀ q τ, yJ_ s g κ B n τ → yr_ l σ τ → (∀ j, j < p → xe τ l j = xe σ l j) → (∀ j, p ≤ j → j + 1 < m → xe τ l j = xe σ l (j + 1)) → (∀ a, xai τ a = xai σ a) → Q q τ) : vJx4a65c_remove_915e3 l i σ Q := by
  have w1 : wJx4a65c_remove_915e3 l i σ (fun q τ => yJ_ s g κ B n τ ∧ yr_ l σ τ) := by
    refine ry_remove J.1 hl (by omega) (by omega) (fun q τ L A => ⟨?_, A⟩)
    obtain ⟨a1, a2, a3, a4, a5, a6, a7⟩ := A
    have S : ∀ l', xt σ l' = 1 → (κ l' ≠ 8 ∨ l' = g 2) → xi τ 18 l' = xi σ 18 l' := fun l' _ h => by
      rw [a4, va_up_ne _ _ (fun e => ?_)]
      rw [e] at h
      rcases h with h | h
      · exact h k8
      · exact h2 h
    refine yI_tr J L a1 (fun a => .inl (by rw [a2])) (fun f hf => a3 f ?_ ?_) S (fun j hj => a6 (g 1) J.2.2.1.2.1.2.1 (fun e => ?_) (by omega) j)
    · intro e; subst e; exact absurd hf (by decide)
    · intro e; subst e; exact absurd hf (by decide)
    · have := J.2.2.1.2.1.2.2
      rw [e, k8] at this
      omega
  obtain ⟨d, hd, _, hb, _⟩ := J.1.1 l hl
  have hm : m ≤ 400 := by have := ry_size J.1 hl; omega
  have w2 := jcJx4a65c_remove_915e3 (Q'' := fun q τ => (yJ_ s g κ B n τ ∧ yr_ l σ τ) ∧ (∀ j, j < p → xe τ l j = xe σ l j) ∧ (∀ j, p ≤ j → j + 1 < m → xe τ l j = xe σ l (j + 1))) (Q' := fun q τ => (∀ j, j < p → xe τ l j = xe σ l j) ∧ (∀ j, p ≤ j → j + 1 < m → xe τ l j = xe σ l (j + 1))) (fun _ _ a b => ⟨a, b⟩) _ _ _ w1 (vy_rem0 hd hi hs hm (fun q τ u1 u2 u3 => by
    have hd' : xr τ 17 l = some d := by rw [u1]; exact hd
    refine ⟨fun j hj => ?_, fun j h1 h2 => ?_⟩
    · rw [xe_some hd', xe_some hd]; exact u2 j hj
    · rw [xe_some hd', xe_some hd]; exact u3 j h1 h2))
  have w3 := jcJx4a65c_remove_915e3 (Q'' := fun q τ => ((yJ_ s g κ B n τ ∧ yr_ l σ τ) ∧ (∀ j, j < p → xe τ l j = xe σ l j) ∧ (∀ j, p ≤ j → j + 1 < m → xe τ l j = xe σ l (j + 1))) ∧ ∀ a, xai τ a = xai σ a) (fun _ _ a b => ⟨a, b⟩) _ _ _ w2 vy_xaiR
  exact jaJx4a65c_remove_915e3 (fun q τ h => kk q τ h.1.1.1 h.1.1.2 h.1.2.1 h.1.2.2 h.2) _ _ _ w3
/-! what a step leaves as it was: W are the int fields that it may write -/
def hf_ (W : List Nat) (g κ : Nat → Nat) (st na : Nat) (σ τ : kx_S) : Prop :=
  fg_ σ τ ∧ (∀ f a, f ∉ W → f ≠ 16 → f ≠ 18 → xt σ a ≠ 0 → xi τ f a = xi σ f a) ∧
  (∀ l, xt σ l = 1 → (κ l ≠ 8 ∨ l = g 2) → xi τ 18 l = xi σ 18 l ∧ ∀ i : Nat, (i : Int) < (xi σ 18 l).toInt → xe τ l i = xe σ l i) ∧
  (∀ a, xt σ a ≠ 0 → a ≠ st → a ≠ na → xai τ a = xai σ a) ∧ ∀ a, xt τ a = xt σ a ∨ xt σ a = 0 ∧ xt τ a = 22
section
variable {W : List Nat} {g κ : Nat → Nat} {st na : Nat}
theorem hf_refl {σ : kx_S} : hf_ W g κ st na σ σ := ⟨fg_refl, fun _ _ _ _ _ _ => rfl, fun _ _ _ => ⟨rfl, fun _ _ => rfl⟩, fun _ _ _ _ => rfl, fun _ => .inl rfl⟩
theorem hf_trans {a b c : kx_S} (h : hf_ W g κ st na a b) (k : hf_ W g κ st na b c) : hf_ W g κ st na a c := by
  have tg : ∀ x, xt a x ≠ 0 → xt b x ≠ 0 := fun x hx => by rw [h.1.1 x hx]; exact hx
  refine ⟨fg_trans h.1 k.1, fun f x h1 h2 h3 h4 => (k.2.1 f x h1 h2 h3 (tg x h4)).trans (h.2.1 f x h1 h2 h3 h4), fun l h1 h2 => ?_, fun x h1 h2 h3 => (k.2.2.2.1 x (tg x h1) h2 h3).trans (h.2.2.2.1 x h1 h2 h3), fun x => ?_⟩
  · obtain ⟨p1, p2⟩ := h.2.2.1 l h1 h2
    obtain ⟨q1, q2⟩ := k.2.2.1 l (fg_tag h.1 h1 (by decide)) h2
    exact ⟨q1.trans p1, fun i hi => (q2 i (by rw [p1]; exact hi)).trans (p2 i hi)⟩
  · rcases h.2.2.2.2 x with e | ⟨e1, e2⟩
    · rcases k.2.2.2.2 x with d | ⟨d1, d2⟩
      · exact .inl (d.trans e)
      · exact .inr ⟨e.symm.trans d1, d2⟩
    · rcases k.2.2.2.2 x with d | ⟨d1, d2⟩
      · exact .inr ⟨e1, d.trans e2⟩
      · exact .inr ⟨e1, d2⟩
theorem hf_sub {V : List Nat} {σ τ : kx_S} (h : hf_ V g κ st na σ τ) (s : ∀ f ∈ V, f ∈ W) : hf_ W g κ st na σ τ := ⟨h.1, fun f a h1 => h.2.1 f a (fun q => h1 (s f q)), h.2.2⟩
theorem hf_si {σ τ : kx_S} {f x : Nat} {v : Int32} (h : hf_ W g κ st na σ τ) (hf : f ∈ W) (h18 : f ≠ 18) : hf_ W g κ st na σ (xsi τ f x v) := by
  refine hf_trans h ⟨⟨fun _ _ => rfl, fun _ _ _ _ => rfl, fun _ _ => rfl, rfl⟩, fun e a h1 h2 h3 _ => ?_, fun l _ _ => ⟨?_, fun _ _ => rfl⟩, fun _ _ _ _ => rfl, fun _ => .inl rfl⟩
  · show (if e = f then va_up (τ.2.1 f) x v else τ.2.1 e) a = τ.2.1 e a
    rw [if_neg (fun q => h1 (by rw [q]; exact hf))]
  · show (if 18 = f then va_up (τ.2.1 f) x v else τ.2.1 18) l = τ.2.1 18 l
    rw [if_neg (Ne.symm h18)]
theorem hf_sal {σ τ : kx_S} {x i : Nat} {v : Int64} (h : hf_ W g κ st na σ τ) : hf_ W g κ st na σ (xsal τ x i v) := h
theorem hf_jr {σ τ u : kx_S} {Jd : Nat} (h : hf_ W g κ st na σ τ) (k : jr_ Jd st na τ u) (h1 : 82 ∈ W) (h2 : 83 ∈ W) : hf_ W g κ st na σ u := by
  obtain ⟨k1, k2, k3, k4, k5, k6, k7⟩ := k
  have ex : ∀ l i, xe u l i = xe τ l i := by
    intro l i
    have e1 : xr u 17 l = xr τ 17 l := by show u.2.2.1 17 l = τ.2.2.1 17 l; rw [k3]
    unfold xe
    rw [e1]
    split
    · show u.2.2.2.2.2.2.2.1 _ _ = τ.2.2.2.2.2.2.2.1 _ _
      rw [k7]
    · rfl
  refine hf_trans h ⟨⟨fun a _ => ?_, fun f a _ _ => ?_, fun a _ => ?_, ?_⟩, fun f a p1 p2 p3 _ => k1 f a ?_, fun l _ _ => ⟨k1 18 l ?_, fun i _ => ex l i⟩, fun a _ p2 p3 => k6 a p2 p3, fun a => .inl ?_⟩
  · show u.1 a = τ.1 a; rw [k2]
  · show u.2.2.1 f a = τ.2.2.1 f a; rw [k3]
  · show u.2.2.2.2.1 a = τ.2.2.2.2.1 a; rw [k5]
  · show u.2.2.2.2.2.2.2.2.2 = τ.2.2.2.2.2.2.2.2.2; rw [k7]
  · rintro ⟨_, q | q⟩
    · exact p1 (by rw [q]; exact h1)
    · exact p1 (by rw [q]; exact h2)
  · rintro ⟨_, q | q⟩ <;> exact absurd q (by decide)
  · show u.1 a = τ.1 a; rw [k2]
theorem hf_add {σ τ u : kx_S} {l y : Nat} (h : hf_ W g κ st na σ τ) (A : ya_ l y τ u) (X : ∀ a, xt τ a ≠ 0 → xai u a = xai τ a) (k8 : κ l = 8) (h2 : l ≠ g 2) : hf_ W g κ st na σ u := by
  obtain ⟨a1, a2, a3, a4, a5, a6, a7, a8⟩ := A
  refine hf_trans h ⟨a1, fun f a _ p2 p3 _ => by rw [a3 f p2 p3], fun l' p1 p2 => ⟨?_, fun i hi => a6 l' p1 i hi⟩, fun a p1 _ _ => X a p1, a2⟩
  rw [a4, va_up_ne _ _ (fun e => ?_)]
  rw [e] at p2
  rcases p2 with q | q
  · exact q k8
  · exact h2 q
theorem hf_rem {σ τ u : kx_S} {l : Nat} (h : hf_ W g κ st na σ τ) (A : yr_ l τ u) (X : ∀ a, xai u a = xai τ a) (k8 : κ l = 8) (h2 : l ≠ g 2) : hf_ W g κ st na σ u := by
  obtain ⟨a1, a2, a3, a4, a5, a6, a7⟩ := A
  have ne : ∀ l', (κ l' ≠ 8 ∨ l' = g 2) → l' ≠ l := by
    intro l' p e
    rw [e] at p
    rcases p with q | q
    · exact q k8
    · exact h2 q
  refine hf_trans h ⟨a1, fun f a _ p2 p3 _ => by rw [a3 f p2 p3], fun l' p1 p2 => ⟨by rw [a4, va_up_ne _ _ (ne l' p2)], fun i hi => a6 l' p1 (ne l' p2) (by omega) i⟩, fun a _ _ _ => X a, fun a => .inl (by rw [a2])⟩
end
/-! the class's river: T k i is where the i-th thing of kind k lies; N is the way back -/
/-- the places are places of their kind, and no two are one -/
def q0_ (T : Nat → Nat → Nat) (N g κ : Nat → Nat) (nr nl : Nat) (a : ra_T) : Prop :=
  (∀ k, vk_ nr a k → κ (T 1 k) = 8 ∧ T 1 k ≠ g 2 ∧ N (T 1 k) = k) ∧ (∀ r c, r < nr → c < ln_ a r → N (T 3 (12 * r + c)) = 12 * r + c) ∧ (∀ r, r < nr → κ (T 21 r) = 3 ∧ N (T 10 r) = r) ∧ ∀ j, j < nl → N (T 8 j) = j
def q1_ (T : Nat → Nat → Nat) (g1 nr : Nat) (a : ra_T) (σ : kx_S) : Prop := (xi σ 18 g1).toInt = (nr : Int) ∧ ∀ r, r < nr →
  (xe σ g1 r = some (T 10 r) ∧ xt σ (T 10 r) = 10) ∧ (xi σ 160 (T 10 r)).toInt = (r : Int) ∧ (xi σ 162 (T 10 r) = a.1 16 r ∧ xi σ 165 (T 10 r) = a.1 21 r ∧ xi σ 169 (T 10 r) = a.1 18 r ∧ xi σ 170 (T 10 r) = a.1 19 r ∧ xi σ 171 (T 10 r) = a.1 23 r) ∧
  ((xr σ 161 (T 10 r) = none ∧ a.1 13 r = -1) ∨ ∃ q : Nat, (a.1 13 r).toInt = (q : Int) ∧ q < r ∧ xr σ 161 (T 10 r) = some (T 10 q)) ∧
  ((xr σ 172 (T 10 r) = none ∧ a.1 22 r = 0) ∨ (¬ a.1 22 r = 0 ∧ xr σ 172 (T 10 r) = some (T 2 r) ∧ xt σ (T 2 r) = 2 ∧ xr σ 32 (T 2 r) = some (T 1 (120 + r)) ∧ xr σ 33 (T 2 r) = some (T 22 r) ∧ xi σ 34 (T 2 r) = a.1 27 r ∧ xi σ 35 (T 2 r) = a.1 28 r)) ∧
  (xr σ 163 (T 10 r) = some (T 21 r) ∧ xt σ (T 21 r) = 1 ∧ (xi σ 18 (T 21 r)).toInt = (ln_ a r : Int) ∧ ln_ a r ≤ 12 ∧ 1 ≤ ln_ a r)
def q2_ (T : Nat → Nat → Nat) (nr : Nat) (a : ra_T) (σ : kx_S) : Prop := ∀ r, r < nr → ∀ c, c < ln_ a r → (xe σ (T 21 r) c = some (T 3 (12 * r + c)) ∧ xt σ (T 3 (12 * r + c)) = 3) ∧ xi σ 48 (T 3 (12 * r + c)) = a.1 15 r ∧ xr σ 49 (T 3 (12 * r + c)) = some (T 1 (12 * r + c)) ∧ xi σ 50 (T 3 (12 * r + c)) = a.1 33 (12 * r + c) ∧ xi σ 51 (T 3 (12 * r + c)) = a.1 34 (12 * r + c)
def q3_ (T : Nat → Nat → Nat) (nr : Nat) (a : ra_T) (σ : kx_S) : Prop := ∀ k, vk_ nr a k → xt σ (T 1 k) = 1 ∧ (xi σ 18 (T 1 k)).toInt = ((a.2 k).length : Int) ∧ ∀ i g, (a.2 k)[i]? = some g → xe σ (T 1 k) i = some (T 8 g)
def q4_ (T : Nat → Nat → Nat) (g2 nl : Nat) (a : ra_T) (σ : kx_S) : Prop := (xi σ 18 g2).toInt = (nl : Int) ∧ ∀ j, j < nl → (xe σ g2 j = some (T 8 j) ∧ xt σ (T 8 j) = 8) ∧ (xi σ 128 (T 8 j)).toInt = (j : Int) ∧ (xi σ 129 (T 8 j) = a.1 35 j ∧ xi σ 130 (T 8 j) = a.1 36 j ∧ xi σ 131 (T 8 j) = a.1 37 j) ∧ xi σ 132 (T 8 j) = a.1 38 j ∧ xi σ 133 (T 8 j) = a.1 39 j ∧ xi σ 134 (T 8 j) = a.1 40 j ∧ xi σ 135 (T 8 j) = a.1 41 j ∧ xi σ 136 (T 8 j) = a.1 42 j
section
variable {T : Nat → Nat → Nat} {W : List Nat} {g κ : Nat → Nat} {st na nr nl : Nat} {a : ra_T}
theorem q1_hf {σ τ : kx_S} (h : q1_ T (g 1) nr a σ) (F : hf_ W g κ st na σ τ) (t1 : xt σ (g 1) = 1) (k1 : κ (g 1) = 10) (kc : ∀ r, r < nr → κ (T 21 r) = 3) (hW : ∀ f ∈ W, f ∉ [160, 162, 165, 169, 170, 171, 34, 35]) : q1_ T (g 1) nr a τ := by
  obtain ⟨h1, h2⟩ := h
  obtain ⟨f1, f2⟩ := F.2.2.1 (g 1) t1 (.inl (by rw [k1]; decide))
  refine ⟨by rw [f1]; exact h1, fun r hr => ?_⟩
  obtain ⟨⟨a1, a2⟩, a3, ⟨a4, a5, a6, a7, a8⟩, a9, a10, a11, a12, a13, a14⟩ := h2 r hr
  have tR : xt σ (T 10 r) ≠ 0 := by rw [a2]; decide
  have xk : ∀ {f b : Nat}, f ∈ [160, 162, 165, 169, 170, 171, 34, 35] → xt σ b ≠ 0 → xi τ f b = xi σ f b := fun {f b} hf hb => F.2.1 f b (fun q => hW f q hf) (by intro e; rw [e] at hf; exact absurd hf (by decide)) (by intro e; rw [e] at hf; exact absurd hf (by decide)) hb
  obtain ⟨c1, c2⟩ := F.2.2.1 (T 21 r) a12 (.inl (by rw [kc r hr]; decide))
  refine ⟨⟨by rw [f2 r (by omega)]; exact a1, fg_tag F.1 a2 (by decide)⟩, by rw [xk (by decide) tR]; exact a3, ⟨by rw [xk (by decide) tR]; exact a4, by rw [xk (by decide) tR]; exact a5, by rw [xk (by decide) tR]; exact a6, by rw [xk (by decide) tR]; exact a7, by rw [xk (by decide) tR]; exact a8⟩, ?_, ?_, by rw [F.1.2.1 163 _ (by decide) tR]; exact a11, fg_tag F.1 a12 (by decide), by rw [c1]; exact a13, a14⟩
  · rw [F.1.2.1 161 _ (by decide) tR]
    exact a9
  · rw [F.1.2.1 172 _ (by decide) tR]
    rcases a10 with q | ⟨q1, q2, q3, q4, q5, q6, q7⟩
    · exact .inl q
    · have tB : xt σ (T 2 r) ≠ 0 := by rw [q3]; decide
      exact .inr ⟨q1, q2, fg_tag F.1 q3 (by decide), by rw [F.1.2.1 32 _ (by decide) tB]; exact q4, by rw [F.1.2.1 33 _ (by decide) tB]; exact q5, by rw [xk (by decide) tB]; exact q6, by rw [xk (by decide) tB]; exact q7⟩
theorem q2_hf {σ τ : kx_S} (h : q2_ T nr a σ) (h1 : q1_ T (g 1) nr a σ) (F : hf_ W g κ st na σ τ) (kc : ∀ r, r < nr → κ (T 21 r) = 3) (hW : ∀ f ∈ W, f ∉ [48, 50, 51]) : q2_ T nr a τ := by
  intro r hr c hc
  obtain ⟨⟨a1, a2⟩, a3, a4, a5, a6⟩ := h r hr c hc
  obtain ⟨_, _, _, _, _, b1, b2, b3, b4⟩ := h1.2 r hr
  obtain ⟨c1, c2⟩ := F.2.2.1 (T 21 r) b2 (.inl (by rw [kc r hr]; decide))
  have tC : xt σ (T 3 (12 * r + c)) ≠ 0 := by rw [a2]; decide
  have xk : ∀ {f : Nat}, f ∈ [48, 50, 51] → xi τ f (T 3 (12 * r + c)) = xi σ f (T 3 (12 * r + c)) := fun {f} hf => F.2.1 f _ (fun q => hW f q hf) (by intro e; rw [e] at hf; exact absurd hf (by decide)) (by intro e; rw [e] at hf; exact absurd hf (by decide)) tC
  exact ⟨⟨by rw [c2 c (by omega)]; exact a1, fg_tag F.1 a2 (by decide)⟩, by rw [xk (by decide)]; exact a3, by rw [F.1.2.1 49 _ (by decide) tC]; exact a4, by rw [xk (by decide)]; exact a5, by rw [xk (by decide)]; exact a6⟩
end
end
section
/-! the class's moves -/
theorem a_jump_ge (a : ra_T) (r : Nat) : ∀ (s c : Nat), c ≤ (a_jump a r s c).1 ∧ ((a_jump a r s c).1 ≠ c → (a_jump a r s c).1 < ln_ a r ∧ a_open a r (a_jump a r s c).1 = true) := by
  intro s
  induction s with
  | zero => intro c; exact ⟨Nat.le_refl c, fun h => absurd rfl h⟩
  | succ s ih =>
    intro c
    unfold a_jump
    split
    · next h =>
      obtain ⟨i1, i2⟩ := ih (c + 1)
      refine ⟨by omega, fun _ => ?_⟩
      by_cases e : (a_jump a r s (c + 1)).1 = c + 1
      · rw [e]; exact h
      · exact i2 e
    · exact ⟨Nat.le_refl c, fun h => absurd rfl h⟩
theorem vk_cell {nr : Nat} {a : ra_T} {r c : Nat} (hr : r < nr) (hc : c < ln_ a r) : vk_ nr a (12 * r + c) := .inl ⟨r, c, hr, hc, rfl⟩
section
variable {T : Nat → Nat → Nat} {N : Nat → Nat} {W : List Nat} {g κ : Nat → Nat} {st na nr nl : Nat} {a : ra_T}
theorem q4_hf {σ τ : kx_S} (h : q4_ T (g 2) nl a σ) (F : hf_ W g κ st na σ τ) (t2 : xt σ (g 2) = 1) (hW : ∀ f ∈ W, f ∉ [128, 129, 130, 131, 132, 133, 134, 135, 136]) : q4_ T (g 2) nl a τ := by
  obtain ⟨h1, h2⟩ := h
  obtain ⟨f1, f2⟩ := F.2.2.1 (g 2) t2 (.inr rfl)
  refine ⟨by rw [f1]; exact h1, fun j hj => ?_⟩
  obtain ⟨⟨a1, a2⟩, a3, ⟨a4, a5, a6⟩, a7, a8, a9, a10, a11⟩ := h2 j hj
  have tL : xt σ (T 8 j) ≠ 0 := by rw [a2]; decide
  have xk : ∀ {f : Nat}, f ∈ [128, 129, 130, 131, 132, 133, 134, 135, 136] → xi τ f (T 8 j) = xi σ f (T 8 j) := fun {f} hf => F.2.1 f _ (fun q => hW f q hf) (by intro e; rw [e] at hf; exact absurd hf (by decide)) (by intro e; rw [e] at hf; exact absurd hf (by decide)) tL
  exact ⟨⟨by rw [f2 j (by omega)]; exact a1, fg_tag F.1 a2 (by decide)⟩, by rw [xk (by decide)]; exact a3, ⟨by rw [xk (by decide)]; exact a4, by rw [xk (by decide)]; exact a5, by rw [xk (by decide)]; exact a6⟩, by rw [xk (by decide)]; exact a7, by rw [xk (by decide)]; exact a8, by rw [xk (by decide)]; exact a9, by rw [xk (by decide)]; exact a10, by rw [xk (by decide)]; exact a11⟩
theorem q4_132 {σ : kx_S} {i : Nat} {v : Int32} (h : q4_ T (g 2) nl a σ) (hN : ∀ j, j < nl → N (T 8 j) = j) (hi : i < nl) : q4_ T (g 2) nl (fs_ a 38 i v) (xsi σ 132 (T 8 i) v) := by
  refine ⟨h.1, fun j hj => ?_⟩
  obtain ⟨⟨a1, a2⟩, a3, ⟨a4, a5, a6⟩, a7, a8, a9, a10, a11⟩ := h.2 j hj
  refine ⟨⟨a1, a2⟩, a3, ⟨a4, a5, a6⟩, ?_, a8, a9, a10, a11⟩
  show va_up (xi σ 132) (T 8 i) v (T 8 j) = upd (a.1 38) i v j
  by_cases c : j = i
  · rw [c, va_up_self, w_updS]
  · rw [va_up_ne _ _ (fun e => c (by rw [← hN j hj, e, hN i hi])), w_updN c]
    exact a7
theorem q4_133 {σ : kx_S} {i : Nat} {v : Int32} (h : q4_ T (g 2) nl a σ) (hN : ∀ j, j < nl → N (T 8 j) = j) (hi : i < nl) : q4_ T (g 2) nl (fs_ a 39 i v) (xsi σ 133 (T 8 i) v) := by
  refine ⟨h.1, fun j hj => ?_⟩
  obtain ⟨⟨a1, a2⟩, a3, ⟨a4, a5, a6⟩, a7, a8, a9, a10, a11⟩ := h.2 j hj
  refine ⟨⟨a1, a2⟩, a3, ⟨a4, a5, a6⟩, a7, ?_, a9, a10, a11⟩
  show va_up (xi σ 133) (T 8 i) v (T 8 j) = upd (a.1 39) i v j
  by_cases c : j = i
  · rw [c, va_up_self, w_updS]
  · rw [va_up_ne _ _ (fun e => c (by rw [← hN j hj, e, hN i hi])), w_updN c]
    exact a8
theorem q4_134 {σ : kx_S} {i : Nat} {v : Int32} (h : q4_ T (g 2) nl a σ) (hN : ∀ j, j < nl → N (T 8 j) = j) (hi : i < nl) : q4_ T (g 2) nl (fs_ a 40 i v) (xsi σ 134 (T 8 i) v) := by
  refine ⟨h.1, fun j hj => ?_⟩
  obtain ⟨⟨a1, a2⟩, a3, ⟨a4, a5, a6⟩, a7, a8, a9, a10, a11⟩ := h.2 j hj
  refine ⟨⟨a1, a2⟩, a3, ⟨a4, a5, a6⟩, a7, a8, ?_, a10, a11⟩
  show va_up (xi σ 134) (T 8 i) v (T 8 j) = upd (a.1 40) i v j
  by_cases c : j = i
  · rw [c, va_up_self, w_updS]
  · rw [va_up_ne _ _ (fun e => c (by rw [← hN j hj, e, hN i hi])), w_updN c]
    exact a9
theorem q4_135 {σ : kx_S} {i : Nat} {v : Int32} (h : q4_ T (g 2) nl a σ) (hN : ∀ j, j < nl → N (T 8 j) = j) (hi : i < nl) : q4_ T (g 2) nl (fs_ a 41 i v) (xsi σ 135 (T 8 i) v) := by
  refine ⟨h.1, fun j hj => ?_⟩
  obtain ⟨⟨a1, a2⟩, a3, ⟨a4, a5, a6⟩, a7, a8, a9, a10, a11⟩ := h.2 j hj
  refine ⟨⟨a1, a2⟩, a3, ⟨a4, a5, a6⟩, a7, a8, a9, ?_, a11⟩
  show va_up (xi σ 135) (T 8 i) v (T 8 j) = upd (a.1 41) i v j
  by_cases c : j = i
  · rw [c, va_up_self, w_updS]
  · rw [va_up_ne _ _ (fun e => c (by rw [← hN j hj, e, hN i hi])), w_updN c]
    exact a10
theorem q4_136 {σ : kx_S} {i : Nat} {v : Int32} (h : q4_ T (g 2) nl a σ) (hN : ∀ j, j < nl → N (T 8 j) = j) (hi : i < nl) : q4_ T (g 2) nl (fs_ a 42 i v) (xsi σ 136 (T 8 i) v) := by
  refine ⟨h.1, fun j hj => ?_⟩
  obtain ⟨⟨a1, a2⟩, a3, ⟨a4, a5, a6⟩, a7, a8, a9, a10, a11⟩ := h.2 j hj
  refine ⟨⟨a1, a2⟩, a3, ⟨a4, a5, a6⟩, a7, a8, a9, a10, ?_⟩
  show va_up (xi σ 136) (T 8 i) v (T 8 j) = upd (a.1 42) i v j
  by_cases c : j = i
  · rw [c, va_up_self, w_updS]
  · rw [va_up_ne _ _ (fun e => c (by rw [← hN j hj, e, hN i hi])), w_updN c]
    exact a11
theorem q3_add {σ τ : kx_S} {k x : Nat} (h : q3_ T nr a σ) (hk : vk_ nr a k) (hN : ∀ k, vk_ nr a k → N (T 1 k) = k) (h4 : (a.2 k).length ≤ 400) (A : ya_ (T 1 k) (T 8 x) σ τ) : q3_ T nr (ks_ a k (a.2 k ++ [x])) τ := by
  obtain ⟨a1, a2, a3, a4, a5, a6, a7, a8⟩ := A
  intro k' hk'
  have hk' : vk_ nr a k' := hk'
  obtain ⟨b1, b2, b3⟩ := h k' hk'
  refine ⟨fg_tag a1 b1 (by decide), ?_, fun i y hy => ?_⟩
  · by_cases e : k' = k
    · subst e
      rw [ks_s, a4, va_up_self, ki_add (by rw [b2, ki_z1]; omega) (by rw [b2, ki_z1]; omega), b2, ki_z1, List.length_append]
      rfl
    · rw [ks_n e, a4, va_up_ne _ _ (fun q => e (by rw [← hN k' hk', q, hN k hk]))]
      exact b2
  · by_cases e : k' = k
    · subst e
      rw [ks_s] at hy
      by_cases c : i < (a.2 k').length
      · rw [List.getElem?_append_left c] at hy
        rw [a6 _ b1 i (by omega)]
        exact b3 i y hy
      · have hlt : i < (a.2 k').length + 1 := by
          have := (List.getElem?_eq_some_iff.1 hy).1
          rw [List.length_append] at this
          exact this
        have ei : i = (a.2 k').length := by omega
        subst ei
        rw [List.getElem?_append_right (Nat.le_refl _), Nat.sub_self] at hy
        have : x = y := Option.some.inj hy
        rw [← this]
        have e2 : (xi σ 18 (T 1 k')).toNatClampNeg = (a.2 k').length := by rw [ki_nat, b2]; omega
        rw [← e2]
        exact a7
    · rw [ks_n e] at hy
      have hlt := (List.getElem?_eq_some_iff.1 hy).1
      rw [a6 _ b1 i (by omega)]
      exact b3 i y hy
theorem q3_rem {σ τ : kx_S} {k x : Nat} {P R : List Nat} (h : q3_ T nr a σ) (hk : vk_ nr a k) (hN : ∀ k, vk_ nr a k → N (T 1 k) = k) (h4 : (a.2 k).length ≤ 400) (hL : a.2 k = P ++ x :: R) (A : yr_ (T 1 k) σ τ) (A1 : ∀ j, j < P.length → xe τ (T 1 k) j = xe σ (T 1 k) j) (A2 : ∀ j, P.length ≤ j → j + 1 < (a.2 k).length → xe τ (T 1 k) j = xe σ (T 1 k) (j + 1)) : q3_ T nr (ks_ a k (P ++ R)) τ := by
  obtain ⟨a1, a2, a3, a4, a5, a6, a7⟩ := A
  have hl : (a.2 k).length = P.length + R.length + 1 := by rw [hL, List.length_append, List.length_cons]; omega
  intro k' hk'
  have hk' : vk_ nr a k' := hk'
  obtain ⟨b1, b2, b3⟩ := h k' hk'
  refine ⟨by rw [a2]; exact b1, ?_, fun i y hy => ?_⟩
  · by_cases e : k' = k
    · subst e
      rw [ks_s, a4, va_up_self, ki_sub (by rw [b2, ki_z1]; omega) (by rw [b2, ki_z1]; omega), b2, ki_z1, List.length_append]
      omega
    · rw [ks_n e, a4, va_up_ne _ _ (fun q => e (by rw [← hN k' hk', q, hN k hk]))]
      exact b2
  · by_cases e : k' = k
    · subst e
      rw [ks_s] at hy
      have hlt := (List.getElem?_eq_some_iff.1 hy).1
      rw [List.length_append] at hlt
      by_cases c : i < P.length
      · rw [A1 i c]
        refine b3 i y ?_
        rw [hL, List.getElem?_append_left c]
        rw [List.getElem?_append_left c] at hy
        exact hy
      · rw [A2 i (by omega) (by omega)]
        refine b3 (i + 1) y ?_
        rw [List.getElem?_append_right (by omega)] at hy
        rw [hL, List.getElem?_append_right (by omega), show i + 1 - P.length = (i - P.length) + 1 by omega, List.getElem?_cons_succ]
        exact hy
    · rw [ks_n e] at hy
      have hlt := (List.getElem?_eq_some_iff.1 hy).1
      rw [a6 _ b1 (fun q => e (by rw [← hN k' hk', q, hN k hk])) (by omega) i]
      exact b3 i y hy
theorem vq_canTake {σ : kx_S} {r c : Nat} {ci : Int32} {Q : Int32 → kx_S → Prop} (h1 : q1_ T (g 1) nr a σ) (h2 : q2_ T nr a σ) (h3 : q3_ T nr a σ) (hr : r < nr) (hc : ci.toInt = (c : Int)) (k1 : c < ln_ a r → a_open a r c = true → Q 1 σ) (k0 : ¬ (c < ln_ a r ∧ a_open a r c = true) → Q 0 σ) : vX8_canTake (T 10 r) ci σ Q := by
  obtain ⟨_, _, _, _, _, b1, b2, b3, b4⟩ := h1.2 r hr
  unfold vX8_canTake
  refine ⟨fun x => ?_, fun _ _ a3 e3 _ => ?_⟩
  · rw [ki_lt, ki_z0, hc] at x
    omega
  obtain rfl := Option.some.inj (b1.symm.trans e3)
  unfold vJx4a65c_size_8abf5
  intro _
  rw [ki_lt, hc, b3]
  refine ⟨fun d => ?_, fun d => k0 (fun q => d (by have := q.1; omega))⟩
  have hlt : c < ln_ a r := by omega
  intro _ a10 e10 _
  obtain rfl := Option.some.inj (b1.symm.trans e10)
  refine vy_get (fun _ _ => ?_)
  have ec : ci.toNatClampNeg = c := by rw [ki_nat, hc]; omega
  obtain ⟨⟨c1, c2⟩, c3, c4, c5, c6⟩ := h2 r hr c hlt
  obtain ⟨d1, d2, d3⟩ := h3 _ (vk_cell hr hlt)
  rw [ec, c1]
  intro a15 e15 _
  obtain rfl := Option.some.inj e15
  rw [c5]
  refine ⟨fun e => k0 (fun q => e (a_openT.1 q.2).2), fun e a19 e19 _ => ?_⟩
  obtain rfl := Option.some.inj (c4.symm.trans e19)
  intro _ _
  rw [c3, ki_le, d2]
  exact ⟨fun q => k0 (fun z => by have := (a_openT.1 z.2).1; omega), fun q => k1 hlt (a_openT.2 ⟨by omega, e⟩)⟩
theorem nI_at {i : Int32} {k : Nat} (h : i.toInt = (k : Int)) (hk : k ≤ 500) : i = nI k := ki_eq.2 (by rw [h, t_nI hk])
theorem vq_takes {s : sz_T} {B n : Nat} {σ : kx_S} {r c x : Nat} {ci : Int32} {Q : Int32 → kx_S → Prop} (J : yJ_ s g κ B n σ) (hB : B ≤ 3000) (hn : n ≤ 200) (h0 : q0_ T N g κ nr nl a) (h1 : q1_ T (g 1) nr a σ) (h2 : q2_ T nr a σ) (h3 : q3_ T nr a σ) (h4 : q4_ T (g 2) nl a σ) (h10 : nr ≤ 10) (hr : r < nr) (hc : ci.toInt = (c : Int)) (hx : x < nl)
    (k1 : c < ln_ a r → a_open a r c = true → ∀ τ, yJ_ s g κ B n τ → hf_ [132, 133, 134] g κ st na σ τ → q3_ T nr (a_take a x r c) τ → q4_ T (g 2) nl (a_take a x r c) τ → Q 1 τ) (k0 : ¬ (c < ln_ a r ∧ a_open a r c = true) → Q 0 σ) : vX8_takes (T 10 r) (T 8 x) ci σ Q := by
  obtain ⟨_, b0, _, _, _, b1, b2, b3, b4⟩ := h1.2 r hr
  have b00 := (h1.2 r hr).1.2
  unfold vX8_takes
  intro _
  refine vq_canTake h1 h2 h3 hr hc (fun hlt ho => ⟨fun _ => ?_, fun q => absurd q (by decide)⟩) (fun q => ⟨fun z => absurd rfl z, fun _ => k0 q⟩)
  intro _ a6 e6 _
  obtain rfl := Option.some.inj (b1.symm.trans e6)
  refine vy_get (fun _ _ => ?_)
  have ec : ci.toNatClampNeg = c := by rw [ki_nat, hc]; omega
  obtain ⟨⟨c1, c2⟩, c3, c4, c5, c6⟩ := h2 r hr c hlt
  obtain ⟨d1, d2, d3⟩ := h3 _ (vk_cell hr hlt)
  obtain ⟨⟨l1, l2⟩, l3, _⟩ := h4.2 x hx
  obtain ⟨t1, t2, t3⟩ := h0.1 _ (vk_cell hr hlt)
  have cry := (J.2.2.2.1 _).2.1 c2
  rw [c3] at cry
  have hop := (a_openT.1 ho).1
  rw [ec, c1]
  intro a11 e11 _
  obtain rfl := Option.some.inj e11
  intro a14 e14 _
  obtain rfl := Option.some.inj (c4.symm.trans e14)
  refine vy_addlog J hB hn d1 t1 t2 l2 (by omega) (fun τ J' A X => ?_)
  have F1 : hf_ [] g κ st na σ τ := hf_add hf_refl A X t1 t2
  have q4' := q4_hf (a := a) h4 F1 (yg2 J).2.1 (fun f hf => absurd hf (List.not_mem_nil))
  have q3' := q3_add (x := x) h3 (vk_cell hr hlt) (fun k hk => (h0.1 k hk).2.2) (by omega) A
  intro _ _
  unfold vX6_floatIn
  rintro _ σ2 rfl σ4 rfl σ6 rfl
  have e160 : xi τ 160 (T 10 r) = nI r := by
    rw [F1.2.1 160 _ (List.not_mem_nil) (by decide) (by decide) (by rw [b00]; decide)]
    exact nI_at b0 (by omega)
  have e160' : xi (xsi τ 132 (T 8 x) 1) 160 (T 10 r) = nI r := e160
  have eci : ci = nI c := nI_at hc (by omega)
  have hN := h0.2.2.2
  refine k1 hlt ho _ (yI_si (by decide) (yI_si (by decide) (yI_si (by decide) J'))) (hf_si (hf_si (hf_si (hf_sub F1 (fun f hf => absurd hf (List.not_mem_nil))) (by decide) (by decide)) (by decide) (by decide)) (by decide) (by decide)) q3' ?_
  have z := q4_134 (v := ci) (q4_133 (v := xi τ 160 (T 10 r)) (q4_132 (v := 1) (a := ks_ a (12 * r + c) (a.2 (12 * r + c) ++ [x])) q4' hN hx) hN hx) hN hx
  rw [e160, eci] at z
  rw [e160, eci]
  exact z
end
/-! laws -/
def q7_ (T : Nat → Nat → Nat) (g3 m : Nat) (day : Nat → Int32) (RL : Nat → List (Bool × List Int32)) (st na : Nat) (σ : kx_S) : Prop := (xi σ 18 g3).toInt = (m : Int) ∧ m ≤ 6 ∧ ∀ i, i < m → (xe σ g3 i = some (T 6 i) ∧ xt σ (T 6 i) = 6) ∧ xi σ 96 (T 6 i) = day i ∧ (lc_ (T 6 i) (T 20 i) (p_flat (RL i)) σ ∧ xt σ (T 20 i) = 20) ∧ T 20 i ≠ st ∧ T 20 i ≠ na ∧ ∀ x ∈ RL i, ed_ 33 x.2 0 1
def qj_ (J st na : Nat) (σ : kx_S) : Prop := j0_ J st na σ ∧ xt σ J = 5 ∧ xt σ st = 20 ∧ xt σ na = 20
section
variable {T : Nat → Nat → Nat} {N : Nat → Nat} {W : List Nat} {g κ : Nat → Nat} {st na nr nl m : Nat} {a : ra_T} {day : Nat → Int32} {RL : Nat → List (Bool × List Int32)}
theorem qj_hf {σ τ : kx_S} (h : qj_ (g 8) st na σ) (F : hf_ W g κ st na σ τ) : qj_ (g 8) st na τ := by
  obtain ⟨⟨a1, a2, a3, a4, a5⟩, b1, b2, b3⟩ := h
  refine ⟨⟨?_, ?_, ?_, ?_, a5⟩, fg_tag F.1 b1 (by decide), fg_tag F.1 b2 (by decide), fg_tag F.1 b3 (by decide)⟩
  · rw [F.1.2.1 80 _ (by decide) (by rw [b1]; decide)]; exact a1
  · rw [F.1.2.1 81 _ (by decide) (by rw [b1]; decide)]; exact a2
  · rw [F.1.2.2.1 _ (by rw [b2]; decide)]; exact a3
  · rw [F.1.2.2.1 _ (by rw [b3]; decide)]; exact a4
theorem q7_hf {σ τ : kx_S} (h : q7_ T (g 3) m day RL st na σ) (F : hf_ W g κ st na σ τ) (t3 : xt σ (g 3) = 1) (k3 : κ (g 3) = 6) (hW : 96 ∉ W) : q7_ T (g 3) m day RL st na τ := by
  obtain ⟨h1, h2, h3⟩ := h
  obtain ⟨f1, f2⟩ := F.2.2.1 (g 3) t3 (.inl (by rw [k3]; decide))
  refine ⟨by rw [f1]; exact h1, h2, fun i hi => ?_⟩
  obtain ⟨⟨a1, a2⟩, a3, ⟨⟨b1, b2, b3, b4⟩, b5⟩, a4, a5, a6⟩ := h3 i hi
  have t6 : xt σ (T 6 i) ≠ 0 := by rw [a2]; decide
  have t20 : xt σ (T 20 i) ≠ 0 := by rw [b5]; decide
  refine ⟨⟨by rw [f2 i (by omega)]; exact a1, fg_tag F.1 a2 (by decide)⟩, by rw [F.2.1 96 _ hW (by decide) (by decide) t6]; exact a3, ⟨⟨by rw [F.1.2.1 97 _ (by decide) t6]; exact b1, by rw [F.1.2.2.1 _ t20]; exact b2, b3, fun j hj => ?_⟩, fg_tag F.1 b5 (by decide)⟩, a4, a5, a6⟩
  rw [F.2.2.2.1 _ t20 a4 a5]
  exact b4 j hj
/-- judging, where only what it leaves is asked -/
theorem vq_weigh {s : sz_T} {B n : Nat} {σ : kx_S} {x : Nat} {ri hi : Int32} {Q : kx_S → Prop} (J : yJ_ s g κ B n σ) (hj : qj_ (g 8) st na σ) (h7 : q7_ T (g 3) m day RL st na σ) (hx : xt σ x = 8) (kk : ∀ τ, yJ_ s g κ B n τ → jr_ (g 8) st na σ τ → xi τ 83 (g 8) = (if e_barO (e_nm x ri hi σ) ((lf_ day (xi σ 217 (g 0) / 24) m 0 none).map RL) = true then 1 else 0) → Q τ) : vX11_lawInForce (g 0) σ (fun q σ' => vX3_weigh (g 8) q x ri hi σ' Q) := by
  refine vj_force (lw := T 6) (day := day) (yg3 J).1 h7.1 h7.2.1 rfl (fun i hi => ⟨(h7.2.2 i hi).1.1, (h7.2.2 i hi).2.1⟩) ?_
  have hlt : ∀ q, lf_ day (xi σ 217 (g 0) / 24) m 0 none = some q → q < m := lf_lt m 0 none (by omega) (fun q e => absurd e (by simp))
  generalize lf_ day (xi σ 217 (g 0) / 24) m 0 none = l at *
  have tags : ∀ b, l.map (T 6) = some b → xt σ b = 6 := by
    intro b e
    cases l with
    | none => exact absurd e (by simp)
    | some q =>
      have e : some (T 6 q) = some b := e
      rw [← Option.some.inj e]
      exact (h7.2.2 q (hlt q rfl)).1.2
  have w1 : wX3_weigh (g 8) (l.map (T 6)) x ri hi σ (fun τ => yJ_ s g κ B n τ) := rx_weigh (yW_refl J) hj.2.1 hx tags (fun τ K _ => K.1)
  have v1 : vX3_weigh (g 8) (l.map (T 6)) x ri hi σ (fun τ => jr_ (g 8) st na σ τ ∧ xi τ 83 (g 8) = (if e_barO (e_nm x ri hi σ) (l.map RL) = true then 1 else 0)) := by
    refine vj_weigh hj.1 (fun e => by rw [e, hj.2.1] at hx; exact absurd hx (by decide)) (fun e => ?_) (fun b e => ?_) (fun u k1 k2 => ⟨k1, k2⟩)
    · cases l with
      | none => rfl
      | some q => exact absurd e (by simp)
    · cases l with
      | none => exact absurd e (by simp)
      | some q =>
        have e : some (T 6 q) = some b := e
        obtain ⟨_, _, ⟨b1, _⟩, a4, a5, a6⟩ := h7.2.2 q (hlt q rfl)
        rw [← Option.some.inj e]
        exact ⟨T 20 q, RL q, rfl, b1, a4, a5, a6⟩
  exact jaX3_weigh (fun τ h => kk τ h.1 h.2.1 h.2.2) _ _ _ _ _ _ (jcX3_weigh (Q'' := fun τ => yJ_ s g κ B n τ ∧ jr_ (g 8) st na σ τ ∧ xi τ 83 (g 8) = (if e_barO (e_nm x ri hi σ) (l.map RL) = true then 1 else 0)) (fun _ a b => ⟨a, b⟩) _ _ _ _ _ _ w1 v1)
end
end
section
/-! a log leaves its reach; moves on; a cell's logs; all -/
abbrev wm_W : List Nat := [82, 83, 132, 133, 134]
/-- all that a move asks of the class -/
def qa_ (T : Nat → Nat → Nat) (N g κ : Nat → Nat) (st na nr nl m : Nat) (day : Nat → Int32) (RL : Nat → List (Bool × List Int32)) (s : sz_T) (B n : Nat) (a : ra_T) (σ : kx_S) : Prop :=
  yJ_ s g κ B n σ ∧ q0_ T N g κ nr nl a ∧ q1_ T (g 1) nr a σ ∧ q2_ T nr a σ ∧ q3_ T nr a σ ∧ q4_ T (g 2) nl a σ ∧ q7_ T (g 3) m day RL st na σ ∧ qj_ (g 8) st na σ
/-- the abstract river is another, but not where it is built -/
def qs_ (a b : ra_T) : Prop := ∀ f, f ≠ 38 → f ≠ 39 → f ≠ 40 → b.1 f = a.1 f
theorem qs_refl {a : ra_T} : qs_ a a := fun _ _ _ _ => rfl
theorem qs_trans {a b c : ra_T} (h : qs_ a b) (k : qs_ b c) : qs_ a c := fun f h1 h2 h3 => (k f h1 h2 h3).trans (h f h1 h2 h3)
theorem qs_take {a : ra_T} {x r c : Nat} : qs_ a (a_take a x r c) := fun f h1 h2 h3 => (fs_n h3).trans ((fs_n h2).trans (fs_n h1))
theorem qs_heap {a : ra_T} {x r : Nat} : qs_ a (a_heap a x r) := fun f h1 _ h3 => (fs_n h3).trans (fs_n h1)
theorem qs_sea {a : ra_T} {x : Nat} : qs_ a (a_sea a x) := fun f h1 h2 h3 => (fs_n h3).trans ((fs_n h2).trans (fs_n h1))
theorem qs_drop {a b : ra_T} {x k : Nat} (h : qs_ a b) : qs_ a (a_drop b x k) := h
theorem qs_exit {a b : ra_T} {r x : Nat} (h : a_exit a r x = some b) : qs_ a b := by
  unfold a_exit at h
  split at h
  · split at h
    · rw [← Option.some.inj h]; exact qs_heap
    · exact absurd h (by simp)
  · split at h
    · exact absurd h (by simp)
    · split at h
      · rw [← Option.some.inj h]; exact qs_sea
      · split at h
        · rw [← Option.some.inj h]; exact qs_take
        · exact absurd h (by simp)
theorem qs_on {a b : ra_T} {r c sp x : Nat} (h : a_on a r c sp x = some b) : qs_ a b := by
  unfold a_on at h
  split at h
  · next e =>
    split at e
    · rw [← Option.some.inj h]; exact qs_exit e
    · exact absurd e (by simp)
  · split at h
    · exact absurd h (by simp)
    · rw [← Option.some.inj h]; exact qs_take
theorem qs_ln {a b : ra_T} (h : qs_ a b) (r : Nat) : ln_ b r = ln_ a r := by
  unfold ln_
  rw [h 14 (by decide) (by decide) (by decide)]
theorem qs_vk {a b : ra_T} {nr k : Nat} (h : qs_ a b) : vk_ nr b k ↔ vk_ nr a k := by
  unfold vk_
  have e := fun r => qs_ln h r
  simp only [e, h 22 (by decide) (by decide) (by decide)]
theorem qs_vk2 {a b : ra_T} {nr k : Nat} (h : qs_ a b) : vk2_ nr b k ↔ vk2_ nr a k := by
  unfold vk2_
  have e := fun r => qs_ln h r
  simp only [e]
section
variable {T : Nat → Nat → Nat} {N : Nat → Nat} {g κ : Nat → Nat} {st na nr nl m : Nat} {a b : ra_T} {day : Nat → Int32} {RL : Nat → List (Bool × List Int32)} {s : sz_T} {B n : Nat}
theorem q0_qs (h : q0_ T N g κ nr nl a) (k : qs_ a b) : q0_ T N g κ nr nl b := by
  refine ⟨fun x hx => h.1 x ((qs_vk k).1 hx), fun r c h1 h2 => h.2.1 r c h1 (by rw [← qs_ln k]; exact h2), h.2.2⟩
theorem q1_qs {σ : kx_S} (h : q1_ T (g 1) nr a σ) (k : qs_ a b) : q1_ T (g 1) nr b σ := by
  have e := fun f h1 h2 h3 => k f h1 h2 h3
  unfold q1_ at h ⊢
  simp only [qs_ln k, k 16 (by decide) (by decide) (by decide), k 21 (by decide) (by decide) (by decide), k 18 (by decide) (by decide) (by decide), k 19 (by decide) (by decide) (by decide), k 23 (by decide) (by decide) (by decide), k 13 (by decide) (by decide) (by decide), k 22 (by decide) (by decide) (by decide), k 27 (by decide) (by decide) (by decide), k 28 (by decide) (by decide) (by decide)]
  exact h
theorem q2_qs {σ : kx_S} (h : q2_ T nr a σ) (k : qs_ a b) : q2_ T nr b σ := by
  unfold q2_ at h ⊢
  simp only [qs_ln k, k 15 (by decide) (by decide) (by decide), k 33 (by decide) (by decide) (by decide), k 34 (by decide) (by decide) (by decide)]
  exact h
/-- the rest follows a move by its frame -/
theorem qa_mv {σ τ : kx_S} (h : qa_ T N g κ st na nr nl m day RL s B n a σ) (k : qs_ a b) (J : yJ_ s g κ B n τ) (F : hf_ wm_W g κ st na σ τ) (h3 : q3_ T nr b τ) (h4 : q4_ T (g 2) nl b τ) : qa_ T N g κ st na nr nl m day RL s B n b τ := by
  obtain ⟨J0, a0, a1, a2, a3, a4, a7, aj⟩ := h
  have kc : ∀ r, r < nr → κ (T 21 r) = 3 := fun r hr => (a0.2.2.1 r hr).1
  exact ⟨J, q0_qs a0 k, q1_qs (q1_hf a1 F (yg1 J0).2.1 (yg1 J0).2.2 kc (by decide)) k, q2_qs (q2_hf a2 a1 F kc (by decide)) k, h3, h4, q7_hf a7 F (yg3 J0).2.1 (yg3 J0).2.2 (by decide), qj_hf aj F⟩
theorem vq_leaves {σ : kx_S} {r x : Nat} {Q : Int32 → kx_S → Prop} (hB : B ≤ 3000) (hn : n ≤ 200) (h10 : nr ≤ 10) (H : qa_ T N g κ st na nr nl m day RL s B n a σ) (hr : r < nr) (hx : x < nl)
    (k1 : ∀ b τ, a_exit a r x = some b → yJ_ s g κ B n τ → hf_ wm_W g κ st na σ τ → q3_ T nr b τ → q4_ T (g 2) nl b τ → Q 1 τ) (k0 : a_exit a r x = none → Q 0 σ) : vX11_leaves (g 0) (T 8 x) (T 10 r) σ Q := by
  obtain ⟨J, h0, h1, h2, h3, h4, h7, hj⟩ := H
  obtain ⟨⟨b0, b00⟩, b160, ⟨_, b165, _, b170, _⟩, b161, b172, _⟩ := h1.2 r hr
  obtain ⟨⟨l1, l2⟩, l128, ⟨l129, _⟩, _⟩ := h4.2 x hx
  have hN := h0.2.2.2
  have tR : xt σ (T 10 r) ≠ 0 := by rw [b00]; decide
  have n122 : ¬ (¬ a.1 22 r = 0 ∧ ((a.1 27 r >>> (a.1 35 x &&& 31)) &&& 1) = 1) → ¬ (¬ a.1 21 r = 0 ∧ ¬ 50 ≤ a.1 19 r) → vX11_leaves_122 Q (T 8 x) (T 10 r) σ := by
    intro n1 n2
    have e0 : a_exit a r x = if a.1 13 r = -1 then some (a_sea a x) else if a_open a (a.1 13 r).toNatClampNeg 0 = true then some (a_take a x (a.1 13 r).toNatClampNeg 0) else none := by
      unfold a_exit
      rw [if_neg n1, if_neg n2]
    unfold vX11_leaves_122
    intro _
    refine ⟨fun a3 e3 a4 e4 _ => ?_, fun e _ => ?_⟩
    · obtain ⟨q, q1, q2, q3⟩ : ∃ q : Nat, (a.1 13 r).toInt = (q : Int) ∧ q < r ∧ xr σ 161 (T 10 r) = some (T 10 q) := by
        rcases b161 with z | z
        · rw [z.1] at e3; exact absurd e3 (by simp)
        · exact z
      obtain rfl := Option.some.inj (q3.symm.trans e4)
      have nm : ¬ a.1 13 r = -1 := by rw [ki_eq, ki_zm]; omega
      have eq : (a.1 13 r).toNatClampNeg = q := by rw [ki_nat]; omega
      rw [if_neg nm, eq] at e0
      obtain ⟨_, _, _, _, _, _, _, _, _, lq⟩ := h1.2 q (by omega)
      refine vq_takes (st := st) (na := na) J hB hn h0 h1 h2 h3 h4 h10 (by omega) (c := 0) rfl hx (fun _ ho τ J' F' q3' q4' => ?_) (fun no => ?_)
      · intro _
        rw [if_pos ho] at e0
        exact k1 _ τ e0 J' (hf_sub F' (by decide)) q3' q4'
      · intro _
        by_cases ho : a_open a q 0 = true
        · exact absurd ⟨lq, ho⟩ no
        · rw [if_neg ho] at e0
          exact k0 e0
    · have nm : a.1 13 r = -1 := by
        rcases b161 with z | ⟨q, _, _, z⟩
        · exact z.2
        · rw [e] at z; exact absurd z (by simp)
      rw [if_pos nm] at e0
      unfold vX6_goToSea
      rintro _ σ2 rfl σ4 rfl σ6 rfl
      refine k1 _ _ e0 (yI_si (by decide) (yI_si (by decide) (yI_si (by decide) J))) (hf_si (hf_si (hf_si hf_refl (by decide) (by decide)) (by decide) (by decide)) (by decide) (by decide)) h3 ?_
      exact q4_134 (q4_133 (q4_132 h4 hN hx) hN hx) hN hx
  have n104 : ¬ (¬ a.1 22 r = 0 ∧ ((a.1 27 r >>> (a.1 35 x &&& 31)) &&& 1) = 1) → vX11_leaves_104 Q (T 8 x) (T 10 r) σ := by
    intro n1
    unfold vX11_leaves_104
    intro _
    rw [b165, b170]
    refine ⟨fun e => n122 n1 (fun q => q.1 e), fun e => ⟨fun d => n122 n1 (fun q => q.2 d), fun d => k0 ?_⟩⟩
    unfold a_exit
    rw [if_neg n1, if_pos ⟨e, d⟩]
  unfold vX11_leaves
  intro _
  refine ⟨fun e => n104 ?_, fun a16 e16 => ?_⟩
  · rcases b172 with z | ⟨_, z, _⟩
    · exact fun q => q.1 z.2
    · rw [e] at z; exact absurd z (by simp)
  · obtain ⟨z0, z1, z2, z3, z4, z5, z6⟩ : ¬ a.1 22 r = 0 ∧ xr σ 172 (T 10 r) = some (T 2 r) ∧ xt σ (T 2 r) = 2 ∧ xr σ 32 (T 2 r) = some (T 1 (120 + r)) ∧ xr σ 33 (T 2 r) = some (T 22 r) ∧ xi σ 34 (T 2 r) = a.1 27 r ∧ xi σ 35 (T 2 r) = a.1 28 r := by
      rcases b172 with z | z
      · rw [z.1] at e16; exact absurd e16 (by simp)
      · exact z
    have hk : vk_ nr a (120 + r) := .inr ⟨r, hr, z0, rfl⟩
    obtain ⟨d1, d2, d3⟩ := h3 _ hk
    obtain ⟨t1, t2, t3⟩ := h0.1 _ hk
    have room := (J.2.2.2.1 _).1 z2
    rw [z6] at room
    intro a17 e17 _ _
    obtain rfl := Option.some.inj (z1.symm.trans e17)
    unfold vX0_catches
    intro _
    rw [z5, l129]
    refine ⟨fun c => ⟨fun _ => n104 (fun q => c q.2), fun q => absurd rfl q⟩, fun c => ⟨fun q => absurd q (by decide), fun _ => ?_⟩⟩
    intro _ a25 e25 _
    obtain rfl := Option.some.inj (z1.symm.trans e25)
    intro a28 e28 _
    obtain rfl := Option.some.inj (z3.symm.trans e28)
    unfold vJx4a65c_size_8abf5
    intro _ _ a34 e34 _
    obtain rfl := Option.some.inj (z1.symm.trans e34)
    rw [z6, ki_lt, d2]
    have e0 : a_exit a r x = if ((a.2 (120 + r)).length : Int) < (a.1 28 r).toInt then some (a_heap a x r) else none := by
      unfold a_exit
      rw [if_pos ⟨z0, c⟩]
    refine ⟨fun d => ?_, fun d => k0 (by rw [e0, if_neg d])⟩
    rw [if_pos d] at e0
    intro _ a39 e39
    obtain rfl := Option.some.inj ((yg8 J).1.symm.trans e39)
    have wg := vq_weigh (Q := fun σ45 => xt σ45 (g 0) = 13 → ∀ a48, xr σ45 216 (g 0) = some a48 → xt σ45 (T 8 x) = 8 → xt σ45 a48 = 21 → vp_in (xi σ45 129 (T 8 x)) (xn σ45 a48) → ∀ a53, xr σ45 215 (g 0) = some a53 → xt σ45 a53 = 5 → vp_in (xi σ45 129 (T 8 x)) (xn σ45 a48) → ∀ σ57, σ57 = xsal σ45 a48 (xi σ45 129 (T 8 x)).toNatClampNeg ((xal σ45 a48 (xi σ45 129 (T 8 x)).toNatClampNeg) + (xl σ45 84 a53)) → vX6_lieInHeap (T 8 x) σ57 (fun σ62 => xt σ62 (T 10 r) = 10 → ∀ a64, xr σ62 172 (T 10 r) = some a64 → xt σ62 a64 = 2 → ∀ a67, xr σ62 32 a64 = some a67 → xt σ62 a67 = 1 → vJx4a65c_add_9ea2d a67 (T 8 x) σ62 (fun r70 σ69 => Q 1 σ69))) (ri := xi σ 160 (T 10 r)) (hi := xi σ 217 (g 0)) J hj h7 l2 (fun τ J1 R1 _ => ?_)
    · exact jaX11_lawInForce (Q := fun q σ' => σ' = σ ∧ vX3_weigh (g 8) q (T 8 x) (xi σ 160 (T 10 r)) (xi σ 217 (g 0)) σ' _) (fun q σ' h => by
        obtain ⟨h1, h2⟩ := h
        subst h1
        intro _ _ _
        exact h2) _ _ (jcX11_lawInForce (Q := fun q σ' => σ' = σ) (fun q σ' a b => ⟨a, b⟩) _ _ (rx_lawInForce J (fun q _ => rfl)) wg)
    · intro _ a48 e48 _ _ _ a53 e53 _ _ σ57 e57
      subst e57
      unfold vX6_lieInHeap
      rintro _ σ2 rfl σ4 rfl
      have F1 : hf_ wm_W g κ st na σ τ := hf_jr hf_refl R1 (by decide) (by decide)
      have q4a := q4_hf (a := a) h4 (hf_jr (W := [82, 83]) (κ := κ) hf_refl R1 (by decide) (by decide)) (yg2 J).2.1 (by decide)
      have q3a : q3_ T nr a τ := by
        intro k hk'
        obtain ⟨u1, u2, u3⟩ := h3 k hk'
        refine ⟨fg_tag F1.1 u1 (by decide), ?_, fun i y hy => ?_⟩
        · rw [R1.1 18 _ (by rintro ⟨_, q | q⟩ <;> exact absurd q (by decide))]
          exact u2
        · refine Eq.trans ?_ (u3 i y hy)
          have e1 : xr τ 17 (T 1 k) = xr σ 17 (T 1 k) := by show τ.2.2.1 17 _ = σ.2.2.1 17 _; rw [R1.2.2.1]
          unfold xe
          rw [e1]
          split
          · show τ.2.2.2.2.2.2.2.1 _ _ = σ.2.2.2.2.2.2.2.1 _ _
            rw [R1.2.2.2.2.2.2]
          · rfl
      intro _ a64 e64 _ a67 e67 _
      have e64 : xr τ 172 (T 10 r) = some a64 := e64
      rw [F1.1.2.1 172 _ (by decide) tR] at e64
      obtain rfl := Option.some.inj (z1.symm.trans e64)
      have e67 : xr τ 32 (T 2 r) = some a67 := e67
      rw [F1.1.2.1 32 _ (by decide) (by rw [z2]; decide)] at e67
      obtain rfl := Option.some.inj (z3.symm.trans e67)
      have J4 := yI_si (f := 134) (a := T 8 x) (v := -1) (by decide) (yI_si (f := 132) (a := T 8 x) (v := 2) (by decide) (yI_sal (i := (xi τ 129 (T 8 x)).toNatClampNeg) (a := a48) (v := xal τ a48 (xi τ 129 (T 8 x)).toNatClampNeg + xl τ 84 a53) J1))
      have q4b := q4_134 (v := -1) (q4_132 (v := 2) (a := a) (σ := xsal τ a48 (xi τ 129 (T 8 x)).toNatClampNeg (xal τ a48 (xi τ 129 (T 8 x)).toNatClampNeg + xl τ 84 a53)) q4a hN hx) hN hx
      have q3b : q3_ T nr (fs_ (fs_ a 38 x 2) 40 x (-1)) (xsi (xsi (xsal τ a48 (xi τ 129 (T 8 x)).toNatClampNeg (xal τ a48 (xi τ 129 (T 8 x)).toNatClampNeg + xl τ 84 a53)) 132 (T 8 x) 2) 134 (T 8 x) (-1)) := q3a
      have F4 : hf_ wm_W g κ st na σ (xsi (xsi (xsal τ a48 (xi τ 129 (T 8 x)).toNatClampNeg (xal τ a48 (xi τ 129 (T 8 x)).toNatClampNeg + xl τ 84 a53)) 132 (T 8 x) 2) 134 (T 8 x) (-1)) := hf_si (hf_si (hf_sal F1) (by decide) (by decide)) (by decide) (by decide)
      generalize xsi (xsi (xsal τ a48 (xi τ 129 (T 8 x)).toNatClampNeg (xal τ a48 (xi τ 129 (T 8 x)).toNatClampNeg + xl τ 84 a53)) 132 (T 8 x) 2) 134 (T 8 x) (-1) = τ4 at *
      obtain ⟨u1, u2, u3⟩ := q3b (120 + r) hk
      have u2 : (xi τ4 18 (T 1 (120 + r))).toInt = ((a.2 (120 + r)).length : Int) := u2
      refine vy_addlog J4 hB hn u1 t1 t2 (fg_tag F4.1 l2 (by decide)) (by omega) (fun τ5 J5 A5 X5 => ?_)
      refine k1 _ τ5 e0 J5 (hf_add F4 A5 X5 t1 t2) ?_ ?_
      · exact q3_add (a := fs_ (fs_ a 38 x 2) 40 x (-1)) (N := N) q3b hk (fun k hk' => (h0.1 k hk').2.2) (by show (a.2 (120 + r)).length ≤ 400; omega) A5
      · exact q4_hf (W := []) (κ := κ) (st := st) (na := na) q4b (hf_add hf_refl A5 X5 t1 t2) (fg_tag F4.1 (yg2 J).2.1 (by decide)) (fun f hf => absurd hf (List.not_mem_nil))
end
end
section
/-! where a log can go -/
theorem a_exit_cases {a b : ra_T} {r x nr : Nat} (h : a_exit a r x = some b) (hq : ∀ q : Nat, (a.1 13 r).toInt = (q : Int) → q < r) (hm : -1 ≤ (a.1 13 r).toInt) : (∃ q, q < r ∧ a_open a q 0 = true ∧ b = a_take a x q 0) ∨ (¬ a.1 22 r = 0 ∧ ((a.2 (120 + r)).length : Int) < (a.1 28 r).toInt ∧ b = a_heap a x r) ∨ b = a_sea a x := by
  unfold a_exit at h
  split at h
  · next c =>
    split at h
    · next d => exact .inr (.inl ⟨c.1, d, (Option.some.inj h).symm⟩)
    · exact absurd h (by simp)
  · split at h
    · exact absurd h (by simp)
    · split at h
      · exact .inr (.inr (Option.some.inj h).symm)
      · next e =>
        split at h
        · next o =>
          refine .inl ⟨(a.1 13 r).toNatClampNeg, ?_, o, (Option.some.inj h).symm⟩
          refine hq _ ?_
          rw [ki_eq, ki_zm] at e
          rw [ki_nat]
          omega
        · exact absurd h (by simp)
theorem a_on_cases {a b : ra_T} {r c sp x nr nl : Nat} (A : ao_ nr nl a) (hr : r < nr) (hc : c < ln_ a r) (h : a_on a r c sp x = some b) : (∃ r1 c1, r1 < nr ∧ c1 < ln_ a r1 ∧ 12 * r1 + c1 ≠ 12 * r + c ∧ a_open a r1 c1 = true ∧ b = a_take a x r1 c1) ∨ (¬ a.1 22 r = 0 ∧ ((a.2 (120 + r)).length : Int) < (a.1 28 r).toInt ∧ b = a_heap a x r) ∨ b = a_sea a x := by
  unfold a_on at h
  obtain ⟨_, _, _, m1, m2⟩ := A.1 r hr
  split at h
  · next e =>
    split at e
    · rw [Option.some.inj h] at e
      rcases a_exit_cases (nr := nr) e (fun q hq => by omega) m1 with ⟨q, q1, q2, q3⟩ | z | z
      · exact .inl ⟨q, 0, by omega, (A.1 q (by omega)).2.1, by omega, q2, q3⟩
      · exact .inr (.inl z)
      · exact .inr (.inr z)
    · exact absurd e (by simp)
  · split at h
    · exact absurd h (by simp)
    · next e =>
      obtain ⟨j1, j2⟩ := a_jump_ge a r sp c
      obtain ⟨j3, j4⟩ := j2 e
      exact .inl ⟨r, _, hr, j3, by omega, j4, (Option.some.inj h).symm⟩
theorem cell_ne {r c r1 c1 : Nat} (h1 : c < 12) (h2 : c1 < 12) (h : 12 * r1 + c1 = 12 * r + c) : r1 = r ∧ c1 = c := by omega
/-- a log that goes: the river keeps its order -/
theorem ao_go {a b : ra_T} {r c sp x nr nl : Nat} (h10 : nr ≤ 10) (A : ao_ nr nl a) (hr : r < nr) (hc : c < ln_ a r) (hx : x ∈ a.2 (12 * r + c)) (hb : a_on a r c sp x = some b) (hroom : ∀ r, r < nr → ¬ a.1 22 r = 0 → (a.1 28 r).toInt ≤ 100) : b.2 (12 * r + c) = a.2 (12 * r + c) ∧ ao_ nr nl (a_drop b x (12 * r + c)) := by
  have A' := A
  obtain ⟨A1, A2, A3, A4, A5, A6⟩ := A'
  have k := qs_on hb
  have c12 : c < 12 := by have := (A1 r hr).1; omega
  obtain ⟨x1, x2, x3⟩ := (A4 r c hr hc).2 x hx
  have xl := (A2 _ x hx).1
  have tr : ∀ {j y : Nat}, y < nl ∧ vk2_ nr a j → y < nl ∧ vk2_ nr (a_drop b x (12 * r + c)) j := fun h => ⟨h.1, (qs_vk2 (qs_drop k)).2 h.2⟩
  have only : ∀ r1 c1, r1 < nr → c1 < ln_ a r1 → x ∈ a.2 (12 * r1 + c1) → 12 * r1 + c1 = 12 * r + c := by
    intro r1 c1 h1 h2 h3
    obtain ⟨_, y2, y3⟩ := (A4 r1 c1 h1 h2).2 x h3
    omega
  have noheap : ∀ r1, r1 < nr → ¬ x ∈ a.2 (120 + r1) := by
    intro r1 h1 h3
    have := ((A5 r1 h1).2 x h3).1
    rw [x1] at this
    exact absurd this (by decide)
  have s1 : ∀ r1, r1 < nr → ln_ (a_drop b x (12 * r + c)) r1 ≤ 12 ∧ 1 ≤ ln_ (a_drop b x (12 * r + c)) r1 ∧ (1 ≤ ((a_drop b x (12 * r + c)).1 15 r1).toInt ∧ ((a_drop b x (12 * r + c)).1 15 r1).toInt ≤ 20) ∧ -1 ≤ ((a_drop b x (12 * r + c)).1 13 r1).toInt ∧ ((a_drop b x (12 * r + c)).1 13 r1).toInt < (r1 : Int) := by
    intro r1 h1
    show ln_ b r1 ≤ 12 ∧ 1 ≤ ln_ b r1 ∧ (1 ≤ (b.1 15 r1).toInt ∧ (b.1 15 r1).toInt ≤ 20) ∧ -1 ≤ (b.1 13 r1).toInt ∧ (b.1 13 r1).toInt < (r1 : Int)
    rw [qs_ln k, k 15 (by decide) (by decide) (by decide), k 13 (by decide) (by decide) (by decide)]
    exact A1 r1 h1
  -- a row after: of those in it, x is none but where it went
  have fil : ∀ {y : Nat} {L : List Nat}, y ∈ L.filter (fun z => decide (¬ z = x)) ↔ y ∈ L ∧ ¬ y = x := by
    intro y L
    rw [List.mem_filter, decide_eq_true_iff]
  rcases a_on_cases A hr hc hb with ⟨r1, c1, g1, g2, g3, g4, g5⟩ | ⟨g1, g2, g5⟩ | g5
  · -- into a cell
    have c112 : c1 < 12 := by have := (A1 r1 g1).1; omega
    have row : ∀ j, (a_drop b x (12 * r + c)).2 j = if j = 12 * r + c then (a.2 (12 * r + c)).filter (fun z => decide (¬ z = x)) else if j = 12 * r1 + c1 then a.2 (12 * r1 + c1) ++ [x] else a.2 j := by
      intro j
      have e1 : b.2 (12 * r + c) = a.2 (12 * r + c) := by rw [g5]; exact ks_n (Ne.symm g3)
      show (if j = 12 * r + c then (b.2 (12 * r + c)).filter (fun z => decide (¬ z = x)) else b.2 j) = _
      rw [e1]
      by_cases e : j = 12 * r + c
      · rw [if_pos e, if_pos e]
      · rw [if_neg e, if_neg e, g5]
        rfl
    have nin : ¬ x ∈ a.2 (12 * r1 + c1) := fun q => g3 (only r1 c1 g1 g2 q)
    have fld : ∀ y, ¬ y = x → b.1 38 y = a.1 38 y ∧ b.1 39 y = a.1 39 y ∧ b.1 40 y = a.1 40 y := by
      intro y hy
      rw [g5]
      exact ⟨w_updN hy, w_updN hy, w_updN hy⟩
    have f38 : b.1 38 x = 1 := by rw [g5]; exact w_updS
    have f39 : b.1 39 x = nI r1 := by rw [g5]; exact w_updS
    have f40 : b.1 40 x = nI c1 := by rw [g5]; exact w_updS
    have mem : ∀ j y, y ∈ (a_drop b x (12 * r + c)).2 j → (y = x ∧ j = 12 * r1 + c1) ∨ (¬ y = x ∧ y ∈ a.2 j) ∨ (y = x ∧ y ∈ a.2 j ∧ j ≠ 12 * r + c ∧ j ≠ 12 * r1 + c1) := by
      intro j y hy
      rw [row] at hy
      by_cases e1 : j = 12 * r + c
      · rw [if_pos e1] at hy
        obtain ⟨h1, h2⟩ := fil.1 hy
        rw [e1]
        exact .inr (.inl ⟨h2, h1⟩)
      · rw [if_neg e1] at hy
        by_cases e2 : j = 12 * r1 + c1
        · rw [if_pos e2] at hy
          rcases List.mem_append.1 hy with q | q
          · exact .inr (.inl ⟨fun z => nin (by rw [← z]; exact q), by rw [e2]; exact q⟩)
          · exact .inl ⟨List.mem_singleton.1 q, e2⟩
        · rw [if_neg e2] at hy
          by_cases e3 : y = x
          · exact .inr (.inr ⟨e3, hy, e1, e2⟩)
          · exact .inr (.inl ⟨e3, hy⟩)
    refine ⟨by rw [g5]; exact ks_n (Ne.symm g3), s1, fun j y hy => ?_, fun j => ?_, fun r2 c2 h1 h2 => ⟨?_, fun y hy => ?_⟩, fun r2 h1 => ⟨?_, fun y hy => ?_⟩, fun y hy h38 => ?_⟩
    · rcases mem j y hy with ⟨e, e2⟩ | ⟨_, e⟩ | ⟨_, e, _⟩
      · exact tr ⟨by rw [e]; exact xl, .inl ⟨r1, c1, g1, g2, e2⟩⟩
      · exact tr (A2 j y e)
      · exact tr (A2 j y e)
    · rw [row]
      split
      · exact (A3 _).filter _
      · split
        · rw [List.nodup_append]
          refine ⟨A3 _, by simp, fun y hy z hz e => ?_⟩
          rw [List.mem_singleton.1 hz] at e
          exact nin (by rw [← e]; exact hy)
        · exact A3 j
    · have h2 : c2 < ln_ b r2 := h2
      rw [qs_ln k] at h2
      have bd := (A4 r2 c2 h1 h2).1
      have h212 : c2 < 12 := by have := (A1 r2 h1).1; omega
      rw [row]
      show ((if 12 * r2 + c2 = 12 * r + c then _ else if 12 * r2 + c2 = 12 * r1 + c1 then _ else _ : List Nat).length : Int) ≤ (b.1 15 r2).toInt
      rw [k 15 (by decide) (by decide) (by decide)]
      split
      · next e =>
        have := List.length_filter_le (fun z => decide (¬ z = x)) (a.2 (12 * r + c))
        rw [e] at bd
        omega
      · split
        · next e =>
          obtain ⟨e1, e2⟩ := cell_ne h212 c112 e.symm
          rw [List.length_append]
          have := (a_openT.1 g4).1
          rw [← e1]
          show ((a.2 (12 * r1 + c1)).length + 1 : Int) ≤ _
          omega
        · exact bd
    · have h2 : c2 < ln_ b r2 := h2
      rw [qs_ln k] at h2
      have h212 : c2 < 12 := by have := (A1 r2 h1).1; omega
      show b.1 38 y = 1 ∧ (b.1 39 y).toInt = (r2 : Int) ∧ (b.1 40 y).toInt = (c2 : Int)
      rcases mem _ y hy with ⟨e, e2⟩ | ⟨e, e2⟩ | ⟨e, e2, e3, e4⟩
      · obtain ⟨i1, i2⟩ := cell_ne c112 h212 e2
        rw [e, f38, f39, f40, t_nI (by omega), t_nI (by omega), i1, i2]
        exact ⟨rfl, rfl, rfl⟩
      · obtain ⟨i1, i2, i3⟩ := fld y e
        rw [i1, i2, i3]
        exact (A4 r2 c2 h1 h2).2 y e2
      · rw [e] at e2
        exact absurd (only r2 c2 h1 h2 e2) e3
    · rw [row, if_neg (by omega), if_neg (by omega)]
      exact (A5 r2 h1).1
    · rw [row, if_neg (by omega), if_neg (by omega)] at hy
      have ne : ¬ y = x := fun e => noheap r2 h1 (by rw [← e]; exact hy)
      obtain ⟨i1, i2, _⟩ := fld y ne
      show b.1 38 y = 2 ∧ (b.1 39 y).toInt = (r2 : Int)
      rw [i1, i2]
      exact (A5 r2 h1).2 y hy
    · by_cases e : y = x
      · refine ⟨r1, c1, g1, by show c1 < ln_ b r1; rw [qs_ln k]; exact g2, ?_⟩
        rw [row, if_neg g3, if_pos rfl, e]
        exact List.mem_append.2 (.inr (List.mem_singleton.2 rfl))
      · have h38 : b.1 38 y = 1 := h38
        rw [(fld y e).1] at h38
        obtain ⟨r2, c2, i1, i2, i3⟩ := A6 y hy h38
        refine ⟨r2, c2, i1, by show c2 < ln_ b r2; rw [qs_ln k]; exact i2, ?_⟩
        rw [row]
        split
        · next q => rw [q] at i3; exact fil.2 ⟨i3, e⟩
        · split
          · next q => rw [q] at i3; exact List.mem_append.2 (.inl i3)
          · exact i3
  · -- into the heap
    have row : ∀ j, (a_drop b x (12 * r + c)).2 j = if j = 12 * r + c then (a.2 (12 * r + c)).filter (fun z => decide (¬ z = x)) else if j = 120 + r then a.2 (120 + r) ++ [x] else a.2 j := by
      intro j
      have e1 : b.2 (12 * r + c) = a.2 (12 * r + c) := by rw [g5]; exact ks_n (by omega)
      show (if j = 12 * r + c then (b.2 (12 * r + c)).filter (fun z => decide (¬ z = x)) else b.2 j) = _
      rw [e1]
      by_cases e : j = 12 * r + c
      · rw [if_pos e, if_pos e]
      · rw [if_neg e, if_neg e, g5]
        rfl
    have nin := noheap r hr
    have fld : ∀ y, ¬ y = x → b.1 38 y = a.1 38 y ∧ b.1 39 y = a.1 39 y ∧ b.1 40 y = a.1 40 y := by
      intro y hy
      rw [g5]
      exact ⟨w_updN hy, rfl, w_updN hy⟩
    have f38 : b.1 38 x = 2 := by rw [g5]; exact w_updS
    have f39 : b.1 39 x = a.1 39 x := by rw [g5]; rfl
    have room := hroom r hr g1
    refine ⟨by rw [g5]; exact ks_n (by omega), s1, fun j y hy => ?_, fun j => ?_, fun r2 c2 h1 h2 => ⟨?_, fun y hy => ?_⟩, fun r2 h1 => ⟨?_, fun y hy => ?_⟩, fun y hy h38 => ?_⟩
    · refine tr ?_
      rw [row] at hy
      split at hy
      · next e => rw [e]; exact A2 _ y (fil.1 hy).1
      · split at hy
        · next e =>
          rcases List.mem_append.1 hy with q | q
          · rw [e]; exact A2 _ y q
          · exact ⟨by rw [List.mem_singleton.1 q]; exact xl, .inr ⟨r, hr, e⟩⟩
        · exact A2 j y hy
    · rw [row]
      split
      · exact (A3 _).filter _
      · split
        · rw [List.nodup_append]
          refine ⟨A3 _, by simp, fun y hy z hz e => ?_⟩
          rw [List.mem_singleton.1 hz] at e
          exact nin (by rw [← e]; exact hy)
        · exact A3 j
    · have h2 : c2 < ln_ b r2 := h2
      rw [qs_ln k] at h2
      have h212 : c2 < 12 := by have := (A1 r2 h1).1; omega
      have bd := (A4 r2 c2 h1 h2).1
      rw [row]
      show ((if 12 * r2 + c2 = 12 * r + c then _ else if 12 * r2 + c2 = 120 + r then _ else _ : List Nat).length : Int) ≤ (b.1 15 r2).toInt
      rw [k 15 (by decide) (by decide) (by decide)]
      split
      · next e =>
        have := List.length_filter_le (fun z => decide (¬ z = x)) (a.2 (12 * r + c))
        rw [e] at bd
        omega
      · rw [if_neg (by omega)]
        exact bd
    · have h2 : c2 < ln_ b r2 := h2
      rw [qs_ln k] at h2
      have h212 : c2 < 12 := by have := (A1 r2 h1).1; omega
      rw [row] at hy
      have hh : ¬ y = x ∧ y ∈ a.2 (12 * r2 + c2) := by
        split at hy
        · next e =>
          obtain ⟨i1, i2⟩ := fil.1 hy
          rw [e]
          exact ⟨i2, i1⟩
        · next e =>
          rw [if_neg (by omega)] at hy
          refine ⟨fun q => e (only r2 c2 h1 h2 (by rw [← q]; exact hy)), hy⟩
      obtain ⟨i1, i2, i3⟩ := fld y hh.1
      show b.1 38 y = 1 ∧ (b.1 39 y).toInt = (r2 : Int) ∧ (b.1 40 y).toInt = (c2 : Int)
      rw [i1, i2, i3]
      exact (A4 r2 c2 h1 h2).2 y hh.2
    · rw [row, if_neg (by omega)]
      split
      · rw [List.length_append]
        show ((a.2 (120 + r)).length + 1 : Int) ≤ 100
        omega
      · exact (A5 r2 h1).1
    · rw [row, if_neg (by omega)] at hy
      show b.1 38 y = 2 ∧ (b.1 39 y).toInt = (r2 : Int)
      have old : y ∈ a.2 (120 + r2) → b.1 38 y = 2 ∧ (b.1 39 y).toInt = (r2 : Int) := by
        intro hy
        have ne : ¬ y = x := fun e => noheap r2 h1 (by rw [← e]; exact hy)
        obtain ⟨i1, i2, _⟩ := fld y ne
        rw [i1, i2]
        exact (A5 r2 h1).2 y hy
      split at hy
      · next e =>
        have er : r2 = r := by omega
        rcases List.mem_append.1 hy with q | q
        · exact old (by rw [er]; exact q)
        · rw [List.mem_singleton.1 q, f38, f39, x2, er]
          exact ⟨rfl, rfl⟩
      · exact old hy
    · by_cases e : y = x
      · have h38 : b.1 38 y = 1 := h38
        rw [e, f38] at h38
        exact absurd h38 (by decide)
      · have h38 : b.1 38 y = 1 := h38
        rw [(fld y e).1] at h38
        obtain ⟨r2, c2, i1, i2, i3⟩ := A6 y hy h38
        refine ⟨r2, c2, i1, by show c2 < ln_ b r2; rw [qs_ln k]; exact i2, ?_⟩
        rw [row]
        split
        · next q => rw [q] at i3; exact fil.2 ⟨i3, e⟩
        · have h212 : c2 < 12 := by have := (A1 r2 i1).1; omega
          rw [if_neg (by omega)]
          exact i3
  · -- to sea
    have row : ∀ j, (a_drop b x (12 * r + c)).2 j = if j = 12 * r + c then (a.2 (12 * r + c)).filter (fun z => decide (¬ z = x)) else a.2 j := by
      intro j
      have e1 : b.2 = a.2 := by rw [g5]; rfl
      show (if j = 12 * r + c then (b.2 (12 * r + c)).filter (fun z => decide (¬ z = x)) else b.2 j) = _
      rw [e1]
    have fld : ∀ y, ¬ y = x → b.1 38 y = a.1 38 y ∧ b.1 39 y = a.1 39 y ∧ b.1 40 y = a.1 40 y := by
      intro y hy
      rw [g5]
      exact ⟨w_updN hy, w_updN hy, w_updN hy⟩
    have f38 : b.1 38 x = 4 := by rw [g5]; exact w_updS
    refine ⟨by rw [g5]; rfl, s1, fun j y hy => ?_, fun j => ?_, fun r2 c2 h1 h2 => ⟨?_, fun y hy => ?_⟩, fun r2 h1 => ⟨?_, fun y hy => ?_⟩, fun y hy h38 => ?_⟩
    · refine tr ?_
      rw [row] at hy
      split at hy
      · next e => rw [e]; exact A2 _ y (fil.1 hy).1
      · exact A2 j y hy
    · rw [row]
      split
      · exact (A3 _).filter _
      · exact A3 j
    · have h2 : c2 < ln_ b r2 := h2
      rw [qs_ln k] at h2
      have bd := (A4 r2 c2 h1 h2).1
      rw [row]
      show ((if 12 * r2 + c2 = 12 * r + c then _ else _ : List Nat).length : Int) ≤ (b.1 15 r2).toInt
      rw [k 15 (by decide) (by decide) (by decide)]
      split
      · next e =>
        have := List.length_filter_le (fun z => decide (¬ z = x)) (a.2 (12 * r + c))
        rw [e] at bd
        omega
      · exact bd
    · have h2 : c2 < ln_ b r2 := h2
      rw [qs_ln k] at h2
      rw [row] at hy
      have hh : ¬ y = x ∧ y ∈ a.2 (12 * r2 + c2) := by
        split at hy
        · next e =>
          obtain ⟨i1, i2⟩ := fil.1 hy
          rw [e]
          exact ⟨i2, i1⟩
        · next e => exact ⟨fun q => e (only r2 c2 h1 h2 (by rw [← q]; exact hy)), hy⟩
      obtain ⟨i1, i2, i3⟩ := fld y hh.1
      show b.1 38 y = 1 ∧ (b.1 39 y).toInt = (r2 : Int) ∧ (b.1 40 y).toInt = (c2 : Int)
      rw [i1, i2, i3]
      exact (A4 r2 c2 h1 h2).2 y hh.2
    · rw [row, if_neg (by omega)]
      exact (A5 r2 h1).1
    · rw [row, if_neg (by omega)] at hy
      have ne : ¬ y = x := fun e => noheap r2 h1 (by rw [← e]; exact hy)
      obtain ⟨i1, i2, _⟩ := fld y ne
      show b.1 38 y = 2 ∧ (b.1 39 y).toInt = (r2 : Int)
      rw [i1, i2]
      exact (A5 r2 h1).2 y hy
    · by_cases e : y = x
      · have h38 : b.1 38 y = 1 := h38
        rw [e, f38] at h38
        exact absurd h38 (by decide)
      · have h38 : b.1 38 y = 1 := h38
        rw [(fld y e).1] at h38
        obtain ⟨r2, c2, i1, i2, i3⟩ := A6 y hy h38
        refine ⟨r2, c2, i1, by show c2 < ln_ b r2; rw [qs_ln k]; exact i2, ?_⟩
        rw [row]
        split
        · next q => rw [q] at i3; exact fil.2 ⟨i3, e⟩
        · exact i3
end
section
/-! the class: a log moves on, a cell's logs, all logs -/
theorem fil_one {P R : List Nat} {x : Nat} (h : (P ++ x :: R).Nodup) : (P ++ x :: R).filter (fun z => decide (¬ z = x)) = P ++ R := by
  rw [List.nodup_append] at h
  obtain ⟨_, h2, h3⟩ := h
  rw [List.nodup_cons] at h2
  rw [List.filter_append, List.filter_cons_of_neg (by simp)]
  have e1 : P.filter (fun z => decide (¬ z = x)) = P := by
    rw [List.filter_eq_self]
    intro y hy
    exact decide_eq_true (fun e => h3 y hy x (List.mem_cons_self) e)
  have e2 : R.filter (fun z => decide (¬ z = x)) = R := by
    rw [List.filter_eq_self]
    intro y hy
    exact decide_eq_true (fun e => h2.1 (by rw [← e]; exact hy))
  rw [e1, e2]
theorem qs_go {a : ra_T} {r c sp x : Nat} : qs_ a (a_go a r c sp x) := by
  unfold a_go
  split
  · next b e => exact qs_drop (qs_on e)
  · exact qs_refl
theorem qs_logs {r c sp : Nat} : ∀ (L : List Nat) (a : ra_T), qs_ a (a_logs r c sp L a) := by
  intro L
  induction L with
  | nil => intro a; exact qs_refl
  | cons x L ih => intro a; exact qs_trans qs_go (ih _)
theorem qs_cell {a : ra_T} {r c sp : Nat} : qs_ a (a_cell a r c sp) := by
  unfold a_cell
  split
  · exact qs_logs _ _
  · exact qs_refl
theorem qs_cells {r sp : Nat} : ∀ (c : Nat) (a : ra_T), qs_ a (a_cells r sp c a) := by
  intro c
  induction c with
  | zero => intro a; exact qs_refl
  | succ c ih => intro a; exact qs_trans qs_cell (ih _)
theorem qs_reach {a : ra_T} {r : Nat} : qs_ a (a_reach a r) := by
  unfold a_reach
  split
  · exact qs_refl
  · exact qs_cells _ _
section
variable {T : Nat → Nat → Nat} {N : Nat → Nat} {g κ : Nat → Nat} {st na nr nl m : Nat} {day : Nat → Int32} {RL : Nat → List (Bool × List Int32)} {s : sz_T} {B n : Nat}
theorem vq_on7 {a : ra_T} {σ : kx_S} {r x : Nat} {l3 : Int32} {K : Nat → Nat → Nat → Int32 → Int32 → Int32 → kx_S → Prop} {Q : Int32 → kx_S → Prop} (H : qa_ T N g κ st na nr nl m day RL s B n a σ) (hr : r < nr) : ∀ (j sp c : Nat) (l5 l6 : Int32), l5.toInt = (c : Int) → c ≤ 12 → l6.toInt = (sp : Int) → (∀ v5 v6 : Int32, v5.toInt = ((a_jump a r sp c).1 : Int) → v6.toInt = ((a_jump a r sp c).2 : Int) → K (g 0) (T 8 x) (T 10 r) l3 v5 v6 σ) → vX11_movesOn_7 K Q j (g 0) (T 8 x) (T 10 r) l3 l5 l6 σ := by
  obtain ⟨J, h0, h1, h2, h3, h4, h7, hj⟩ := H
  intro j
  induction j with
  | zero => intro _ _ _ _ _ _ _ _; exact trivial
  | succ j ih =>
    intro sp c l5 l6 hc h12 hs kk
    unfold vX11_movesOn_7
    rw [ki_le, ki_z0, hs]
    cases sp with
    | zero => exact ⟨fun _ => kk l5 l6 hc hs, fun q => absurd (by omega) q⟩
    | succ sp =>
      refine ⟨fun q => absurd q (by omega), fun _ _ => ?_⟩
      obtain ⟨w, ew, hc1⟩ : ∃ w, w = l5 + 1 ∧ w.toInt = ((c + 1 : Nat) : Int) := ⟨_, rfl, by
        rw [ki_add (by rw [hc, ki_z1]; omega) (by rw [hc, ki_z1]; omega), hc, ki_z1]
        omega⟩
      rw [← ew]
      have b4 := (h1.2 r hr).2.2.2.2.2.2.2.2.1
      refine vq_canTake h1 h2 h3 hr hc1 (fun d o => ⟨fun q => absurd q (by decide), fun _ => ?_⟩) (fun no => ⟨fun _ => kk l5 l6 ?_ ?_, fun q => absurd rfl q⟩)
      · intro v6 e6 v7 e7
        have ej : a_jump a r (sp + 1) c = a_jump a r sp (c + 1) := if_pos ⟨d, o⟩
        rw [ej] at kk
        refine ih sp (c + 1) v6 v7 (by rw [e6]; exact hc1) (by omega) ?_ kk
        have hhi := ki_hi l6
        rw [hs] at hhi
        rw [e7, ki_add (by rw [hs, ki_zm]; omega) (by rw [hs, ki_zm]; omega), hs, ki_zm]
        omega
      · rw [show a_jump a r (sp + 1) c = (c, sp + 1) from if_neg no]
        exact hc
      · rw [show a_jump a r (sp + 1) c = (c, sp + 1) from if_neg no]
        exact hs
theorem vq_movesOn {a : ra_T} {σ : kx_S} {r c sp x : Nat} {ci si : Int32} {Q : Int32 → kx_S → Prop} (hB : B ≤ 3000) (hn : n ≤ 200) (h10 : nr ≤ 10) (H : qa_ T N g κ st na nr nl m day RL s B n a σ) (hr : r < nr) (hx : x < nl) (hc : ci.toInt = (c : Int)) (h12 : c ≤ 12) (hs : si.toInt = (sp : Int))
    (k1 : ∀ b τ, a_on a r c sp x = some b → yJ_ s g κ B n τ → hf_ wm_W g κ st na σ τ → q3_ T nr b τ → q4_ T (g 2) nl b τ → Q 1 τ) (k0 : a_on a r c sp x = none → Q 0 σ) : vX11_movesOn (g 0) (T 8 x) (T 10 r) ci si σ Q := by
  unfold vX11_movesOn
  intro j
  refine vq_on7 H hr j sp c ci si hc h12 hs (fun v5 v6 e5 e6 => ?_)
  have HH := H
  obtain ⟨J, h0, h1, h2, h3, h4, h7, hj⟩ := HH
  obtain ⟨_, _, _, _, _, b1, b2, b3, b4⟩ := h1.2 r hr
  obtain ⟨j1, j2⟩ := a_jump_ge a r sp c
  have n64 : (if 0 < (a_jump a r sp c).2 ∧ (a_jump a r sp c).1 + 1 = ln_ a r then a_exit a r x else none) = none → vX11_movesOn_64 Q (T 8 x) (T 10 r) ci v5 σ := by
    intro e
    have eo : a_on a r c sp x = if (a_jump a r sp c).1 = c then none else some (a_take a x r (a_jump a r sp c).1) := by
      unfold a_on
      rw [e]
    unfold vX11_movesOn_64
    refine ⟨fun q => k0 ?_, fun q _ => ?_⟩
    · rw [eo, if_pos]
      have := congrArg Int32.toInt q
      rw [e5, hc] at this
      omega
    · have ne : ¬ (a_jump a r sp c).1 = c := fun z => q (ki_eq.2 (by rw [e5, hc, z]))
      rw [if_neg ne] at eo
      obtain ⟨j3, j4⟩ := j2 ne
      refine vq_takes (st := st) (na := na) J hB hn h0 h1 h2 h3 h4 h10 hr e5 hx (fun _ _ τ J' F' q3' q4' => ⟨fun z => absurd z (by decide), fun _ => k1 _ τ eo J' (hf_sub F' (by decide)) q3' q4'⟩) (fun no => absurd ⟨j3, j4⟩ no)
  unfold vX11_movesOn_32
  rw [ki_le, ki_z0, e6]
  refine ⟨fun q => n64 (if_neg (by omega)), fun q _ a15 e15 _ => ?_⟩
  obtain rfl := Option.some.inj (b1.symm.trans e15)
  unfold vJx4a65c_size_8abf5
  intro _
  obtain ⟨w, ew, hs1⟩ : ∃ w, w = xi σ 18 (T 21 r) - 1 ∧ w.toInt = (ln_ a r : Int) - 1 := ⟨_, rfl, by
    rw [ki_sub (by rw [b3, ki_z1]; omega) (by rw [b3, ki_z1]; omega), b3, ki_z1]⟩
  rw [← ew, ki_eq, e5, hs1]
  refine ⟨fun d => n64 (if_neg (by omega)), fun d _ => ?_⟩
  have cond : 0 < (a_jump a r sp c).2 ∧ (a_jump a r sp c).1 + 1 = ln_ a r := by omega
  rw [if_pos cond] at n64
  refine vq_leaves hB hn h10 H hr hx (fun b τ e J' F' q3' q4' => ⟨fun z => absurd z (by decide), fun _ => k1 b τ ?_ J' F' q3' q4'⟩) (fun e => ⟨fun _ => n64 e, fun z => absurd rfl z⟩)
  unfold a_on
  rw [if_pos cond, e]
theorem vq_logs {r c sp : Nat} {ci si : Int32} {Q : kx_S → Prop} {σ : kx_S} (hB : B ≤ 3000) (hn : n ≤ 200) (h10 : nr ≤ 10) (hr : r < nr) (hc : ci.toInt = (c : Int)) (hs : si.toInt = (sp : Int)) : ∀ (j : Nat) (R P : List Nat) (a : ra_T) (l5 l6 : Int32) (τ : kx_S), l5.toInt = (P.length : Int) → l6.toInt = (R.length : Int) → a.2 (12 * r + c) = P ++ R → c < ln_ a r → (∀ r, r < nr → ¬ a.1 22 r = 0 → (a.1 28 r).toInt ≤ 100) → qa_ T N g κ st na nr nl m day RL s B n a τ → ao_ nr nl a → hf_ wm_W g κ st na σ τ → (∀ τ', qa_ T N g κ st na nr nl m day RL s B n (a_logs r c sp R a) τ' → ao_ nr nl (a_logs r c sp R a) → hf_ wm_W g κ st na σ τ' → Q τ') → vX11_moveLogsOfCell_39 Q j (g 0) (T 10 r) ci si (T 3 (12 * r + c)) l5 l6 τ := by
  intro j
  induction j with
  | zero => intro _ _ _ _ _ _ _ _ _ _ _ _ _ _ _; exact trivial
  | succ j ih =>
    intro R P a l5 l6 τ h5 h6 hL hlt hroom H A F kk
    unfold vX11_moveLogsOfCell_39
    rw [ki_le, ki_z0, h6]
    cases R with
    | nil => exact ⟨fun _ => kk τ H A F, fun q => absurd (Int.le_refl 0) q⟩
    | cons x R =>
      refine ⟨fun q => absurd q (by rw [List.length_cons]; omega), fun _ _ => ?_⟩
      have HH := H
      obtain ⟨J, h0, h1, h2, h3, h4, h7, hj⟩ := HH
      obtain ⟨⟨c1, c2⟩, c3, c4, c5, c6⟩ := h2 r hr c hlt
      have hk := vk_cell hr hlt
      obtain ⟨d1, d2, d3⟩ := h3 _ hk
      obtain ⟨t1, t2, t3⟩ := h0.1 _ hk
      have hx : x ∈ a.2 (12 * r + c) := by rw [hL]; exact List.mem_append.2 (.inr (List.mem_cons_self))
      have hxl := (A.2.1 _ x hx).1
      have hlen : (a.2 (12 * r + c)).length = P.length + (R.length + 1) := by rw [hL, List.length_append, List.length_cons]
      have hcap := (A.2.2.2.1 r c hr hlt).1
      have hcar := (A.1 r hr).2.2.1.2
      have hxe : xe τ (T 1 (12 * r + c)) P.length = some (T 8 x) := d3 P.length x (by rw [hL, List.getElem?_append_right (Nat.le_refl _), Nat.sub_self]; rfl)
      intro a4 e4 _
      obtain rfl := Option.some.inj (c4.symm.trans e4)
      unfold vJx4a65c_size_8abf5
      intro _
      rw [ki_le, d2, h5]
      refine ⟨fun q => absurd q (by omega), fun _ _ => ?_⟩
      intro a11 e11 _
      obtain rfl := Option.some.inj (c4.symm.trans e11)
      refine vy_get (fun _ _ => ?_)
      have e5 : l5.toNatClampNeg = P.length := by rw [ki_nat, h5]; omega
      rw [e5, hxe]
      intro a16 e16 _ _
      obtain rfl := Option.some.inj e16
      have dec : ∀ v1 : Int32, v1 = l6 + (-1) → v1.toInt = (R.length : Int) := by
        intro v1 e
        rw [e, ki_add (by rw [h6, ki_zm, List.length_cons]; omega) (by rw [h6, ki_zm, List.length_cons]; omega), h6, ki_zm, List.length_cons]
        omega
      have l12 : c ≤ 12 := by have := (A.1 r hr).1; omega
      refine vq_movesOn hB hn h10 H hr hxl hc l12 hs (fun b τ1 e J1 F1 q31 q41 => ⟨fun z => absurd z (by decide), fun _ _ => ?_⟩) (fun e => ⟨fun _ => ?_, fun z => absurd rfl z⟩)
      · have eg : a_go a r c sp x = a_drop b x (12 * r + c) := by unfold a_go; rw [e]
        obtain ⟨o1, o2⟩ := ao_go h10 A hr hlt hx e hroom
        have k1 := qs_on e
        have H1 := qa_mv H k1 J1 F1 q31 q41
        obtain ⟨_, g0, g1, g2, g3, g4, g7, gj⟩ := H1
        have hlt1 : c < ln_ b r := by rw [qs_ln k1]; exact hlt
        have hk1 := vk_cell (nr := nr) hr hlt1
        obtain ⟨_, _, c4', _⟩ := g2 r hr c hlt1
        obtain ⟨d1', d2', _⟩ := g3 _ hk1
        intro a25 e25 _
        obtain rfl := Option.some.inj (c4'.symm.trans e25)
        have hL1 : b.2 (12 * r + c) = P ++ x :: R := by rw [o1]; exact hL
        have hl1 : (b.2 (12 * r + c)).length = P.length + (R.length + 1) := by rw [o1]; exact hlen
        refine vy_remlog J1 d1' t1 t2 h5 d2' (by omega) (fun q τ2 J2 A2 A3 A4 X2 => ?_)
        have q32 := q3_rem (N := N) g3 hk1 (fun k hk' => (g0.1 k hk').2.2) (by omega) hL1 A2 A3 A4
        have F2 : hf_ [] g κ st na τ1 τ2 := hf_rem hf_refl A2 X2 t1 t2
        have q42 := q4_hf (W := []) g4 F2 (yg2 J1).2.1 (fun f hf => absurd hf (List.not_mem_nil))
        have ed : a_drop b x (12 * r + c) = ks_ b (12 * r + c) (P ++ R) := by
          unfold a_drop
          rw [hL1, fil_one (by rw [← hL]; exact A.2.2.1 _)]
        have H2 : qa_ T N g κ st na nr nl m day RL s B n (ks_ b (12 * r + c) (P ++ R)) τ2 := qa_mv (qa_mv H k1 J1 F1 q31 q41) (qs_refl (a := b)) J2 (hf_sub F2 (fun f hf => absurd hf (List.not_mem_nil))) q32 q42
        unfold vX11_moveLogsOfCell_103
        intro v1 e1
        have kk : ∀ τ', qa_ T N g κ st na nr nl m day RL s B n (a_logs r c sp R (a_go a r c sp x)) τ' → ao_ nr nl (a_logs r c sp R (a_go a r c sp x)) → hf_ wm_W g κ st na σ τ' → Q τ' := kk
        rw [eg, ed] at kk
        rw [ed] at o2
        refine ih R P (ks_ b (12 * r + c) (P ++ R)) l5 v1 τ2 h5 (dec v1 e1) ks_s hlt1 (fun r' hr' hb => ?_) H2 o2 (hf_trans F (hf_trans F1 (hf_sub F2 (fun f hf => absurd hf (List.not_mem_nil))))) kk
        have hb : ¬ b.1 22 r' = 0 := hb
        show (b.1 28 r').toInt ≤ 100
        rw [k1 22 (by decide) (by decide) (by decide)] at hb
        rw [k1 28 (by decide) (by decide) (by decide)]
        exact hroom r' hr' hb
      · have eg : a_go a r c sp x = a := by unfold a_go; rw [e]
        intro v23 e23
        unfold vX11_moveLogsOfCell_103
        intro v1 e1
        have kk : ∀ τ', qa_ T N g κ st na nr nl m day RL s B n (a_logs r c sp R (a_go a r c sp x)) τ' → ao_ nr nl (a_logs r c sp R (a_go a r c sp x)) → hf_ wm_W g κ st na σ τ' → Q τ' := kk
        rw [eg] at kk
        refine ih R (P ++ [x]) a v23 v1 τ ?_ (dec v1 e1) (by rw [hL, List.append_assoc]; rfl) hlt hroom H A F kk
        rw [e23, ki_add (by rw [h5, ki_z1]; omega) (by rw [h5, ki_z1]; omega), h5, ki_z1, List.length_append]
        rfl
theorem vq_cell {r c sp : Nat} {a : ra_T} {ci si : Int32} {Q : kx_S → Prop} {σ : kx_S} (hB : B ≤ 3000) (hn : n ≤ 200) (h10 : nr ≤ 10) (hr : r < nr) (hc : ci.toInt = (c : Int)) (hs : si.toInt = (sp : Int)) (hlt : c < ln_ a r) (hroom : ∀ r, r < nr → ¬ a.1 22 r = 0 → (a.1 28 r).toInt ≤ 100) (H : qa_ T N g κ st na nr nl m day RL s B n a σ) (A : ao_ nr nl a) (kk : ∀ τ, qa_ T N g κ st na nr nl m day RL s B n (a_cell a r c sp) τ → ao_ nr nl (a_cell a r c sp) → hf_ wm_W g κ st na σ τ → Q τ) : vX11_moveLogsOfCell (g 0) (T 10 r) ci si σ Q := by
  have HH := H
  obtain ⟨J, h0, h1, h2, h3, h4, h7, hj⟩ := HH
  obtain ⟨_, _, _, _, _, b1, b2, b3, b4⟩ := h1.2 r hr
  obtain ⟨⟨c1, c2⟩, c3, c4, c5, c6⟩ := h2 r hr c hlt
  obtain ⟨d1, d2, d3⟩ := h3 _ (vk_cell hr hlt)
  unfold vX11_moveLogsOfCell
  intro _ a31 e31 _
  obtain rfl := Option.some.inj (b1.symm.trans e31)
  refine vy_get (fun _ _ => ?_)
  have ec : ci.toNatClampNeg = c := by rw [ki_nat, hc]; omega
  rw [ec, c1]
  intro a36 e36 _
  obtain rfl := Option.some.inj e36
  rw [c5]
  refine ⟨fun e a40 e40 _ => ?_, fun e => kk σ ?_ ?_ hf_refl⟩
  · obtain rfl := Option.some.inj (c4.symm.trans e40)
    unfold vJx4a65c_size_8abf5
    intro _ j
    have eg : a_cell a r c sp = a_logs r c sp (a.2 (12 * r + c)) a := if_pos e
    rw [eg] at kk
    exact vq_logs hB hn h10 hr hc hs j (a.2 (12 * r + c)) [] a 0 _ σ rfl d2 rfl hlt hroom H A hf_refl kk
  · rw [show a_cell a r c sp = a from if_neg e]; exact H
  · rw [show a_cell a r c sp = a from if_neg e]; exact A
theorem vq_cells {r sp : Nat} {r0 l3 : Int32} {K : Nat → Int32 → kx_S → Prop} {Q : kx_S → Prop} {σ : kx_S} (hB : B ≤ 3000) (hn : n ≤ 200) (h10 : nr ≤ 10) (hr : r < nr) (hs : l3.toInt = (sp : Int)) (hsp : ¬ l3.toInt ≤ 0) : ∀ (j c : Nat) (a : ra_T) (l4 : Int32) (τ : kx_S), l4.toInt = (c : Int) - 1 → c ≤ ln_ a r → (∀ r, r < nr → ¬ a.1 22 r = 0 → (a.1 28 r).toInt ≤ 100) → qa_ T N g κ st na nr nl m day RL s B n a τ → ao_ nr nl a → hf_ wm_W g κ st na σ τ → (∀ τ', qa_ T N g κ st na nr nl m day RL s B n (a_cells r sp c a) τ' → ao_ nr nl (a_cells r sp c a) → hf_ wm_W g κ st na σ τ' → K (g 0) r0 τ') → vX11_moveLogs_55 K Q j (g 0) r0 (T 10 r) l3 l4 τ := by
  intro j
  induction j with
  | zero => intro _ _ _ _ _ _ _ _ _ _ _; exact trivial
  | succ j ih =>
    intro c a l4 τ h4 hc hroom H A F kk
    unfold vX11_moveLogs_55
    rw [ki_lt, ki_z0, h4, ki_le, ki_z0]
    cases c with
    | zero => exact ⟨fun _ => kk τ H A F, fun q => absurd (by omega) q⟩
    | succ c =>
      refine ⟨fun q => absurd q (by omega), fun _ => ⟨fun q => absurd q hsp, fun _ _ => ?_⟩⟩
      have l12 := (A.1 r hr).1
      refine vq_cell hB hn h10 hr (c := c) (by omega) hs (by omega) hroom H A (fun τ1 H1 A1 F1 => ?_)
      intro v6 e6
      have k := qs_cell (a := a) (r := r) (c := c) (sp := sp)
      refine ih c (a_cell a r c sp) v6 τ1 ?_ (by rw [qs_ln k]; omega) (fun r' hr' hb => ?_) H1 A1 (hf_trans F F1) kk
      · rw [e6, ki_add (by rw [h4, ki_zm]; omega) (by rw [h4, ki_zm]; omega), h4, ki_zm]
        omega
      · rw [k 22 (by decide) (by decide) (by decide)] at hb
        rw [k 28 (by decide) (by decide) (by decide)]
        exact hroom r' hr' hb
theorem vq_move {a : ra_T} {Q : kx_S → Prop} {σ : kx_S} (hB : B ≤ 3000) (hn : n ≤ 200) (h10 : nr ≤ 10) (hroom : ∀ r, r < nr → ¬ a.1 22 r = 0 → (a.1 28 r).toInt ≤ 100) (H : qa_ T N g κ st na nr nl m day RL s B n a σ) (A : ao_ nr nl a) (kk : ∀ τ, qa_ T N g κ st na nr nl m day RL s B n (a_move nr 0 a) τ → ao_ nr nl (a_move nr 0 a) → hf_ wm_W g κ st na σ τ → Q τ) : vX11_moveLogs (g 0) σ Q := by
  have loop : ∀ (j k r : Nat) (a : ra_T) (i : Int32) (τ : kx_S), i.toInt = (r : Int) → r + k = nr → (∀ r, r < nr → ¬ a.1 22 r = 0 → (a.1 28 r).toInt ≤ 100) → qa_ T N g κ st na nr nl m day RL s B n a τ → ao_ nr nl a → hf_ wm_W g κ st na σ τ → (∀ τ', qa_ T N g κ st na nr nl m day RL s B n (a_move k r a) τ' → ao_ nr nl (a_move k r a) → hf_ wm_W g κ st na σ τ' → Q τ') → vX11_moveLogs_2 Q j (g 0) i τ := by
    intro j
    induction j with
    | zero => intro _ _ _ _ _ _ _ _ _ _ _ _; exact trivial
    | succ j ih =>
      intro k r a i τ hi hk hroom H A F kk
      have HH := H
      obtain ⟨J, h0, h1, h2, h3, h4, h7, hj⟩ := HH
      unfold vX11_moveLogs_2
      intro _ a8 e8 _
      obtain rfl := Option.some.inj ((yg1 J).1.symm.trans e8)
      unfold vJx4a65c_size_8abf5
      intro _
      rw [ki_le, h1.1, hi]
      refine ⟨fun q => ?_, fun q _ => ?_⟩
      · have : k = 0 := by omega
        subst this
        exact kk τ H A F
      · obtain ⟨k, rfl⟩ : ∃ q, k = q + 1 := ⟨k - 1, by omega⟩
        have hr : r < nr := by omega
        intro a15 e15 _
        obtain rfl := Option.some.inj ((yg1 J).1.symm.trans e15)
        refine vy_get (fun _ _ => ?_)
        have ei : i.toNatClampNeg = r := by rw [ki_nat, hi]; omega
        obtain ⟨⟨b0, b00⟩, _, ⟨_, _, b169, _, _⟩, _, _, b1, b2, b3, b4, b5⟩ := h1.2 r hr
        rw [ei, b0]
        intro a20 e20 _
        obtain rfl := Option.some.inj e20
        rw [b169]
        intro v23 e23
        have es : v23 = a_speed a r := e23
        intro a24 e24 _
        obtain rfl := Option.some.inj (b1.symm.trans e24)
        intro _ v29 e29 j2
        have nx : ∀ v1 : Int32, v1 = i + 1 → v1.toInt = ((r + 1 : Nat) : Int) := by
          intro v1 e
          rw [e, ki_add (by rw [hi, ki_z1]; omega) (by rw [hi, ki_z1]; omega), hi, ki_z1]
          omega
        have h29 : v29.toInt = (ln_ a r : Int) - 1 := by
          rw [e29, ki_sub (by rw [b3, ki_z1]; omega) (by rw [b3, ki_z1]; omega), b3, ki_z1]
        have kk : ∀ τ', qa_ T N g κ st na nr nl m day RL s B n (a_move k (r + 1) (a_reach a r)) τ' → ao_ nr nl (a_move k (r + 1) (a_reach a r)) → hf_ wm_W g κ st na σ τ' → Q τ' := kk
        by_cases sp0 : a_speed a r ≤ 0
        · have er : a_reach a r = a := if_pos sp0
          rw [er] at kk
          cases j2 with
          | zero => exact trivial
          | succ j2 =>
            unfold vX11_moveLogs_55
            have go : vX11_moveLogs_78 (vX11_moveLogs_2 Q j) Q (g 0) i τ := by
              unfold vX11_moveLogs_78
              intro v1 e1
              exact ih k (r + 1) a v1 τ (nx v1 e1) (by omega) hroom H A F kk
            rw [es]
            exact ⟨fun _ => go, fun _ => ⟨fun _ => go, fun z => absurd sp0 z⟩⟩
        · have er : a_reach a r = a_cells r (a_speed a r).toNatClampNeg (ln_ a r) a := if_neg sp0
          rw [er] at kk
          have sp1 := sp0
          rw [ki_le, ki_z0] at sp1
          refine vq_cells hB hn h10 hr (sp := (a_speed a r).toNatClampNeg) (by rw [es, ki_nat]; omega) (by rw [es]; exact sp1) j2 (ln_ a r) a v29 τ h29 (Nat.le_refl _) hroom H A F (fun τ1 H1 A1 F1 => ?_)
          unfold vX11_moveLogs_78
          intro v1 e1
          have kq := qs_cells (r := r) (sp := (a_speed a r).toNatClampNeg) (ln_ a r) a
          refine ih k (r + 1) _ v1 τ1 (nx v1 e1) (by omega) (fun r' hr' hb => ?_) H1 A1 F1 kk
          rw [kq 22 (by decide) (by decide) (by decide)] at hb
          rw [kq 28 (by decide) (by decide) (by decide)]
          exact hroom r' hr' hb
  unfold vX11_moveLogs
  intro j
  exact loop j nr 0 a 0 σ (by decide) (by omega) hroom H A hf_refl kk
end
end
section
/-! the reference's rows of logs -/
def la_ (A : Nat → Int32) (b : Nat) (cnt : Int32) (L : List Nat) : Prop := cnt.toInt = (L.length : Int) ∧ ∀ (i x : Nat), L[i]? = some x → (A (b + i)).toInt = (x : Int)
abbrev rf_F : List Nat := [13, 14, 15, 16, 18, 19, 21, 22, 23, 27, 28, 33, 34, 35, 36, 37, 38, 39, 40, 41, 42, 44, 45, 46, 47, 48, 49, 50]
def rA_ (a : ra_T) (μ : km_S) : Prop := (∀ f, f ∈ rf_F → km_a μ f = a.1 f) ∧ (∀ k, k < 120 → la_ (km_a μ 32) (20 * k) (km_a μ 31 k) (a.2 k)) ∧ (∀ r, r < 10 → la_ (km_a μ 30) (100 * r) (km_a μ 29 r) (a.2 (120 + r))) ∧ km_i μ 6 = a.1 6 0
/-- nothing but the rows of cells changed -/
def rl_ (μ u : km_S) : Prop := u.1 = μ.1 ∧ (∀ f, f ≠ 31 → f ≠ 32 → km_a u f = km_a μ f) ∧ u.2.2 = μ.2.2
theorem rl_refl {μ : km_S} : rl_ μ μ := ⟨rfl, fun _ _ _ => rfl, rfl⟩
theorem rl_32 {μ u : km_S} {i : Nat} {v : Int32} (h : rl_ μ u) : rl_ μ (km_sa u 32 i v) := by
  refine ⟨h.1, fun f h1 h2 => ?_, h.2.2⟩
  refine Eq.trans ?_ (h.2.1 f h1 h2)
  show (if f = 32 then _ else u.2.1 f) = u.2.1 f
  exact if_neg h2
theorem rl_31 {μ u : km_S} {i : Nat} {v : Int32} (h : rl_ μ u) : rl_ μ (km_sa u 31 i v) := by
  refine ⟨h.1, fun f h1 h2 => ?_, h.2.2⟩
  refine Eq.trans ?_ (h.2.1 f h1 h2)
  show (if f = 31 then _ else u.2.1 f) = u.2.1 f
  exact if_neg h1
theorem ki_mulN {a : Int32} {c k : Nat} {ci : Int32} (hc : ci.toInt = (c : Int)) (h : a.toInt = (k : Int)) (hb : c * k < 2147483648) : (ci * a).toInt = ((c * k : Nat) : Int) := by
  have e : ((c * k : Nat) : Int) = (c : Int) * (k : Int) := by rw [Int.natCast_mul]
  rw [ki_mul (by rw [hc, h, ← e]; omega) (by rw [hc, h, ← e]; omega), hc, h, e]
theorem ki_addN {a b : Int32} {j k : Nat} (h1 : a.toInt = (j : Int)) (h2 : b.toInt = (k : Int)) (hb : j + k < 2147483648) : (a + b).toInt = ((j + k : Nat) : Int) := by
  rw [ki_add (by rw [h1, h2]; omega) (by rw [h1, h2]; omega), h1, h2]
  omega
theorem ki_toN {a : Int32} {k : Nat} (h : a.toInt = (k : Int)) : a.toNatClampNeg = k := by rw [ki_nat, h]; omega
theorem vr_lift21 {μ : km_S} {k x : Nat} {xi li : Int32} {L : List Nat} {Q : km_S → Prop} (hx : xi.toInt = (x : Int)) (hk : li.toInt = (k : Int)) (k120 : k < 120) (hL : L.length ≤ 20) (h31 : (km_a μ 31 k).toInt = (L.length : Int))
    (kk : ∀ u, rl_ μ u → (∀ j, j ≠ k → km_a u 31 j = km_a μ 31 j) → (∀ q, (q < 20 * k ∨ 20 * k + 20 ≤ q) → km_a u 32 q = km_a μ 32 q) → la_ (km_a u 32) (20 * k) (km_a u 31 k) (L.filter (fun z => decide (¬ z = x))) → Q u) : ∀ (j : Nat) (R P : List Nat) (l3 l4 : Int32) (u : km_S), L = P ++ R → l4.toInt = (P.length : Int) → l3.toInt = ((P.filter (fun z => decide (¬ z = x))).length : Int) → rl_ μ u → (∀ j, km_a u 31 j = km_a μ 31 j) → (∀ q, (q < 20 * k ∨ 20 * k + 20 ≤ q) → km_a u 32 q = km_a μ 32 q) → (∀ (i y : Nat), (P.filter (fun z => decide (¬ z = x)))[i]? = some y → (km_a u 32 (20 * k + i)).toInt = (y : Int)) → (∀ (i y : Nat), R[i]? = some y → (km_a u 32 (20 * k + (P.length + i))).toInt = (y : Int)) → vX12_lift_21 (vX12_lift_77 Q) Q j xi li l3 l4 u := by
  have z20 : (20 : Int32).toInt = ((20 : Nat) : Int) := by decide
  have ek : li.toNatClampNeg = k := ki_toN hk
  obtain ⟨w, ew, e20⟩ : ∃ w, w = 20 * li ∧ w.toInt = ((20 * k : Nat) : Int) := ⟨_, rfl, ki_mulN z20 hk (by omega)⟩
  intro j
  induction j with
  | zero => intro _ _ _ _ _ _ _ _ _ _ _ _ _; exact trivial
  | succ j ih =>
    intro R P l3 l4 u hLP h4 h3 hl h31u hq hP hR
    have hlen : L.length = P.length + R.length := by rw [hLP, List.length_append]
    have hfl := List.length_filter_le (fun z => decide (¬ z = x)) P
    unfold vX12_lift_21
    intro _
    rw [ek, ki_le, h31u, h31, h4, ← ew]
    refine ⟨fun c => ?_, fun c _ => ?_⟩
    · have hR0 : R = [] := List.eq_nil_of_length_eq_zero (by omega)
      rw [hR0, List.append_nil] at hLP
      unfold vX12_lift_77
      rw [ek]
      rintro _ μ3 rfl
      refine kk _ (rl_31 hl) (fun q hqk => ?_) hq ⟨?_, fun i y hy => ?_⟩
      · show upd (u.2.1 31) k l3 q = _
        rw [w_updN hqk]
        exact h31u q
      · show (upd (u.2.1 31) k l3 k).toInt = _
        rw [w_updS, h3, hLP]
      · rw [hLP] at hy
        exact hP i y hy
    · cases R with
      | nil => rw [List.length_nil] at hlen; omega
      | cons y R =>
        rw [List.length_cons] at hlen
        have ei : (w + l4).toNatClampNeg = 20 * k + (P.length + 0) := ki_toN (ki_addN e20 h4 (by omega))
        have hy := hR 0 y rfl
        rw [ei]
        rintro v7 e7
        have hv7 : v7.toInt = (y : Int) := by rw [e7]; exact hy
        have nx : ∀ v1 : Int32, v1 = l4 + 1 → v1.toInt = ((P ++ [y]).length : Int) := by
          intro v1 e
          rw [e, ki_add (by rw [h4, ki_z1]; omega) (by rw [h4, ki_z1]; omega), h4, ki_z1, List.length_append]
          rfl
        have hLP2 : L = (P ++ [y]) ++ R := by rw [hLP, List.append_assoc]; rfl
        have rest : ∀ (i z : Nat), R[i]? = some z → (km_a u 32 (20 * k + ((P ++ [y]).length + i))).toInt = (z : Int) := by
          intro i z hz
          have := hR (i + 1) z (by rw [List.getElem?_cons_succ]; exact hz)
          rw [List.length_append, show P.length + [y].length + i = P.length + (i + 1) by show P.length + 1 + i = _; omega]
          exact this
        refine ⟨fun d => ?_, fun d => ?_⟩
        · have ne : ¬ y = x := fun e => d (ki_eq.2 (by rw [hv7, hx, e]))
          have ef : (P ++ [y]).filter (fun z => decide (¬ z = x)) = P.filter (fun z => decide (¬ z = x)) ++ [y] := by
            rw [List.filter_append, List.filter_cons_of_pos (p := fun z => decide (¬ z = x)) (decide_eq_true ne), List.filter_nil]
          have e3 : (w + l3).toNatClampNeg = 20 * k + (P.filter (fun z => decide (¬ z = x))).length := ki_toN (ki_addN e20 h3 (by omega))
          rw [e3]
          rintro _ μ10 rfl v11 e11
          unfold vX12_lift_71
          intro v1 e1
          refine ih R (P ++ [y]) v11 v1 _ hLP2 (nx v1 e1) ?_ (rl_32 hl) h31u (fun q hqq => ?_) (fun i z hz => ?_) (fun i z hz => ?_)
          · rw [e11, ki_add (by rw [h3, ki_z1]; omega) (by rw [h3, ki_z1]; omega), h3, ki_z1, ef, List.length_append]
            rfl
          · show upd (u.2.1 32) (20 * k + (P.filter (fun z => decide (¬ z = x))).length) v7 q = _
            rw [w_updN (by omega)]
            exact hq q hqq
          · show (upd (u.2.1 32) (20 * k + (P.filter (fun z => decide (¬ z = x))).length) v7 (20 * k + i)).toInt = _
            rw [ef] at hz
            by_cases c2 : i < (P.filter (fun z => decide (¬ z = x))).length
            · rw [w_updN (by omega)]
              rw [List.getElem?_append_left c2] at hz
              exact hP i z hz
            · have hlt := (List.getElem?_eq_some_iff.1 hz).1
              rw [List.length_append] at hlt
              have hlt : i < (P.filter (fun z => decide (¬ z = x))).length + 1 := hlt
              have ei2 : i = (P.filter (fun z => decide (¬ z = x))).length := by omega
              rw [ei2, List.getElem?_append_right (Nat.le_refl _), Nat.sub_self] at hz
              have : y = z := Option.some.inj hz
              rw [ei2, w_updS, hv7, this]
          · show (upd (u.2.1 32) (20 * k + (P.filter (fun z => decide (¬ z = x))).length) v7 (20 * k + ((P ++ [y]).length + i))).toInt = _
            rw [w_updN (by rw [List.length_append]; show 20 * k + (P.length + 1 + i) ≠ _; omega)]
            exact rest i z hz
        · have eyx : y = x := by
            have := congrArg Int32.toInt d
            rw [hv7, hx] at this
            omega
          have ef : (P ++ [y]).filter (fun z => decide (¬ z = x)) = P.filter (fun z => decide (¬ z = x)) := by
            rw [List.filter_append, List.filter_cons_of_neg (by simp [eyx]), List.filter_nil, List.append_nil]
          unfold vX12_lift_71
          intro v1 e1
          refine ih R (P ++ [y]) l3 v1 u hLP2 (nx v1 e1) (by rw [ef]; exact h3) hl h31u hq (fun i z hz => ?_) rest
          rw [ef] at hz
          exact hP i z hz
theorem rA_rl {a : ra_T} {μ u : km_S} {k : Nat} {L : List Nat} (h : rA_ a μ) (k120 : k < 120) (hl : rl_ μ u) (h31 : ∀ j, j ≠ k → km_a u 31 j = km_a μ 31 j) (h32 : ∀ q, (q < 20 * k ∨ 20 * k + 20 ≤ q) → km_a u 32 q = km_a μ 32 q) (hs : ∀ j, j < 120 → (a.2 j).length ≤ 20) (hL : la_ (km_a u 32) (20 * k) (km_a u 31 k) L) : rA_ (ks_ a k L) u := by
  refine ⟨fun f hf => ?_, fun j hj => ?_, fun r hr => ?_, ?_⟩
  · rw [hl.2.1 f (by intro e; rw [e] at hf; exact absurd hf (by decide)) (by intro e; rw [e] at hf; exact absurd hf (by decide))]
    exact h.1 f hf
  · by_cases e : j = k
    · rw [e, ks_s]
      exact hL
    · rw [ks_n e, h31 j e]
      obtain ⟨b1, b2⟩ := h.2.1 j hj
      refine ⟨b1, fun i x hx => ?_⟩
      have hlt := (List.getElem?_eq_some_iff.1 hx).1
      have := hs j hj
      rw [h32 _ (by omega)]
      exact b2 i x hx
  · rw [ks_n (by omega), hl.2.1 30 (by decide) (by decide), hl.2.1 29 (by decide) (by decide)]
    exact h.2.2.1 r hr
  · have e : km_i u 6 = km_i μ 6 := by show u.1 6 = μ.1 6; rw [hl.1]
    rw [e]
    exact h.2.2.2
theorem vr_lift {a : ra_T} {μ : km_S} {x r c : Nat} {xi : Int32} {Q : km_S → Prop} (h : rA_ a μ) (hx : xi.toInt = (x : Int)) (hr : (a.1 39 x).toInt = (r : Int)) (hc : (a.1 40 x).toInt = (c : Int)) (r10 : r < 10) (c12 : c < 12) (hs : ∀ j, j < 120 → (a.2 j).length ≤ 20) (kk : ∀ u, rA_ (a_drop a x (12 * r + c)) u → rl_ μ u → Q u) : vX12_lift xi μ Q := by
  have z12 : (12 : Int32).toInt = ((12 : Nat) : Int) := by decide
  have ex : xi.toNatClampNeg = x := ki_toN hx
  unfold vX12_lift vX12_at0
  intro _ _ j
  rw [ex, h.1 39 (by decide), h.1 40 (by decide)]
  obtain ⟨w, ew, ek⟩ : ∃ w, w = 12 * a.1 39 x + a.1 40 x ∧ w.toInt = ((12 * r + c : Nat) : Int) := ⟨_, rfl, ki_addN (ki_mulN z12 hr (by omega)) hc (by omega)⟩
  rw [← ew]
  have hk : 12 * r + c < 120 := by omega
  obtain ⟨b1, b2⟩ := h.2.1 _ hk
  refine vr_lift21 hx ek hk (hs _ hk) b1 (fun u u1 u2 u3 u4 => kk u (rA_rl h hk u1 u2 u3 hs u4) u1) j (a.2 (12 * r + c)) [] 0 0 μ rfl rfl rfl rl_refl (fun _ => rfl) (fun _ _ => rfl) (fun i y hy => absurd hy (by simp)) (fun i y hy => ?_)
  rw [show ([] : List Nat).length + i = i by simp]
  exact b2 i y hy
/-- a log is laid -/
def a_lay (a : ra_T) (x r c : Nat) : ra_T := fs_ (fs_ (ks_ a (12 * r + c) (a.2 (12 * r + c) ++ [x])) 39 x (nI r)) 40 x (nI c)
theorem rA_fs {a : ra_T} {μ : km_S} {f i : Nat} {v : Int32} (h : rA_ a μ) (hf : f ∈ rf_F) : rA_ (fs_ a f i v) (km_sa μ f i v) := by
  refine ⟨fun e he => ?_, fun k hk => ?_, fun r hr => ?_, ?_⟩
  · show (if e = f then upd (μ.2.1 f) i v else μ.2.1 e) = (if e = f then upd (a.1 f) i v else a.1 e)
    by_cases c : e = f
    · rw [if_pos c, if_pos c]
      have := h.1 f hf
      have q : μ.2.1 f = a.1 f := this
      rw [q]
    · rw [if_neg c, if_neg c]
      exact h.1 e he
  · have e1 : km_a (km_sa μ f i v) 31 = km_a μ 31 := if_neg (by intro e; rw [← e] at hf; exact absurd hf (by decide))
    have e2 : km_a (km_sa μ f i v) 32 = km_a μ 32 := if_neg (by intro e; rw [← e] at hf; exact absurd hf (by decide))
    rw [e1, e2]
    exact h.2.1 k hk
  · have e1 : km_a (km_sa μ f i v) 29 = km_a μ 29 := if_neg (by intro e; rw [← e] at hf; exact absurd hf (by decide))
    have e2 : km_a (km_sa μ f i v) 30 = km_a μ 30 := if_neg (by intro e; rw [← e] at hf; exact absurd hf (by decide))
    rw [e1, e2]
    exact h.2.2.1 r hr
  · have e : (fs_ a f i v).1 6 = a.1 6 := fs_n (by intro e; rw [← e] at hf; exact absurd hf (by decide))
    rw [e]
    exact h.2.2.2
theorem vr_lay {a : ra_T} {μ : km_S} {x r c : Nat} {xi ri ci : Int32} {Q : km_S → Prop} (h : rA_ a μ) (hx : xi.toInt = (x : Int)) (hr : ri.toInt = (r : Int)) (hc : ci.toInt = (c : Int)) (r10 : r < 10) (c12 : c < 12) (hs : ∀ j, j < 120 → (a.2 j).length ≤ 20) (ho : (a.2 (12 * r + c)).length < 20) (kk : ∀ u, rA_ (a_lay a x r c) u → (∀ f, f ≠ 31 → f ≠ 32 → f ≠ 39 → f ≠ 40 → km_a u f = km_a μ f) → u.1 = μ.1 → Q u) : vX12_lay xi ri ci μ Q := by
  have z12 : (12 : Int32).toInt = ((12 : Nat) : Int) := by decide
  have z20 : (20 : Int32).toInt = ((20 : Nat) : Int) := by decide
  have ex : xi.toNatClampNeg = x := ki_toN hx
  obtain ⟨w, ew, ek⟩ : ∃ w, w = 12 * ri + ci ∧ w.toInt = ((12 * r + c : Nat) : Int) := ⟨_, rfl, ki_addN (ki_mulN z12 hr (by omega)) hc (by omega)⟩
  have hk : 12 * r + c < 120 := by omega
  obtain ⟨b1, b2⟩ := h.2.1 _ hk
  have en : w.toNatClampNeg = 12 * r + c := ki_toN ek
  unfold vX12_lay vX12_at0
  dsimp only
  rw [← ew, en, ex]
  have ei : (20 * w + km_a μ 31 (12 * r + c)).toNatClampNeg = 20 * (12 * r + c) + (a.2 (12 * r + c)).length := ki_toN (ki_addN (ki_mulN z20 ek (by omega)) b1 (by omega))
  rw [ei]
  rintro _ _ μ5 rfl _ _ μ8 rfl _ μ10 rfl _ μ12 rfl
  refine kk _ ?_ (fun f h1 h2 h3 h4 => ?_) rfl
  · have rr : ri = nI r := nI_at hr (by omega)
    have cc : ci = nI c := nI_at hc (by omega)
    unfold a_lay
    rw [← rr, ← cc]
    refine rA_fs (rA_fs (rA_rl h hk (rl_31 (rl_32 rl_refl)) (fun j hj => ?_) (fun q hq => ?_) hs ⟨?_, fun i y hy => ?_⟩) (by decide)) (by decide)
    · exact w_updN hj
    · show upd (μ.2.1 32) (20 * (12 * r + c) + (a.2 (12 * r + c)).length) xi q = _
      exact w_updN (by omega)
    · show (upd (μ.2.1 31) (12 * r + c) (km_a μ 31 (12 * r + c) + 1) (12 * r + c)).toInt = _
      rw [w_updS, ki_add (by rw [b1, ki_z1]; omega) (by rw [b1, ki_z1]; omega), b1, ki_z1, List.length_append]
      rfl
    · show (upd (μ.2.1 32) (20 * (12 * r + c) + (a.2 (12 * r + c)).length) xi (20 * (12 * r + c) + i)).toInt = _
      by_cases c2 : i < (a.2 (12 * r + c)).length
      · rw [w_updN (by omega)]
        rw [List.getElem?_append_left c2] at hy
        exact b2 i y hy
      · have hlt := (List.getElem?_eq_some_iff.1 hy).1
        rw [List.length_append] at hlt
        have hlt : i < (a.2 (12 * r + c)).length + 1 := hlt
        have e2 : i = (a.2 (12 * r + c)).length := by omega
        rw [e2, List.getElem?_append_right (Nat.le_refl _), Nat.sub_self] at hy
        have : x = y := Option.some.inj hy
        rw [e2, w_updS, hx, this]
  · have e1 : ∀ (u : km_S) (g i : Nat) (v : Int32), f ≠ g → km_a (km_sa u g i v) f = km_a u f := fun u g i v hg => if_neg hg
    rw [e1 _ _ _ _ h4, e1 _ _ _ _ h3, e1 _ _ _ _ h1, e1 _ _ _ _ h2]
end
section
/-! the reference's moves -/
theorem upd_id {f : Nat → Int32} {i : Nat} {v : Int32} (h : f i = v) : upd f i v = f := by
  funext j
  by_cases c : j = i
  · rw [c, w_updS, h]
  · rw [w_updN c]
theorem ra_ext {a b : ra_T} (h38 : a.1 38 = b.1 38) (h39 : a.1 39 = b.1 39) (h40 : a.1 40 = b.1 40) (ho : ∀ f, f ≠ 38 → f ≠ 39 → f ≠ 40 → a.1 f = b.1 f) (h2 : ∀ j, a.2 j = b.2 j) : a = b := by
  refine Prod.ext (funext fun f => ?_) (funext h2)
  by_cases c1 : f = 38
  · rw [c1]; exact h38
  · by_cases c2 : f = 39
    · rw [c2]; exact h39
    · by_cases c3 : f = 40
      · rw [c3]; exact h40
      · exact ho f c1 c2 c3
theorem fil_non {L : List Nat} {x : Nat} (h : ¬ x ∈ L) : L.filter (fun z => decide (¬ z = x)) = L := by
  rw [List.filter_eq_self]
  intro y hy
  exact decide_eq_true (fun e => h (by rw [← e]; exact hy))
theorem fil_app {L : List Nat} {x : Nat} (h : ¬ x ∈ L) : (L ++ [x]).filter (fun z => decide (¬ z = x)) = L := by
  rw [List.filter_append, fil_non h, List.filter_cons_of_neg (by simp), List.filter_nil, List.append_nil]
/-- how a log leaves a reach: 0 not, 1 into the heap, 2 to sea, 3 into the next reach -/
def a_ek (a : ra_T) (r x : Nat) : Nat :=
  if ¬ a.1 22 r = 0 ∧ ((a.1 27 r >>> (a.1 35 x &&& 31)) &&& 1) = 1 then (if ((a.2 (120 + r)).length : Int) < (a.1 28 r).toInt then 1 else 0)
  else if ¬ a.1 21 r = 0 ∧ ¬ 50 ≤ a.1 19 r then 0
  else if a.1 13 r = -1 then 2 else if a_open a (a.1 13 r).toNatClampNeg 0 = true then 3 else 0
theorem a_exit_ek {a : ra_T} {r x : Nat} : a_exit a r x = if a_ek a r x = 1 then some (a_heap a x r) else if a_ek a r x = 2 then some (a_sea a x) else if a_ek a r x = 3 then some (a_take a x (a.1 13 r).toNatClampNeg 0) else none := by
  unfold a_exit a_ek
  repeat' split
  all_goals first
    | rfl
    | (exfalso; omega)
    | skip
/-- a log on its way within its reach -/
def a_mv (a : ra_T) (x r c t : Nat) : ra_T := if t = c then a else a_drop (a_take a x r t) x (12 * r + c)
theorem a_mv_c {a : ra_T} {x r c : Nat} : a_mv a x r c c = a := if_pos rfl
theorem a_mv_n {a : ra_T} {x r c t : Nat} (h : ¬ t = c) : a_mv a x r c t = a_drop (a_take a x r t) x (12 * r + c) := if_neg h
theorem qs_mv {a : ra_T} {x r c t : Nat} : qs_ a (a_mv a x r c t) := by
  unfold a_mv
  split
  · exact qs_refl
  · exact qs_drop qs_take
theorem a_mv_row {a : ra_T} {x r c t j : Nat} : (a_mv a x r c t).2 j = if t = c then a.2 j else if j = 12 * r + c then (a.2 (12 * r + c)).filter (fun z => decide (¬ z = x)) else if j = 12 * r + t then a.2 (12 * r + t) ++ [x] else a.2 j := by
  unfold a_mv
  split
  · rfl
  · next h =>
    show (if j = 12 * r + c then ((if 12 * r + c = 12 * r + t then a.2 (12 * r + t) ++ [x] else a.2 (12 * r + c)).filter (fun z => decide (¬ z = x))) else (if j = 12 * r + t then a.2 (12 * r + t) ++ [x] else a.2 j)) = _
    rw [if_neg (show ¬ 12 * r + c = 12 * r + t by omega)]
theorem a_lay_take {a : ra_T} {x k r c : Nat} (hk : k ≠ 12 * r + c) (h38 : a.1 38 x = 1) : a_lay (a_drop a x k) x r c = a_drop (a_take a x r c) x k := by
  refine ra_ext ?_ rfl rfl (fun f h1 h2 h3 => ?_) (fun j => ?_)
  · show a.1 38 = upd (a.1 38) x 1
    exact (upd_id h38).symm
  · rw [qs_drop (qs_take (a := a) (x := x) (r := r) (c := c)) f h1 h2 h3]
    exact (fs_n h3).trans (fs_n h2)
  · show (if j = 12 * r + c then (if 12 * r + c = k then _ else a.2 (12 * r + c)) ++ [x] else (if j = k then (a.2 k).filter (fun z => decide (¬ z = x)) else a.2 j)) = (if j = k then ((if k = 12 * r + c then _ else a.2 k).filter (fun z => decide (¬ z = x))) else (if j = 12 * r + c then a.2 (12 * r + c) ++ [x] else a.2 j))
    rw [if_neg (Ne.symm hk), if_neg hk]
    by_cases e : j = k
    · rw [if_pos e, if_neg (by rw [e]; exact hk), if_pos e]
    · rw [if_neg e, if_neg e]
/-- one step more -/
theorem a_mv_step {a : ra_T} {x r c t : Nat} (hct : c ≤ t) (h38 : a.1 38 x = 1) (h39 : a.1 39 x = nI r) (hx : t = c ∨ ¬ x ∈ a.2 (12 * r + t)) : a_lay (a_drop (a_mv a x r c t) x (12 * r + t)) x r (t + 1) = a_mv a x r c (t + 1) := by
  have k := qs_mv (a := a) (x := x) (r := r) (c := c) (t := t)
  have m38 : (a_mv a x r c t).1 38 = a.1 38 := by
    unfold a_mv
    split
    · rfl
    · exact upd_id h38
  have m39 : (a_mv a x r c t).1 39 = a.1 39 := by
    unfold a_mv
    split
    · rfl
    · exact upd_id h39
  rw [a_mv_n (t := t + 1) (by omega)]
  refine ra_ext ?_ ?_ ?_ (fun f h1 h2 h3 => ?_) (fun j => ?_)
  · show (a_mv a x r c t).1 38 = upd (a.1 38) x 1
    rw [m38, upd_id h38]
  · show upd ((a_mv a x r c t).1 39) x (nI r) = upd (a.1 39) x (nI r)
    rw [m39]
  · show upd ((a_mv a x r c t).1 40) x (nI (t + 1)) = upd (a.1 40) x (nI (t + 1))
    unfold a_mv
    split
    · rfl
    · show upd (upd (a.1 40) x (nI t)) x (nI (t + 1)) = _
      exact w_upd2
  · rw [qs_drop (qs_take (a := a) (x := x) (r := r) (c := t + 1)) f h1 h2 h3]
    exact (fs_n h3).trans ((fs_n h2).trans (k f h1 h2 h3))
  · have L : (a_lay (a_drop (a_mv a x r c t) x (12 * r + t)) x r (t + 1)).2 j = if j = 12 * r + (t + 1) then (a_mv a x r c t).2 (12 * r + (t + 1)) ++ [x] else if j = 12 * r + t then ((a_mv a x r c t).2 (12 * r + t)).filter (fun z => decide (¬ z = x)) else (a_mv a x r c t).2 j := by
      show (if j = 12 * r + (t + 1) then (if 12 * r + (t + 1) = 12 * r + t then _ else (a_mv a x r c t).2 (12 * r + (t + 1))) ++ [x] else (if j = 12 * r + t then ((a_mv a x r c t).2 (12 * r + t)).filter (fun z => decide (¬ z = x)) else (a_mv a x r c t).2 j)) = _
      rw [if_neg (show ¬ 12 * r + (t + 1) = 12 * r + t by omega)]
    have R : (a_drop (a_take a x r (t + 1)) x (12 * r + c)).2 j = if j = 12 * r + c then (a.2 (12 * r + c)).filter (fun z => decide (¬ z = x)) else if j = 12 * r + (t + 1) then a.2 (12 * r + (t + 1)) ++ [x] else a.2 j := by
      show (if j = 12 * r + c then ((if 12 * r + c = 12 * r + (t + 1) then _ else a.2 (12 * r + c)).filter (fun z => decide (¬ z = x))) else (if j = 12 * r + (t + 1) then a.2 (12 * r + (t + 1)) ++ [x] else a.2 j)) = _
      rw [if_neg (show ¬ 12 * r + c = 12 * r + (t + 1) by omega)]
    rw [L, R, a_mv_row, a_mv_row, a_mv_row]
    by_cases e : t = c
    · rw [if_pos e, if_pos e, if_pos e, e]
      by_cases j1 : j = 12 * r + (c + 1)
      · rw [if_pos j1, if_neg (by omega), if_pos j1]
      · rw [if_neg j1]
        by_cases j2 : j = 12 * r + c
        · rw [if_pos j2, if_pos j2]
        · rw [if_neg j2, if_neg j2, if_neg j1]
    · have nx : ¬ x ∈ a.2 (12 * r + t) := hx.resolve_left e
      rw [if_neg e, if_neg e, if_neg e, if_neg (show ¬ 12 * r + (t + 1) = 12 * r + c by omega), if_neg (show ¬ 12 * r + (t + 1) = 12 * r + t by omega), if_neg (show ¬ 12 * r + t = 12 * r + c by omega), if_pos rfl, fil_app nx]
      by_cases j1 : j = 12 * r + (t + 1)
      · rw [if_pos j1, if_neg (by omega), if_pos j1]
      · rw [if_neg j1]
        by_cases j2 : j = 12 * r + t
        · rw [if_pos j2, if_neg (by omega), if_neg j1, j2]
        · rw [if_neg j2, if_neg j2]
          by_cases j3 : j = 12 * r + c
          · rw [if_pos j3, if_pos j3]
          · rw [if_neg j3, if_neg j3, if_neg j1]
/-- what moves leave of the reference -/
def rg_ (μ u : km_S) : Prop := (∀ j, j ≠ 57 → j ≠ 68 → km_i u j = km_i μ j) ∧ ∀ f, f ∉ [29, 30, 31, 32, 38, 39, 40, 57, 68] → km_a u f = km_a μ f
theorem rg_refl {μ : km_S} : rg_ μ μ := ⟨fun _ _ _ => rfl, fun _ _ => rfl⟩
theorem rg_trans {a b c : km_S} (h : rg_ a b) (k : rg_ b c) : rg_ a c := ⟨fun j h1 h2 => (k.1 j h1 h2).trans (h.1 j h1 h2), fun f hf => (k.2 f hf).trans (h.2 f hf)⟩
theorem rg_rl {μ u v : km_S} (h : rg_ μ u) (k : rl_ u v) : rg_ μ v := rg_trans h ⟨fun j _ _ => by show v.1 j = u.1 j; rw [k.1], fun f hf => k.2.1 f (by intro e; exact hf (by rw [e]; decide)) (by intro e; exact hf (by rw [e]; decide))⟩
theorem rg_sa {μ u : km_S} {f i : Nat} {v : Int32} (h : rg_ μ u) (hf : f ∈ [29, 30, 31, 32, 38, 39, 40, 57, 68]) : rg_ μ (km_sa u f i v) := rg_trans h ⟨fun _ _ _ => rfl, fun g hg => if_neg (fun e => hg (by rw [e]; exact hf))⟩
theorem rg_lay {μ u v : km_S} (h : rg_ μ u) (k1 : ∀ f, f ≠ 31 → f ≠ 32 → f ≠ 39 → f ≠ 40 → km_a v f = km_a u f) (k2 : v.1 = u.1) : rg_ μ v := rg_trans h ⟨fun j _ _ => by show v.1 j = u.1 j; rw [k2], fun f hf => k1 f (by intro e; exact hf (by rw [e]; decide)) (by intro e; exact hf (by rw [e]; decide)) (by intro e; exact hf (by rw [e]; decide)) (by intro e; exact hf (by rw [e]; decide))⟩
theorem vr_isOpen {a : ra_T} {μ : km_S} {r c : Nat} {ri ci : Int32} {Q : Int32 → km_S → Prop} (h : rA_ a μ) (hr : ri.toInt = (r : Int)) (hc : ci.toInt = (c : Int)) (r10 : r < 10) (c12 : c < 12) (k1 : a_open a r c = true → Q 1 μ) (k0 : a_open a r c = false → Q 0 μ) : vX12_isOpen ri ci μ Q := by
  have z12 : (12 : Int32).toInt = ((12 : Nat) : Int) := by decide
  obtain ⟨w, ew, ek⟩ : ∃ w, w = 12 * ri + ci ∧ w.toInt = ((12 * r + c : Nat) : Int) := ⟨_, rfl, ki_addN (ki_mulN z12 hr (by omega)) hc (by omega)⟩
  have en : w.toNatClampNeg = 12 * r + c := ki_toN ek
  have er : ri.toNatClampNeg = r := ki_toN hr
  obtain ⟨b1, _⟩ := h.2.1 (12 * r + c) (by omega)
  unfold vX12_isOpen vX12_at0
  dsimp only
  rw [← ew, en, er, h.1 15 (by decide), h.1 33 (by decide), ki_le, b1]
  intro _ _
  refine ⟨fun d => k0 (a_openF (fun q => by have := q.1; omega)), fun d _ => ⟨fun e => k0 (a_openF (fun q => e q.2)), fun e => k1 (a_openT.2 ⟨by omega, e⟩)⟩⟩
theorem vr_leave {a : ra_T} {μ : km_S} {x r t : Nat} {xi ri : Int32} {Q : km_S → Prop} (h : rA_ a μ) (hx : xi.toInt = (x : Int)) (hr : ri.toInt = (r : Int)) (r10 : r < 10) (t12 : t < 12) (hs : ∀ j, j < 120 → (a.2 j).length ≤ 20) (hh : ∀ q, q < 10 → (a.2 (120 + q)).length ≤ 100) (h38 : a.1 38 x = 1) (h39 : (a.1 39 x).toInt = (r : Int)) (h40 : (a.1 40 x).toInt = (t : Int)) (hm : -1 ≤ (a.1 13 r).toInt ∧ (a.1 13 r).toInt < (r : Int)) (hcar : ∀ q, q < r → (a.1 15 q).toInt ≤ 20) (hroom : ¬ a.1 22 r = 0 → (a.1 28 r).toInt ≤ 100)
    (k0 : a_ek a r x = 0 → Q μ) (k1 : a_ek a r x = 1 → ∀ u, rA_ (a_drop (a_heap a x r) x (12 * r + t)) u → rg_ μ u → Q u) (k2 : a_ek a r x = 2 → ∀ u, rA_ (a_drop (a_sea a x) x (12 * r + t)) u → rg_ μ u → Q u) (k3 : a_ek a r x = 3 → ∀ u, rA_ (a_drop (a_take a x (a.1 13 r).toNatClampNeg 0) x (12 * r + t)) u → rg_ μ u → Q u) : vX12_leave xi ri μ Q := by
  have er : ri.toNatClampNeg = r := ki_toN hr
  have ex : xi.toNatClampNeg = x := ki_toN hx
  have n134 : ¬ (¬ a.1 22 r = 0 ∧ ((a.1 27 r >>> (a.1 35 x &&& 31)) &&& 1) = 1) → ¬ (¬ a.1 21 r = 0 ∧ ¬ 50 ≤ a.1 19 r) → vX12_leave_134 Q xi ri μ := by
    intro n1 n2
    have e0 : a_ek a r x = if a.1 13 r = -1 then 2 else if a_open a (a.1 13 r).toNatClampNeg 0 = true then 3 else 0 := by
      unfold a_ek
      rw [if_neg n1, if_neg n2]
    unfold vX12_leave_134
    rw [er, ex, h.1 13 (by decide)]
    intro _
    refine ⟨fun nm _ => ?_, fun nm => ?_⟩
    · rw [if_neg nm] at e0
      have nm' := nm
      rw [ki_eq, ki_zm] at nm'
      obtain ⟨q, hq⟩ : ∃ q : Nat, (a.1 13 r).toInt = (q : Int) := ⟨(a.1 13 r).toInt.toNat, by omega⟩
      have eq : (a.1 13 r).toNatClampNeg = q := ki_toN hq
      rw [eq] at e0 k3
      refine vr_isOpen h hq (c := 0) rfl (by omega) (by omega) (fun o => ⟨fun z => absurd z (by decide), fun _ => ?_⟩) (fun o => ⟨fun _ => ?_, fun z => absurd rfl z⟩)
      · rw [if_pos o] at e0
        refine vr_lift h hx h39 h40 r10 t12 hs (fun u h1 l1 => ?_)
        intro _
        have en : km_a u 13 r = a.1 13 r := by
          rw [l1.2.1 13 (by decide) (by decide)]
          exact congrFun (h.1 13 (by decide)) r
        rw [en]
        have ho := (a_openT.1 o).1
        have hcq := hcar q (by omega)
        have hs1 : ∀ j, j < 120 → ((a_drop a x (12 * r + t)).2 j).length ≤ 20 := by
          intro j hj
          show (if j = 12 * r + t then _ else a.2 j : List Nat).length ≤ 20
          split
          · have := List.length_filter_le (fun z => decide (¬ z = x)) (a.2 (12 * r + t))
            have := hs (12 * r + t) (by omega)
            omega
          · exact hs j hj
        have hrow : (a_drop a x (12 * r + t)).2 (12 * q + 0) = a.2 (12 * q + 0) := ks_n (by omega)
        refine vr_lay (c := 0) h1 hx hq (by decide) (by omega) (by omega) hs1 (by rw [hrow]; omega) (fun v h2 g1 g2 => k3 e0 v ?_ (rg_lay (rg_rl rg_refl l1) g1 g2))
        rw [a_lay_take (by omega) h38] at h2
        exact h2
      · rw [if_neg (b_no o)] at e0
        exact k0 e0
    · rw [if_pos nm] at e0
      refine vr_lift h hx h39 h40 r10 t12 hs (fun u h1 l1 => ?_)
      rintro _ μ12 rfl _ μ14 rfl _ μ16 rfl
      refine k2 e0 _ ?_ (rg_sa (rg_sa (rg_sa (rg_rl rg_refl l1) (by decide)) (by decide)) (by decide))
      exact rA_fs (rA_fs (rA_fs h1 (by decide)) (by decide)) (by decide)
  have n113 : ¬ (¬ a.1 22 r = 0 ∧ ((a.1 27 r >>> (a.1 35 x &&& 31)) &&& 1) = 1) → vX12_leave_113 Q xi ri μ := by
    intro n1
    unfold vX12_leave_113
    rw [er, h.1 21 (by decide), h.1 19 (by decide)]
    intro _
    refine ⟨fun e => n134 n1 (fun q => q.1 e), fun e _ => ⟨fun d => n134 n1 (fun q => q.2 d), fun d => k0 ?_⟩⟩
    unfold a_ek
    rw [if_neg n1, if_pos ⟨e, d⟩]
  obtain ⟨b1, b2⟩ := h.2.2.1 r r10
  have hhr := hh r r10
  unfold vX12_leave
  rw [er, ex, h.1 22 (by decide), h.1 27 (by decide), h.1 35 (by decide), h.1 28 (by decide)]
  intro _
  refine ⟨fun e => n113 (fun q => q.1 e), fun e _ _ => ⟨fun d => n113 (fun q => d q.2), fun d _ _ => ?_⟩⟩
  rw [ki_lt, b1]
  have e0 : a_ek a r x = if ((a.2 (120 + r)).length : Int) < (a.1 28 r).toInt then 1 else 0 := by
    unfold a_ek
    rw [if_pos ⟨e, d⟩]
  refine ⟨fun c => ?_, fun c => k0 (by rw [e0, if_neg c])⟩
  rw [if_pos c] at e0
  have room := hroom e
  refine vr_lift h hx h39 h40 r10 t12 hs (fun u h1 l1 => ?_)
  have u29 : km_a u 29 = km_a μ 29 := l1.2.1 29 (by decide) (by decide)
  have z100 : (100 : Int32).toInt = ((100 : Nat) : Int) := by decide
  have ei : (100 * ri + km_a u 29 r).toNatClampNeg = 100 * r + (a.2 (120 + r)).length := by
    rw [u29]
    exact ki_toN (ki_addN (ki_mulN z100 hr (by omega)) b1 (by omega))
  rw [ei]
  rintro _ _ μ32 rfl _ _ μ35 rfl _ μ37 rfl _ μ39 rfl _ _
  have h2 : rA_ (a_drop (a_heap a x r) x (12 * r + t)) (km_sa (km_sa (km_sa (km_sa u 30 (100 * r + (a.2 (120 + r)).length) xi) 29 r (km_a u 29 r + 1)) 38 x 2) 40 x (-1)) := by
    have h3 : rA_ (ks_ (a_drop a x (12 * r + t)) (120 + r) (a.2 (120 + r) ++ [x])) (km_sa (km_sa u 30 (100 * r + (a.2 (120 + r)).length) xi) 29 r (km_a u 29 r + 1)) := by
      obtain ⟨g1, g2, g3, g4⟩ := h1
      refine ⟨fun f hf => ?_, fun k hk => ?_, fun q hq => ?_, g4⟩
      · rw [show km_a (km_sa (km_sa u 30 (100 * r + (a.2 (120 + r)).length) xi) 29 r (km_a u 29 r + 1)) f = km_a u f from (if_neg (by intro e; rw [e] at hf; exact absurd hf (by decide))).trans (if_neg (by intro e; rw [e] at hf; exact absurd hf (by decide)))]
        exact g1 f hf
      · rw [ks_n (by omega)]
        exact g2 k hk
      · have rowr : (a_drop a x (12 * r + t)).2 (120 + r) = a.2 (120 + r) := ks_n (by omega)
        by_cases e2 : q = r
        · rw [e2, ks_s]
          refine ⟨?_, fun i y hy => ?_⟩
          · show (upd (u.2.1 29) r (km_a u 29 r + 1) r).toInt = _
            have b1' : (km_a u 29 r).toInt = ((a.2 (120 + r)).length : Int) := by rw [u29]; exact b1
            rw [w_updS, ki_add (by rw [b1', ki_z1]; omega) (by rw [b1', ki_z1]; omega), b1', ki_z1, List.length_append]
            rfl
          · show (upd (u.2.1 30) (100 * r + (a.2 (120 + r)).length) xi (100 * r + i)).toInt = _
            by_cases c2 : i < (a.2 (120 + r)).length
            · rw [w_updN (by omega)]
              rw [List.getElem?_append_left c2] at hy
              have := g3 r r10
              rw [rowr] at this
              exact this.2 i y hy
            · have hlt := (List.getElem?_eq_some_iff.1 hy).1
              rw [List.length_append] at hlt
              have hlt : i < (a.2 (120 + r)).length + 1 := hlt
              have e3 : i = (a.2 (120 + r)).length := by omega
              rw [e3, List.getElem?_append_right (Nat.le_refl _), Nat.sub_self] at hy
              have : x = y := Option.some.inj hy
              rw [e3, w_updS, hx, this]
        · rw [ks_n (by omega)]
          obtain ⟨p1, p2⟩ := g3 q hq
          refine ⟨?_, fun i y hy => ?_⟩
          · show (upd (u.2.1 29) r (km_a u 29 r + 1) q).toInt = _
            rw [w_updN e2]
            exact p1
          · show (upd (u.2.1 30) (100 * r + (a.2 (120 + r)).length) xi (100 * q + i)).toInt = _
            have hlt := (List.getElem?_eq_some_iff.1 hy).1
            have hq100 : ((a_drop a x (12 * r + t)).2 (120 + q)).length ≤ 100 := by
              have e5 : (a_drop a x (12 * r + t)).2 (120 + q) = a.2 (120 + q) := ks_n (by omega)
              rw [e5]
              exact hh q hq
            rw [w_updN (by omega)]
            exact p2 i y hy
    have h5 := rA_fs (i := x) (v := -1) (rA_fs (i := x) (v := 2) h3 (f := 38) (by decide)) (f := 40) (by decide)
    have e6 : fs_ (fs_ (ks_ (a_drop a x (12 * r + t)) (120 + r) (a.2 (120 + r) ++ [x])) 38 x 2) 40 x (-1) = a_drop (a_heap a x r) x (12 * r + t) := by
      refine ra_ext rfl rfl rfl (fun f h1 h2 h3 => ?_) (fun j => ?_)
      · rw [qs_drop (qs_heap (a := a) (x := x) (r := r)) f h1 h2 h3]
        exact (fs_n h3).trans (fs_n h1)
      · show (if j = 120 + r then a.2 (120 + r) ++ [x] else (if j = 12 * r + t then (a.2 (12 * r + t)).filter (fun z => decide (¬ z = x)) else a.2 j)) = (if j = 12 * r + t then ((if 12 * r + t = 120 + r then _ else a.2 (12 * r + t)).filter (fun z => decide (¬ z = x))) else (if j = 120 + r then a.2 (120 + r) ++ [x] else a.2 j))
        rw [if_neg (show ¬ 12 * r + t = 120 + r by omega)]
        by_cases j1 : j = 12 * r + t
        · rw [if_pos j1, if_neg (by omega), if_pos j1]
        · rw [if_neg j1, if_neg j1]
    rw [e6] at h5
    exact h5
  have g2 : rg_ μ (km_sa (km_sa (km_sa (km_sa u 30 (100 * r + (a.2 (120 + r)).length) xi) 29 r (km_a u 29 r + 1)) 38 x 2) 40 x (-1)) := rg_sa (rg_sa (rg_sa (rg_sa (rg_rl rg_refl l1) (by decide)) (by decide)) (by decide)) (by decide)
  have u29' : km_a (km_sa u 30 (100 * r + (a.2 (120 + r)).length) xi) 29 r = km_a u 29 r := rfl
  rw [u29']
  generalize km_sa (km_sa (km_sa (km_sa u 30 (100 * r + (a.2 (120 + r)).length) xi) 29 r (km_a u 29 r + 1)) 38 x 2) 40 x (-1) = v at *
  refine jfX12_ruled (I := fun w => rA_ (a_drop (a_heap a x r) x (12 * r + t)) w ∧ rg_ μ w) ?_ (fun r43 w hw => ?_) _ _ _ _ ⟨h2, g2⟩
  · intro w hw f hf
    have f5 : f = 57 ∨ f = 68 := by
      rcases List.mem_cons.1 hf with q | q
      · exact .inl q
      · exact .inr (List.mem_singleton.1 q)
    obtain ⟨⟨w1, w2, w3, w4⟩, w5, w6⟩ := hw
    have nf : ∀ g, g ∈ rf_F → g ≠ f := by
      intro g hg e
      rw [e] at hg
      rcases f5 with q | q <;> (rw [q] at hg; exact absurd hg (by decide))
    refine ⟨fun v => ⟨⟨w1, w2, w3, ?_⟩, fun j j1 j2 => ?_, w6⟩, fun i v => ⟨⟨fun g hg => ?_, ?_, ?_, w4⟩, w5, fun g hg => ?_⟩, fun v => ⟨⟨w1, w2, w3, w4⟩, w5, w6⟩, fun i v => ⟨⟨w1, w2, w3, w4⟩, w5, w6⟩⟩
    · have : km_i (km_si w f v) 6 = km_i w 6 := w_updN (by rcases f5 with q | q <;> (rw [q]; decide))
      rw [this]
      exact w4
    · have : km_i (km_si w f v) j = km_i w j := w_updN (by rcases f5 with q | q <;> (rw [q]; assumption))
      rw [this]
      exact w5 j j1 j2
    · rw [show km_a (km_sa w f i v) g = km_a w g from if_neg (nf g hg)]
      exact w1 g hg
    · intro k hk
      rw [show km_a (km_sa w f i v) 32 = km_a w 32 from if_neg (by rcases f5 with q | q <;> (rw [q]; decide)), show km_a (km_sa w f i v) 31 = km_a w 31 from if_neg (by rcases f5 with q | q <;> (rw [q]; decide))]
      exact w2 k hk
    · intro k hk
      rw [show km_a (km_sa w f i v) 30 = km_a w 30 from if_neg (by rcases f5 with q | q <;> (rw [q]; decide)), show km_a (km_sa w f i v) 29 = km_a w 29 from if_neg (by rcases f5 with q | q <;> (rw [q]; decide))]
      exact w3 k hk
    · rw [show km_a (km_sa w f i v) g = km_a w g from if_neg (by intro e; exact hg (by rw [e]; rcases f5 with q | q <;> (rw [q]; decide)))]
      exact w6 g hg
  · rintro _ μ45 rfl
    exact k1 e0 _ hw.1 hw.2
end
section
/-! the reference: a log goes, all go -/
theorem a_mv_38 {a : ra_T} {x r c t : Nat} (h38 : a.1 38 x = 1) : (a_mv a x r c t).1 38 = a.1 38 := by
  unfold a_mv
  split
  · rfl
  · exact upd_id h38
theorem a_mv_39 {a : ra_T} {x r c t : Nat} (h39 : a.1 39 x = nI r) : (a_mv a x r c t).1 39 = a.1 39 := by
  unfold a_mv
  split
  · rfl
  · exact upd_id h39
theorem a_mv_40 {a : ra_T} {x r c t : Nat} (h40 : (a.1 40 x).toInt = (c : Int)) (ht : t ≤ 500) : ((a_mv a x r c t).1 40 x).toInt = (t : Int) := by
  unfold a_mv
  split
  · next e => rw [e]; exact h40
  · show (upd (a.1 40) x (nI t) x).toInt = _
    rw [w_updS, t_nI ht]
theorem a_mv_ek {a : ra_T} {x r c t : Nat} (r10 : r < 10) (c12 : c < 12) (t12 : t < 12) (hm : -1 ≤ (a.1 13 r).toInt ∧ (a.1 13 r).toInt < (r : Int)) : a_ek (a_mv a x r c t) r x = a_ek a r x := by
  have k := qs_mv (a := a) (x := x) (r := r) (c := c) (t := t)
  have row : ∀ j, j ≠ 12 * r + c → j ≠ 12 * r + t → (a_mv a x r c t).2 j = a.2 j := by
    intro j h1 h2
    rw [a_mv_row]
    by_cases e : t = c
    · rw [if_pos e]
    · rw [if_neg e, if_neg h1, if_neg h2]
  unfold a_ek
  rw [k 22 (by decide) (by decide) (by decide), k 27 (by decide) (by decide) (by decide), k 35 (by decide) (by decide) (by decide), k 28 (by decide) (by decide) (by decide), k 21 (by decide) (by decide) (by decide), k 19 (by decide) (by decide) (by decide), k 13 (by decide) (by decide) (by decide), row (120 + r) (by omega) (by omega)]
  by_cases e : a.1 13 r = -1
  · rw [if_pos e, if_pos e]
  · have e' := e
    rw [ki_eq, ki_zm] at e'
    obtain ⟨q, hq⟩ : ∃ q : Nat, (a.1 13 r).toInt = (q : Int) := ⟨(a.1 13 r).toInt.toNat, by omega⟩
    have eq : (a.1 13 r).toNatClampNeg = q := ki_toN hq
    have eo : a_open (a_mv a x r c t) q 0 = a_open a q 0 := by
      unfold a_open
      rw [row (12 * q + 0) (by omega) (by omega), k 15 (by decide) (by decide) (by decide), k 33 (by decide) (by decide) (by decide)]
    rw [eq, eo]
/-- from where it lies now it is as from where it lay -/
theorem a_mv_heap {a : ra_T} {x r c t : Nat} (r10 : r < 10) (c12 : c < 12) (t12 : t < 12) (h38 : a.1 38 x = 1) (h39 : a.1 39 x = nI r) (hx : t = c ∨ ¬ x ∈ a.2 (12 * r + t)) : a_drop (a_heap (a_mv a x r c t) x r) x (12 * r + t) = a_drop (a_heap a x r) x (12 * r + c) := by
  by_cases e : t = c
  · rw [e, a_mv_c]
  have nx := hx.resolve_left e
  have k := qs_mv (a := a) (x := x) (r := r) (c := c) (t := t)
  refine ra_ext ?_ (a_mv_39 h39) ?_ (fun f h1 h2 h3 => ?_) (fun j => ?_)
  · show upd ((a_mv a x r c t).1 38) x 2 = upd (a.1 38) x 2
    rw [a_mv_38 h38]
  · show upd ((a_mv a x r c t).1 40) x (-1) = upd (a.1 40) x (-1)
    rw [a_mv_n e]
    exact w_upd2
  · rw [qs_drop (qs_heap (a := a) (x := x) (r := r)) f h1 h2 h3, qs_drop (qs_heap (a := a_mv a x r c t) (x := x) (r := r)) f h1 h2 h3]
    exact k f h1 h2 h3
  · show (if j = 12 * r + t then ((if 12 * r + t = 120 + r then _ else (a_mv a x r c t).2 (12 * r + t)).filter (fun z => decide (¬ z = x))) else (if j = 120 + r then (a_mv a x r c t).2 (120 + r) ++ [x] else (a_mv a x r c t).2 j)) = (if j = 12 * r + c then ((if 12 * r + c = 120 + r then _ else a.2 (12 * r + c)).filter (fun z => decide (¬ z = x))) else (if j = 120 + r then a.2 (120 + r) ++ [x] else a.2 j))
    rw [if_neg (show ¬ 12 * r + t = 120 + r by omega), if_neg (show ¬ 12 * r + c = 120 + r by omega), a_mv_row, a_mv_row, a_mv_row, if_neg e, if_neg e, if_neg e, if_neg (show ¬ 12 * r + t = 12 * r + c by omega), if_pos rfl, fil_app nx, if_neg (show ¬ 120 + r = 12 * r + c by omega), if_neg (show ¬ 120 + r = 12 * r + t by omega)]
    by_cases j1 : j = 12 * r + t
    · rw [if_pos j1, if_neg (by omega), if_neg (by omega), j1]
    · rw [if_neg j1]
      by_cases j2 : j = 120 + r
      · rw [if_pos j2, if_neg (by omega), if_pos j2]
      · rw [if_neg j2, if_neg j1]
        by_cases j3 : j = 12 * r + c
        · rw [if_pos j3, if_pos j3]
        · rw [if_neg j3, if_neg j3, if_neg j2]
theorem a_mv_sea {a : ra_T} {x r c t : Nat} (h38 : a.1 38 x = 1) (h39 : a.1 39 x = nI r) (hx : t = c ∨ ¬ x ∈ a.2 (12 * r + t)) : a_drop (a_sea (a_mv a x r c t) x) x (12 * r + t) = a_drop (a_sea a x) x (12 * r + c) := by
  by_cases e : t = c
  · rw [e, a_mv_c]
  have nx := hx.resolve_left e
  have k := qs_mv (a := a) (x := x) (r := r) (c := c) (t := t)
  refine ra_ext ?_ ?_ ?_ (fun f h1 h2 h3 => ?_) (fun j => ?_)
  · show upd ((a_mv a x r c t).1 38) x 4 = upd (a.1 38) x 4
    rw [a_mv_38 h38]
  · show upd ((a_mv a x r c t).1 39) x (-1) = upd (a.1 39) x (-1)
    rw [a_mv_39 h39]
  · show upd ((a_mv a x r c t).1 40) x (-1) = upd (a.1 40) x (-1)
    rw [a_mv_n e]
    exact w_upd2
  · rw [qs_drop (qs_sea (a := a) (x := x)) f h1 h2 h3, qs_drop (qs_sea (a := a_mv a x r c t) (x := x)) f h1 h2 h3]
    exact k f h1 h2 h3
  · show (if j = 12 * r + t then ((a_mv a x r c t).2 (12 * r + t)).filter (fun z => decide (¬ z = x)) else (a_mv a x r c t).2 j) = (if j = 12 * r + c then (a.2 (12 * r + c)).filter (fun z => decide (¬ z = x)) else a.2 j)
    rw [a_mv_row, a_mv_row, if_neg e, if_neg e, if_neg (show ¬ 12 * r + t = 12 * r + c by omega), if_pos rfl, fil_app nx]
    by_cases j1 : j = 12 * r + t
    · rw [if_pos j1, if_neg (by omega), j1]
    · rw [if_neg j1]
      by_cases j3 : j = 12 * r + c
      · rw [if_pos j3, if_pos j3]
      · rw [if_neg j3, if_neg j3, if_neg j1]
theorem a_mv_take {a : ra_T} {x r c t q : Nat} (hq : q < r) (c12 : c < 12) (t12 : t < 12) (h38 : a.1 38 x = 1) (h39 : a.1 39 x = nI r) (hx : t = c ∨ ¬ x ∈ a.2 (12 * r + t)) : a_drop (a_take (a_mv a x r c t) x q 0) x (12 * r + t) = a_drop (a_take a x q 0) x (12 * r + c) := by
  by_cases e : t = c
  · rw [e, a_mv_c]
  have nx := hx.resolve_left e
  have k := qs_mv (a := a) (x := x) (r := r) (c := c) (t := t)
  refine ra_ext ?_ ?_ ?_ (fun f h1 h2 h3 => ?_) (fun j => ?_)
  · show upd ((a_mv a x r c t).1 38) x 1 = upd (a.1 38) x 1
    rw [a_mv_38 h38]
  · show upd ((a_mv a x r c t).1 39) x (nI q) = upd (a.1 39) x (nI q)
    rw [a_mv_39 h39]
  · show upd ((a_mv a x r c t).1 40) x (nI 0) = upd (a.1 40) x (nI 0)
    rw [a_mv_n e]
    exact w_upd2
  · rw [qs_drop (qs_take (a := a) (x := x) (r := q) (c := 0)) f h1 h2 h3, qs_drop (qs_take (a := a_mv a x r c t) (x := x) (r := q) (c := 0)) f h1 h2 h3]
    exact k f h1 h2 h3
  · show (if j = 12 * r + t then ((if 12 * r + t = 12 * q + 0 then _ else (a_mv a x r c t).2 (12 * r + t)).filter (fun z => decide (¬ z = x))) else (if j = 12 * q + 0 then (a_mv a x r c t).2 (12 * q + 0) ++ [x] else (a_mv a x r c t).2 j)) = (if j = 12 * r + c then ((if 12 * r + c = 12 * q + 0 then _ else a.2 (12 * r + c)).filter (fun z => decide (¬ z = x))) else (if j = 12 * q + 0 then a.2 (12 * q + 0) ++ [x] else a.2 j))
    rw [if_neg (show ¬ 12 * r + t = 12 * q + 0 by omega), if_neg (show ¬ 12 * r + c = 12 * q + 0 by omega), a_mv_row, a_mv_row, a_mv_row, if_neg e, if_neg e, if_neg e, if_neg (show ¬ 12 * r + t = 12 * r + c by omega), if_pos rfl, fil_app nx, if_neg (show ¬ 12 * q + 0 = 12 * r + c by omega), if_neg (show ¬ 12 * q + 0 = 12 * r + t by omega)]
    by_cases j1 : j = 12 * r + t
    · rw [if_pos j1, if_neg (by omega), if_neg (by omega), j1]
    · rw [if_neg j1]
      by_cases j2 : j = 12 * q + 0
      · rw [if_pos j2, if_neg (by omega), if_pos j2]
      · rw [if_neg j2, if_neg j1]
        by_cases j3 : j = 12 * r + c
        · rw [if_pos j3, if_pos j3]
        · rw [if_neg j3, if_neg j3, if_neg j2]
/-- what all rows keep to, wherever they are -/
def rsz_ (a : ra_T) : Prop := (∀ j, j < 120 → (a.2 j).length ≤ 20) ∧ ∀ q, q < 10 → (a.2 (120 + q)).length ≤ 100
theorem a_on_ek {a : ra_T} {r c sp x : Nat} : a_go a r c sp x = if 0 < (a_jump a r sp c).2 ∧ (a_jump a r sp c).1 + 1 = ln_ a r then (if a_ek a r x = 1 then a_drop (a_heap a x r) x (12 * r + c) else if a_ek a r x = 2 then a_drop (a_sea a x) x (12 * r + c) else if a_ek a r x = 3 then a_drop (a_take a x (a.1 13 r).toNatClampNeg 0) x (12 * r + c) else a_mv a x r c (a_jump a r sp c).1) else a_mv a x r c (a_jump a r sp c).1 := by
  have last : (match (if (a_jump a r sp c).1 = c then none else some (a_take a x r (a_jump a r sp c).1)) with
      | some b => a_drop b x (12 * r + c)
      | none => a) = a_mv a x r c (a_jump a r sp c).1 := by
    unfold a_mv
    split
    · next b e =>
      split at e
      · exact absurd e (by simp)
      · next h => rw [if_neg h, Option.some.inj e]
    · next e =>
      split at e
      · next h => rw [if_pos h]
      · exact absurd e (by simp)
  unfold a_go a_on
  rw [a_exit_ek]
  by_cases hh : 0 < (a_jump a r sp c).2 ∧ (a_jump a r sp c).1 + 1 = ln_ a r
  · rw [if_pos hh, if_pos hh]
    by_cases e1 : a_ek a r x = 1
    · (rw [if_pos e1, if_pos e1]) <;> rfl
    · rw [if_neg e1, if_neg e1]
      by_cases e2 : a_ek a r x = 2
      · (rw [if_pos e2, if_pos e2]) <;> rfl
      · rw [if_neg e2, if_neg e2]
        by_cases e3 : a_ek a r x = 3
        · (rw [if_pos e3, if_pos e3]) <;> rfl
        · rw [if_neg e3, if_neg e3]
          exact last
  · rw [if_neg hh, if_neg hh]
    exact last
theorem vr_go25 {a : ra_T} {x r c sp nr nl : Nat} {xi ri si : Int32} {Q : km_S → Prop} {μ : km_S} (h10 : nr ≤ 10) (A : ao_ nr nl a) (S : rsz_ a) (hr : r < nr) (hc : c < ln_ a r) (hxm : x ∈ a.2 (12 * r + c)) (hx : xi.toInt = (x : Int)) (hri : ri.toInt = (r : Int)) (hsi : si.toInt = (sp : Int)) (h6 : sp ≤ 6) (hroom : ¬ a.1 22 r = 0 → (a.1 28 r).toInt ≤ 100) (hjam : a.1 33 (12 * r + c) = 0) (kk : ∀ u, rA_ (a_go a r c sp x) u → rg_ μ u → Q u) : ∀ (j s t : Nat) (l4 : Int32) (u : km_S), l4.toInt = (sp : Int) - (s : Int) → s ≤ sp → c ≤ t → t < ln_ a r → (t = c ∨ a_open a r t = true) → a_jump a r s t = a_jump a r sp c → rA_ (a_mv a x r c t) u → rg_ μ u → vX12_go_25 (vX12_go_98 Q) Q j xi ri si l4 u := by
  obtain ⟨A1, A2, A3, A4, A5, A6⟩ := A
  obtain ⟨n1, n2, n3, n4, n5⟩ := A1 r hr
  obtain ⟨x38, x39, x40⟩ := (A4 r c hr hc).2 x hxm
  have x39' : a.1 39 x = nI r := nI_at x39 (by omega)
  have er : ri.toNatClampNeg = r := ki_toN hri
  have ex : xi.toNatClampNeg = x := ki_toN hx
  have z12 : (12 : Int32).toInt = ((12 : Nat) : Int) := by decide
  have nin : ∀ t, t < ln_ a r → t = c ∨ ¬ x ∈ a.2 (12 * r + t) := by
    intro t ht
    by_cases e : t = c
    · exact .inl e
    · refine .inr (fun q => e ?_)
      have := ((A4 r t hr ht).2 x q).2.2
      omega
  intro j
  induction j with
  | zero => intro _ _ _ _ _ _ _ _ _ _ _ _; exact trivial
  | succ j ih =>
    intro s t l4 u h4 hs hct ht hto hj h g
    have k := qs_mv (a := a) (x := x) (r := r) (c := c) (t := t)
    have m40 := a_mv_40 (r := r) (t := t) x40 (by omega)
    have S1 : ∀ q, q < 120 → ((a_mv a x r c t).2 q).length ≤ 20 := by
      intro q hq
      rw [a_mv_row]
      split
      · exact S.1 q hq
      · next e =>
        split
        · have := List.length_filter_le (fun z => decide (¬ z = x)) (a.2 (12 * r + c))
          have := S.1 (12 * r + c) (by omega)
          omega
        · split
          · have ho := (a_openT.1 (hto.resolve_left e)).1
            rw [List.length_append]
            show (a.2 (12 * r + t)).length + 1 ≤ 20
            omega
          · exact S.1 q hq
    have S2 : ∀ q, q < 10 → ((a_mv a x r c t).2 (120 + q)).length ≤ 100 := by
      intro q hq
      rw [a_mv_row]
      split
      · exact S.2 q hq
      · rw [if_neg (by omega), if_neg (by omega)]
        exact S.2 q hq
    have jam0 : a.1 33 (12 * r + t) = 0 := by
      rcases hto with e | e
      · rw [e]; exact hjam
      · exact (a_openT.1 e).2
    have u40 : km_a u 40 x = (a_mv a x r c t).1 40 x := congrFun (h.1 40 (by decide)) x
    obtain ⟨w4, ew4⟩ : ∃ w, w = km_a u 40 x := ⟨_, rfl⟩
    have hw4 : w4.toInt = (t : Int) := by rw [ew4, u40]; exact m40
    obtain ⟨w, ew, hw⟩ : ∃ w, w = 12 * ri + w4 ∧ w.toInt = ((12 * r + t : Nat) : Int) := ⟨_, rfl, ki_addN (ki_mulN z12 hri (by omega)) hw4 (by omega)⟩
    obtain ⟨w5, ew5, hw5⟩ : ∃ v, v = w4 + 1 ∧ v.toInt = ((t + 1 : Nat) : Int) := ⟨_, rfl, ki_addN hw4 ki_z1 (by omega)⟩
    have e33 : km_a u 33 (12 * r + t) = a.1 33 (12 * r + t) := by
      rw [h.1 33 (by decide), k 33 (by decide) (by decide) (by decide)]
    have e14 : (km_a u 14 r).toInt = (ln_ a r : Int) := by
      rw [h.1 14 (by decide), k 14 (by decide) (by decide) (by decide)]
      show (a.1 14 r).toInt = ((a.1 14 r).toNatClampNeg : Int)
      have : 1 ≤ (a.1 14 r).toNatClampNeg := n2
      rw [ki_nat] at this ⊢
      omega
    unfold vX12_go_25
    rw [ki_le, hsi, h4]
    refine ⟨fun c1 => ?_, fun c1 _ v4 e4 => ?_⟩
    · have s0 : s = 0 := by omega
      subst s0
      have ej : (t, 0) = a_jump a r sp c := hj
      refine kk u ?_ g
      rw [a_on_ek, if_neg (by rw [← ej]; exact fun q => absurd q.1 (Nat.lt_irrefl 0)), ← ej]
      exact h
    · obtain ⟨s, rfl⟩ : ∃ q, s = q + 1 := ⟨s - 1, by omega⟩
      have e4' : v4 = w4 := by rw [e4, ex, ew4]
      subst e4'
      unfold vX12_at0
      dsimp only
      rw [← ew, ki_toN hw, e33, jam0, er, ← ew5]
      intro _
      refine ⟨fun _ _ => ?_, fun q => absurd rfl q⟩
      rw [ki_le, e14, hw5]
      refine ⟨fun d => ?_, fun d => ?_⟩
      · have tl : t + 1 = ln_ a r := by omega
        have ej : a_jump a r (s + 1) t = (t, s + 1) := if_neg (fun q => by have := q.1; omega)
        rw [ej] at hj
        have cond : 0 < (a_jump a r sp c).2 ∧ (a_jump a r sp c).1 + 1 = ln_ a r := by
          rw [← hj]
          exact ⟨Nat.succ_pos s, tl⟩
        have ek := a_mv_ek (x := x) (t := t) (by omega : r < 10) (by omega : c < 12) (by omega) ⟨n4, n5⟩
        have eg := a_on_ek (a := a) (r := r) (c := c) (sp := sp) (x := x)
        rw [if_pos cond] at eg
        have e1 : (a_jump a r sp c).1 = t := by rw [← hj]
        rw [e1] at eg
        have nx := nin t ht
        unfold vX12_go_98
        refine vr_leave h hx hri (by omega) (t := t) (by omega) S1 S2 (by rw [a_mv_38 x38]; exact x38) (by rw [a_mv_39 x39']; exact x39) m40 (by rw [k 13 (by decide) (by decide) (by decide)]; exact ⟨n4, n5⟩) (fun q hq => by rw [k 15 (by decide) (by decide) (by decide)]; exact (A1 q (by omega)).2.2.1.2) (by rw [k 22 (by decide) (by decide) (by decide), k 28 (by decide) (by decide) (by decide)]; exact hroom) (fun e0 => ?_) (fun e0 v hv gv => ?_) (fun e0 v hv gv => ?_) (fun e0 v hv gv => ?_)
        · rw [ek] at e0
          refine kk u ?_ g
          rw [eg, e0]
          exact h
        · rw [ek] at e0
          rw [a_mv_heap (by omega) (by omega) (by omega) x38 x39' nx] at hv
          refine kk v ?_ (rg_trans g gv)
          rw [eg, e0]
          exact hv
        · rw [ek] at e0
          rw [a_mv_sea x38 x39' nx] at hv
          refine kk v ?_ (rg_trans g gv)
          rw [eg, e0]
          exact hv
        · rw [ek] at e0
          have nm : ¬ a.1 13 r = -1 := by
            intro q
            have e0 := e0
            unfold a_ek at e0
            split at e0
            · split at e0 <;> exact absurd e0 (by decide)
            · split at e0
              · exact absurd e0 (by decide)
              · first
                  | exact absurd e0 (by decide)
                  | (rw [if_pos q] at e0; exact absurd e0 (by decide))
          rw [ki_eq, ki_zm] at nm
          have hq : (a.1 13 r).toNatClampNeg < r := by rw [ki_nat]; omega
          rw [k 13 (by decide) (by decide) (by decide), a_mv_take hq (by omega) (by omega) x38 x39' nx] at hv
          refine kk v ?_ (rg_trans g gv)
          rw [eg, e0]
          exact hv
      · have tl : t + 1 < ln_ a r := by omega
        have eo : a_open (a_mv a x r c t) r (t + 1) = a_open a r (t + 1) := by
          unfold a_open
          rw [show (a_mv a x r c t).2 (12 * r + (t + 1)) = a.2 (12 * r + (t + 1)) by rw [a_mv_row]; split; rfl; rw [if_neg (by omega), if_neg (by omega)], k 15 (by decide) (by decide) (by decide), k 33 (by decide) (by decide) (by decide)]
        refine vr_isOpen h hri hw5 (by omega) (by omega) (fun o => ⟨fun _ => ?_, fun q => absurd q (by decide)⟩) (fun o => ⟨fun q => absurd rfl q, fun _ => ?_⟩)
        · rw [eo] at o
          have ho := (a_openT.1 o).1
          refine vr_lift h hx (by rw [a_mv_39 x39']; exact x39) m40 (by omega) (by omega) S1 (fun u1 h1 l1 => ?_)
          have S3 : ∀ q, q < 120 → ((a_drop (a_mv a x r c t) x (12 * r + t)).2 q).length ≤ 20 := by
            intro q hq
            show (if q = 12 * r + t then _ else (a_mv a x r c t).2 q : List Nat).length ≤ 20
            split
            · have := List.length_filter_le (fun z => decide (¬ z = x)) ((a_mv a x r c t).2 (12 * r + t))
              have := S1 (12 * r + t) (by omega)
              omega
            · exact S1 q hq
          have rowt : (a_drop (a_mv a x r c t) x (12 * r + t)).2 (12 * r + (t + 1)) = a.2 (12 * r + (t + 1)) := by
            show (if 12 * r + (t + 1) = 12 * r + t then _ else (a_mv a x r c t).2 (12 * r + (t + 1))) = _
            rw [if_neg (by omega), a_mv_row]
            split
            · rfl
            · rw [if_neg (by omega), if_neg (by omega)]
          refine vr_lay h1 hx hri hw5 (by omega) (by omega) S3 (by rw [rowt]; omega) (fun u2 h2 g1 g2 => ?_)
          rw [a_mv_step hct x38 x39' (nin t ht)] at h2
          intro v16 e16
          have ej : a_jump a r (s + 1) t = a_jump a r s (t + 1) := if_pos ⟨tl, o⟩
          refine ih s (t + 1) v16 u2 ?_ (by omega) (by omega) tl (.inr o) (by rw [← ej]; exact hj) h2 (rg_lay (rg_rl g l1) g1 g2)
          rw [e16, ki_add (by rw [h4, ki_z1]; omega) (by rw [h4, ki_z1]; omega), h4, ki_z1]
          omega
        · rw [eo] at o
          have ej : a_jump a r (s + 1) t = (t, s + 1) := if_neg (fun q => absurd q.2 (b_no o))
          rw [ej] at hj
          refine kk u ?_ g
          rw [a_on_ek, if_neg (by rw [← hj]; intro q; have := q.2; omega), ← hj]
          exact h
end
section
/-! the reference: all logs go -/
theorem a_speedM {a : ra_T} {r : Nat} : (if a.1 18 r / 100 < 6 then a.1 18 r / 100 else 6) = a_speed a r := by
  have z6 : (6 : Int32).toInt = 6 := by decide
  unfold a_speed
  generalize a.1 18 r / 100 = y
  by_cases h : y < 6
  · rw [if_pos h, if_neg (by rw [ki_lt] at h ⊢; omega)]
  · rw [if_neg h]
    by_cases k : 6 < y
    · rw [if_pos k]
    · rw [if_neg k, ki_eq]
      rw [ki_lt] at h k
      omega
def a_goE (a : ra_T) (r c x : Nat) : ra_T := if a_speed a r ≤ 0 ∨ ¬ a.1 33 (12 * r + c) = 0 then a else a_go a r c (a_speed a r).toNatClampNeg x
def a_gosE (r c : Nat) : List Nat → ra_T → ra_T
  | [], a => a
  | x :: L, a => a_gosE r c L (a_goE a r c x)
theorem qs_speed {a b : ra_T} (h : qs_ a b) (r : Nat) : a_speed b r = a_speed a r := by
  unfold a_speed
  rw [h 18 (by decide) (by decide) (by decide)]
theorem a_gosE_no {r c : Nat} : ∀ (L : List Nat) (a : ra_T), (a_speed a r ≤ 0 ∨ ¬ a.1 33 (12 * r + c) = 0) → a_gosE r c L a = a := by
  intro L
  induction L with
  | nil => intro a _; rfl
  | cons x L ih =>
    intro a h
    show a_gosE r c L (a_goE a r c x) = a
    rw [show a_goE a r c x = a from if_pos h]
    exact ih a h
theorem a_gosE_yes {r c : Nat} : ∀ (L : List Nat) (a : ra_T), ¬ (a_speed a r ≤ 0 ∨ ¬ a.1 33 (12 * r + c) = 0) → a_gosE r c L a = a_logs r c (a_speed a r).toNatClampNeg L a := by
  intro L
  induction L with
  | nil => intro a _; rfl
  | cons x L ih =>
    intro a h
    have k := qs_go (a := a) (r := r) (c := c) (sp := (a_speed a r).toNatClampNeg) (x := x)
    have e := qs_speed k r
    show a_gosE r c L (a_goE a r c x) = a_logs r c (a_speed a r).toNatClampNeg L (a_go a r c (a_speed a r).toNatClampNeg x)
    rw [show a_goE a r c x = a_go a r c (a_speed a r).toNatClampNeg x from if_neg h, ih _ (by rw [e, k 33 (by decide) (by decide) (by decide)]; exact h), e]
theorem a_gosE_cell {r c : Nat} {a : ra_T} : a_gosE r c (a.2 (12 * r + c)) a = if a_speed a r ≤ 0 then a else a_cell a r c (a_speed a r).toNatClampNeg := by
  by_cases h : a_speed a r ≤ 0
  · rw [if_pos h, a_gosE_no _ _ (.inl h)]
  · rw [if_neg h]
    by_cases k : a.1 33 (12 * r + c) = 0
    · rw [a_gosE_yes _ _ (fun q => q.elim h (fun z => z k))]
      exact (if_pos k).symm
    · rw [a_gosE_no _ _ (.inr k)]
      exact (if_neg k).symm
theorem rs_go {a b : ra_T} {r c sp x nr nl : Nat} (h10 : nr ≤ 10) (A : ao_ nr nl a) (S : rsz_ a) (hr : r < nr) (hc : c < ln_ a r) (hb : a_on a r c sp x = some b) (hroom : ¬ a.1 22 r = 0 → (a.1 28 r).toInt ≤ 100) : rsz_ (a_drop b x (12 * r + c)) := by
  have c12 : c < 12 := by have := (A.1 r hr).1; omega
  have fl : ∀ L : List Nat, (L.filter (fun z => decide (¬ z = x))).length ≤ L.length := fun L => List.length_filter_le _ L
  rcases a_on_cases A hr hc hb with ⟨r1, c1, g1, g2, g3, g4, g5⟩ | ⟨g1, g2, g5⟩ | g5
  · have c112 : c1 < 12 := by have := (A.1 r1 g1).1; omega
    have car := (A.1 r1 g1).2.2.1.2
    have ho := (a_openT.1 g4).1
    rw [g5]
    refine ⟨fun j hj => ?_, fun q hq => ?_⟩
    · show (if j = 12 * r + c then ((if 12 * r + c = 12 * r1 + c1 then _ else a.2 (12 * r + c)).filter (fun z => decide (¬ z = x))) else (if j = 12 * r1 + c1 then a.2 (12 * r1 + c1) ++ [x] else a.2 j) : List Nat).length ≤ 20
      rw [if_neg (Ne.symm g3)]
      split
      · have := fl (a.2 (12 * r + c))
        have := S.1 (12 * r + c) (by omega)
        omega
      · split
        · rw [List.length_append]
          show (a.2 (12 * r1 + c1)).length + 1 ≤ 20
          omega
        · exact S.1 j hj
    · show (if 120 + q = 12 * r + c then _ else (if 120 + q = 12 * r1 + c1 then _ else a.2 (120 + q)) : List Nat).length ≤ 100
      rw [if_neg (by omega), if_neg (by omega)]
      exact S.2 q hq
  · have room := hroom g1
    rw [g5]
    refine ⟨fun j hj => ?_, fun q hq => ?_⟩
    · show (if j = 12 * r + c then ((if 12 * r + c = 120 + r then _ else a.2 (12 * r + c)).filter (fun z => decide (¬ z = x))) else (if j = 120 + r then a.2 (120 + r) ++ [x] else a.2 j) : List Nat).length ≤ 20
      rw [if_neg (show ¬ 12 * r + c = 120 + r by omega)]
      split
      · have := fl (a.2 (12 * r + c))
        have := S.1 (12 * r + c) (by omega)
        omega
      · rw [if_neg (show ¬ j = 120 + r by omega)]
        exact S.1 j hj
    · show (if 120 + q = 12 * r + c then _ else (if 120 + q = 120 + r then a.2 (120 + r) ++ [x] else a.2 (120 + q)) : List Nat).length ≤ 100
      rw [if_neg (by omega)]
      split
      · rw [List.length_append]
        show (a.2 (120 + r)).length + 1 ≤ 100
        omega
      · exact S.2 q hq
  · rw [g5]
    refine ⟨fun j hj => ?_, fun q hq => ?_⟩
    · show (if j = 12 * r + c then (a.2 (12 * r + c)).filter (fun z => decide (¬ z = x)) else a.2 j : List Nat).length ≤ 20
      split
      · have := fl (a.2 (12 * r + c))
        have := S.1 (12 * r + c) (by omega)
        omega
      · exact S.1 j hj
    · show (if 120 + q = 12 * r + c then _ else a.2 (120 + q) : List Nat).length ≤ 100
      rw [if_neg (by omega)]
      exact S.2 q hq
/-- all that a move asks of the abstract river -/
def aq_ (nr nl : Nat) (a : ra_T) : Prop := ao_ nr nl a ∧ rsz_ a ∧ ∀ r, r < nr → ¬ a.1 22 r = 0 → (a.1 28 r).toInt ≤ 100
theorem aq_goE {a : ra_T} {r c x nr nl : Nat} (h10 : nr ≤ 10) (A : aq_ nr nl a) (hr : r < nr) (hc : c < ln_ a r) (hx : x ∈ a.2 (12 * r + c)) : aq_ nr nl (a_goE a r c x) ∧ qs_ a (a_goE a r c x) ∧ ∀ y, y ∈ a.2 (12 * r + c) → ¬ y = x → y ∈ (a_goE a r c x).2 (12 * r + c) := by
  unfold a_goE
  split
  · exact ⟨A, qs_refl, fun y hy _ => hy⟩
  · refine ⟨?_, qs_go, ?_⟩
    · have k := qs_go (a := a) (r := r) (c := c) (sp := (a_speed a r).toNatClampNeg) (x := x)
      have hroom : ∀ q, q < nr → ¬ (a_go a r c (a_speed a r).toNatClampNeg x).1 22 q = 0 → ((a_go a r c (a_speed a r).toNatClampNeg x).1 28 q).toInt ≤ 100 := by
        intro q hq
        rw [k 22 (by decide) (by decide) (by decide), k 28 (by decide) (by decide) (by decide)]
        exact A.2.2 q hq
      refine ⟨?_, ?_, hroom⟩
      · unfold a_go
        split
        · next b e => exact (ao_go h10 A.1 hr hc hx e A.2.2).2
        · exact A.1
      · unfold a_go
        split
        · next b e => exact rs_go h10 A.1 A.2.1 hr hc e (A.2.2 r hr)
        · exact A.2.1
    · intro y hy hyx
      unfold a_go
      split
      · next b e =>
        show y ∈ (if 12 * r + c = 12 * r + c then (b.2 (12 * r + c)).filter (fun z => decide (¬ z = x)) else _)
        rw [if_pos rfl, (ao_go h10 A.1 hr hc hx e A.2.2).1, List.mem_filter]
        exact ⟨hy, decide_eq_true hyx⟩
      · exact hy
theorem vr_go {a : ra_T} {x r c nr nl : Nat} {xi : Int32} {Q : km_S → Prop} {μ : km_S} (h10 : nr ≤ 10) (A : aq_ nr nl a) (hr : r < nr) (hc : c < ln_ a r) (hxm : x ∈ a.2 (12 * r + c)) (hx : xi.toInt = (x : Int)) (h : rA_ a μ) (kk : ∀ u, rA_ (a_goE a r c x) u → rg_ μ u → Q u) : vX12_go xi μ Q := by
  obtain ⟨x38, x39, x40⟩ := (A.1.2.2.2.1 r c hr hc).2 x hxm
  have ex : xi.toNatClampNeg = x := ki_toN hx
  unfold vX12_go
  rw [ex, h.1 39 (by decide), h.1 18 (by decide)]
  intro _ v18 e18
  have h18 : v18.toInt = (r : Int) := by rw [e18]; exact x39
  have er : v18.toNatClampNeg = r := ki_toN h18
  rw [er, a_speedM]
  rintro _ v20 e20 j
  have s6 := a_speed6 a r
  by_cases s0 : a_speed a r ≤ 0
  · rw [show a_goE a r c x = a from if_pos (.inl s0)] at kk
    cases j with
    | zero => exact trivial
    | succ j =>
      unfold vX12_go_25
      exact ⟨fun _ => kk μ h rg_refl, fun q => absurd (by rw [e20]; exact s0) q⟩
  · by_cases jm : a.1 33 (12 * r + c) = 0
    · rw [show a_goE a r c x = a_go a r c (a_speed a r).toNatClampNeg x from if_neg (fun q => q.elim s0 (fun z => z jm))] at kk
      have s1 := s0
      rw [ki_le, ki_z0] at s1
      refine vr_go25 h10 A.1 A.2.1 hr hc hxm hx h18 (sp := (a_speed a r).toNatClampNeg) (by rw [e20, ki_nat]; omega) (by rw [ki_nat]; omega) (A.2.2 r hr) jm kk j (a_speed a r).toNatClampNeg c 0 μ ?_ (Nat.le_refl _) (Nat.le_refl _) hc (.inl rfl) rfl (by rw [a_mv_c]; exact h) rg_refl
      rw [ki_z0]
      omega
    · rw [show a_goE a r c x = a from if_pos (.inr jm)] at kk
      have c12 : c < 12 := by have := (A.1.1 r hr).1; omega
      have z12 : (12 : Int32).toInt = ((12 : Nat) : Int) := by decide
      cases j with
      | zero => exact trivial
      | succ j =>
        unfold vX12_go_25 vX12_at0
        dsimp only
        refine ⟨fun _ => kk μ h rg_refl, fun _ _ v4 e4 => ?_⟩
        have h4 : v4.toInt = (c : Int) := by
          rw [e4, ex, h.1 40 (by decide)]
          exact x40
        have ek : (12 * v18 + v4).toNatClampNeg = 12 * r + c := ki_toN (ki_addN (ki_mulN z12 h18 (by omega)) h4 (by omega))
        rw [ek, h.1 33 (by decide)]
        intro _
        exact ⟨fun q => absurd q jm, fun _ => kk μ h rg_refl⟩
/-- what moving all leaves of the reference -/
def rh_ (μ u : km_S) : Prop := (∀ j, j ≠ 57 → j ≠ 68 → km_i u j = km_i μ j) ∧ ∀ f, f ∉ [29, 30, 31, 32, 38, 39, 40, 57, 68, 69] → km_a u f = km_a μ f
theorem rh_refl {μ : km_S} : rh_ μ μ := ⟨fun _ _ _ => rfl, fun _ _ => rfl⟩
theorem rh_trans {a b c : km_S} (h : rh_ a b) (k : rh_ b c) : rh_ a c := ⟨fun j h1 h2 => (k.1 j h1 h2).trans (h.1 j h1 h2), fun f hf => (k.2 f hf).trans (h.2 f hf)⟩
theorem rh_rg {μ u : km_S} (h : rg_ μ u) : rh_ μ u := by
  refine ⟨h.1, fun f hf => h.2 f (fun q => hf ?_)⟩
  simp at q ⊢
  omega
theorem rA_69 {a : ra_T} {μ : km_S} {i : Nat} {v : Int32} (h : rA_ a μ) : rA_ a (km_sa μ 69 i v) := by
  refine ⟨fun f hf => ?_, h.2.1, h.2.2.1, h.2.2.2⟩
  rw [show km_a (km_sa μ 69 i v) f = km_a μ f from if_neg (by intro e; rw [e] at hf; exact absurd hf (by decide))]
  exact h.1 f hf
theorem vr_copy {a : ra_T} {μ : km_S} {k : Nat} {r0 c0 ki ni : Int32} {K : Int32 → Int32 → Int32 → km_S → Prop} {Q : km_S → Prop} (hk : ki.toInt = (k : Int)) (k120 : k < 120) (hn : ni.toInt = ((a.2 k).length : Int)) (h20 : (a.2 k).length ≤ 20) (kk : ∀ u, rA_ a u → rh_ μ u → (∀ (i y : Nat), (a.2 k)[i]? = some y → (km_a u 69 i).toInt = (y : Int)) → K r0 c0 ni u) : ∀ (j p : Nat) (l5 : Int32) (u : km_S), l5.toInt = (p : Int) → p ≤ (a.2 k).length → rA_ a u → rh_ μ u → (∀ (i y : Nat), i < p → (a.2 k)[i]? = some y → (km_a u 69 i).toInt = (y : Int)) → vX12_move_40 K Q j r0 c0 ki ni l5 u := by
  have z20 : (20 : Int32).toInt = ((20 : Nat) : Int) := by decide
  obtain ⟨w, ew, hw⟩ : ∃ w, w = 20 * ki ∧ w.toInt = ((20 * k : Nat) : Int) := ⟨_, rfl, ki_mulN z20 hk (by omega)⟩
  intro j
  induction j with
  | zero => intro _ _ _ _ _ _ _ _; exact trivial
  | succ j ih =>
    intro p l5 u h5 hp h g h69
    unfold vX12_move_40
    rw [ki_le, hn, h5, ← ew]
    refine ⟨fun c => kk u h g (fun i y hy => h69 i y ?_ hy), fun c _ _ => ?_⟩
    · have := (List.getElem?_eq_some_iff.1 hy).1
      omega
    · have e1 : (w + l5).toNatClampNeg = 20 * k + p := ki_toN (ki_addN hw h5 (by omega))
      have e2 : l5.toNatClampNeg = p := ki_toN h5
      rw [e1, e2]
      rintro μ11 rfl v12 e12
      obtain ⟨b1, b2⟩ := h.2.1 k k120
      refine ih (p + 1) v12 _ ?_ (by omega) (rA_69 h) (rh_trans g ⟨fun _ _ _ => rfl, fun f hf => if_neg (by intro e; exact hf (by rw [e]; decide))⟩) (fun i y hi hy => ?_)
      · rw [e12]
        exact ki_addN h5 ki_z1 (by omega)
      · show (upd (u.2.1 69) p (km_a u 32 (20 * k + p)) i).toInt = _
        by_cases e : i = p
        · rw [e, w_updS]
          rw [e] at hy
          exact b2 p y hy
        · rw [w_updN e]
          exact h69 i y (by omega) hy
theorem vr_gos {r c nr nl : Nat} {L : List Nat} {r0 c0 ni : Int32} {K : Int32 → Int32 → km_S → Prop} {Q : km_S → Prop} {μ : km_S} (h10 : nr ≤ 10) (hr : r < nr) (hL : L.Nodup) (hn : ni.toInt = (L.length : Int)) (h20 : L.length ≤ 20) : ∀ (j : Nat) (R P : List Nat) (a : ra_T) (l5 : Int32) (u : km_S), L = P ++ R → l5.toInt = (P.length : Int) → aq_ nr nl a → c < ln_ a r → (∀ y ∈ R, y ∈ a.2 (12 * r + c)) → rA_ a u → rh_ μ u → (∀ (i y : Nat), L[i]? = some y → (km_a u 69 i).toInt = (y : Int)) → (∀ v, aq_ nr nl (a_gosE r c R a) → rA_ (a_gosE r c R a) v → rh_ μ v → K r0 c0 v) → vX12_move_75 K Q j r0 c0 ni l5 u := by
  intro j
  induction j with
  | zero => intro _ _ _ _ _ _ _ _ _ _ _ _ _ _; exact trivial
  | succ j ih =>
    intro R P a l5 u hLP h5 A hc hR h g h69 kk
    have hlen : L.length = P.length + R.length := by rw [hLP, List.length_append]
    unfold vX12_move_75
    rw [ki_le, hn, h5]
    cases R with
    | nil => exact ⟨fun _ => kk u A h g, fun q => absurd (by rw [hlen]; simp) q⟩
    | cons x R =>
      rw [List.length_cons] at hlen
      refine ⟨fun q => absurd q (by omega), fun _ _ => ?_⟩
      rw [ki_toN h5]
      have hx : (km_a u 69 P.length).toInt = (x : Int) := h69 P.length x (by rw [hLP, List.getElem?_append_right (Nat.le_refl _), Nat.sub_self]; rfl)
      have hxm := hR x (List.mem_cons_self)
      refine vr_go h10 A hr hc hxm hx h (fun v hv gv => ?_)
      obtain ⟨A1, k1, m1⟩ := aq_goE h10 A hr hc hxm
      intro v6 e6
      have nd : ¬ x ∈ R := by
        rw [hLP, List.nodup_append] at hL
        exact (List.nodup_cons.1 hL.2.1).1
      refine ih R (P ++ [x]) (a_goE a r c x) v6 v (by rw [hLP, List.append_assoc]; rfl) ?_ A1 (by rw [qs_ln k1]; exact hc) (fun y hy => m1 y (hR y (List.mem_cons_of_mem x hy)) (fun e => nd (by rw [← e]; exact hy))) hv (rh_trans g (rh_rg gv)) (fun i y hy => ?_) kk
      · rw [e6, List.length_append]
        show _ = ((P.length + 1 : Nat) : Int)
        exact ki_addN h5 ki_z1 (by omega)
      · rw [gv.2 69 (by decide)]
        exact h69 i y hy
theorem vr_cells {r nr nl : Nat} {ri : Int32} {K : Int32 → km_S → Prop} {Q : km_S → Prop} {μ : km_S} (h10 : nr ≤ 10) (hr : r < nr) (hri : ri.toInt = (r : Int)) : ∀ (j c : Nat) (a : ra_T) (l2 : Int32) (u : km_S), l2.toInt = (c : Int) - 1 → c ≤ ln_ a r → aq_ nr nl a → rA_ a u → rh_ μ u → (∀ v, aq_ nr nl (if a_speed a r ≤ 0 then a else a_cells r (a_speed a r).toNatClampNeg c a) → rA_ (if a_speed a r ≤ 0 then a else a_cells r (a_speed a r).toNatClampNeg c a) v → rh_ μ v → K ri v) → vX12_move_19 K Q j ri l2 u := by
  have z12 : (12 : Int32).toInt = ((12 : Nat) : Int) := by decide
  intro j
  induction j with
  | zero => intro _ _ _ _ _ _ _ _ _ _; exact trivial
  | succ j ih =>
    intro c a l2 u h2 hc A h g kk
    unfold vX12_move_19 vX12_at0
    dsimp only
    rw [ki_lt, ki_z0, h2]
    cases c with
    | zero =>
      have e0 : (if a_speed a r ≤ 0 then a else a_cells r (a_speed a r).toNatClampNeg 0 a) = a := by
        split
        · rfl
        · rfl
      rw [e0] at kk
      exact ⟨fun _ => kk u A h g, fun q => absurd (by omega) q⟩
    | succ c =>
      have l12 := (A.1.1 r hr).1
      refine ⟨fun q => absurd q (by omega), fun _ _ => ?_⟩
      have h2' : l2.toInt = (c : Int) := by omega
      obtain ⟨w, ew, hw⟩ : ∃ w, w = 12 * ri + l2 ∧ w.toInt = ((12 * r + c : Nat) : Int) := ⟨_, rfl, ki_addN (ki_mulN z12 hri (by omega)) h2' (by omega)⟩
      rw [← ew, ki_toN hw]
      rintro v17 rfl j2
      obtain ⟨b1, b2⟩ := h.2.1 (12 * r + c) (by omega)
      refine vr_copy hw (by omega) b1 (A.2.1.1 _ (by omega)) (fun u1 h1 g1 h69 => ?_) j2 0 0 u (by decide) (Nat.zero_le _) h rh_refl (fun i y hi _ => absurd hi (Nat.not_lt_zero i))
      unfold vX12_move_72
      intro j3
      refine vr_gos h10 hr (A.1.2.2.1 _) b1 (A.2.1.1 _ (by omega)) j3 (a.2 (12 * r + c)) [] a 0 u1 rfl rfl A (by omega) (fun y hy => hy) h1 (rh_trans g g1) h69 (fun v Av hv gv => ?_)
      unfold vX12_move_99
      intro v2 e2
      rw [a_gosE_cell] at Av hv
      have kq : qs_ a (if a_speed a r ≤ 0 then a else a_cell a r c (a_speed a r).toNatClampNeg) := by
        split
        · exact qs_refl
        · exact qs_cell
      refine ih c _ v2 v ?_ (by rw [qs_ln kq]; omega) Av hv gv (fun v' Av' hv' gv' => kk v' ?_ ?_ gv')
      · rw [e2, ki_add (by rw [h2', ki_zm]; omega) (by rw [h2', ki_zm]; omega), h2', ki_zm]
        omega
      · rw [qs_speed kq] at Av'
        by_cases s0 : a_speed a r ≤ 0
        · rw [if_pos s0] at Av' ⊢
          rw [if_pos s0] at Av'
          exact Av'
        · rw [if_neg s0] at Av' ⊢
          rw [if_neg s0] at Av'
          exact Av'
      · rw [qs_speed kq] at hv'
        by_cases s0 : a_speed a r ≤ 0
        · rw [if_pos s0] at hv' ⊢
          rw [if_pos s0] at hv'
          exact hv'
        · rw [if_neg s0] at hv' ⊢
          rw [if_neg s0] at hv'
          exact hv'
theorem vr_move {nr nl : Nat} {a : ra_T} {Q : km_S → Prop} {μ : km_S} (h10 : nr ≤ 10) (hn : (km_i μ 3).toInt = (nr : Int)) (A : aq_ nr nl a) (h : rA_ a μ) (kk : ∀ u, aq_ nr nl (a_move nr 0 a) → rA_ (a_move nr 0 a) u → rh_ μ u → Q u) : vX12_move μ Q := by
  have loop : ∀ (j k r : Nat) (a : ra_T) (i : Int32) (u : km_S), i.toInt = (r : Int) → r + k = nr → aq_ nr nl a → rA_ a u → rh_ μ u → (∀ v, aq_ nr nl (a_move k r a) → rA_ (a_move k r a) v → rh_ μ v → Q v) → vX12_move_2 Q j i u := by
    intro j
    induction j with
    | zero => intro _ _ _ _ _ _ _ _ _ _ _; exact trivial
    | succ j ih =>
      intro k r a i u hi hk A h g kk
      unfold vX12_move_2
      have e3 : km_i u 3 = km_i μ 3 := g.1 3 (by decide) (by decide)
      rw [ki_le, e3, hn, hi]
      refine ⟨fun q => ?_, fun q _ => ?_⟩
      · have : k = 0 := by omega
        subst this
        exact kk u A h g
      · obtain ⟨k, rfl⟩ : ∃ q, k = q + 1 := ⟨k - 1, by omega⟩
        have hr : r < nr := by omega
        have n2 := (A.1.1 r hr).2.1
        rw [ki_toN hi]
        intro v21 e21 j2
        have e14 : (km_a u 14 r).toInt = (ln_ a r : Int) := by
          rw [h.1 14 (by decide)]
          show (a.1 14 r).toInt = ((a.1 14 r).toNatClampNeg : Int)
          have : 1 ≤ (a.1 14 r).toNatClampNeg := n2
          rw [ki_nat] at this ⊢
          omega
        have l12 := (A.1.1 r hr).1
        have h21 : v21.toInt = (ln_ a r : Int) - 1 := by
          rw [e21, ki_sub (by rw [e14, ki_z1]; omega) (by rw [e14, ki_z1]; omega), e14, ki_z1]
        refine vr_cells h10 hr hi j2 (ln_ a r) a v21 u h21 (Nat.le_refl _) A h g (fun v Av hv gv => ?_)
        unfold vX12_move_105
        intro v1 e1
        refine ih k (r + 1) (a_reach a r) v1 v ?_ (by omega) Av hv gv kk
        rw [e1]
        exact ki_addN hi ki_z1 (by omega)
  unfold vX12_move
  intro j
  exact loop j nr 0 a 0 μ (by decide) (by omega) A h rh_refl kk
end
section
/-! jams: what is set by a loop -/
noncomputable def kn_f (P : Nat → Prop) (v : Int32) (old : Nat → Int32) : Nat → Int32 := fun k => @ite Int32 (P k) (Classical.propDecidable (P k)) v (old k)
theorem kn_y {P : Nat → Prop} {v : Int32} {old : Nat → Int32} {k : Nat} (h : P k) : kn_f P v old k = v := by
  unfold kn_f
  exact if_pos h
theorem kn_n {P : Nat → Prop} {v : Int32} {old : Nat → Int32} {k : Nat} (h : ¬ P k) : kn_f P v old k = old k := by
  unfold kn_f
  exact if_neg h
theorem kn_c {P P' : Nat → Prop} {v : Int32} {old : Nat → Int32} (h : ∀ k, P k ↔ P' k) : kn_f P v old = kn_f P' v old := by
  have : P = P' := funext fun k => propext (h k)
  rw [this]
theorem kn_0 {v : Int32} {old : Nat → Int32} {P : Nat → Prop} (h : ∀ k, ¬ P k) : kn_f P v old = old := funext fun k => kn_n (h k)
theorem kn_u {P : Nat → Prop} {v : Int32} {old : Nat → Int32} {i : Nat} : upd (kn_f P v old) i v = kn_f (fun k => P k ∨ k = i) v old := by
  funext k
  by_cases c : k = i
  · rw [c, w_updS, kn_y (.inr rfl)]
  · rw [w_updN c]
    by_cases d : P k
    · rw [kn_y d, kn_y (.inl d)]
    · rw [kn_n d, kn_n (fun q => q.elim d c)]
/-- a whole field is another -/
def ff_ (a : ra_T) (f : Nat) (F : Nat → Int32) : ra_T := (fun g => if g = f then F else a.1 g, a.2)
theorem ff_s {a : ra_T} {f : Nat} {F : Nat → Int32} : (ff_ a f F).1 f = F := if_pos rfl
theorem ff_n {a : ra_T} {f g : Nat} {F : Nat → Int32} (h : g ≠ f) : (ff_ a f F).1 g = a.1 g := if_neg h
theorem ff_id {a : ra_T} {f : Nat} {F : Nat → Int32} (h : F = a.1 f) : ff_ a f F = a := by
  refine Prod.ext (funext fun g => ?_) rfl
  show (if g = f then F else a.1 g) = a.1 g
  by_cases c : g = f
  · rw [if_pos c, h, c]
  · rw [if_neg c]
theorem ff_fs {a : ra_T} {f i : Nat} {F : Nat → Int32} {v : Int32} : fs_ (ff_ a f F) f i v = ff_ a f (upd F i v) := by
  refine Prod.ext (funext fun g => ?_) rfl
  show (if g = f then upd (if f = f then F else a.1 f) i v else (if g = f then F else a.1 g)) = (if g = f then upd F i v else a.1 g)
  rw [if_pos rfl]
  by_cases c : g = f
  · rw [if_pos c, if_pos c]
  · rw [if_neg c, if_neg c, if_neg c]
/-- the cells ahead of a place -/
def bf_ (r c r' c' : Nat) : Prop := r' < r ∨ (r' = r ∧ c' < c)
def cp2_ (nr : Nat) (a : ra_T) (C : Nat → Nat → Prop) (r c k : Nat) : Prop := ∃ r' c', r' < nr ∧ c' < ln_ a r' ∧ k = 12 * r' + c' ∧ C r' c' ∧ bf_ r c r' c'
theorem cp2_step {nr : Nat} {a : ra_T} {C : Nat → Nat → Prop} {r c : Nat} (hr : r < nr) (hc : c < ln_ a r) (k : Nat) : cp2_ nr a C r (c + 1) k ↔ cp2_ nr a C r c k ∨ (k = 12 * r + c ∧ C r c) := by
  constructor
  · rintro ⟨r', c', h1, h2, h3, h4, h5⟩
    rcases h5 with q | ⟨q1, q2⟩
    · exact .inl ⟨r', c', h1, h2, h3, h4, .inl q⟩
    · by_cases e : c' = c
      · rw [q1, e] at h3 h4
        exact .inr ⟨h3, h4⟩
      · exact .inl ⟨r', c', h1, h2, h3, h4, .inr ⟨q1, by omega⟩⟩
  · rintro (⟨r', c', h1, h2, h3, h4, h5⟩ | ⟨h1, h2⟩)
    · exact ⟨r', c', h1, h2, h3, h4, h5.elim .inl (fun q => .inr ⟨q.1, by omega⟩)⟩
    · exact ⟨r, c, hr, hc, h1, h2, .inr ⟨rfl, by omega⟩⟩
theorem cp2_y {nr : Nat} {a : ra_T} {C : Nat → Nat → Prop} {r c : Nat} (hr : r < nr) (hc : c < ln_ a r) (yC : C r c) (k : Nat) : cp2_ nr a C r (c + 1) k ↔ (cp2_ nr a C r c k ∨ k = 12 * r + c) := by
  rw [cp2_step hr hc]
  exact ⟨fun z => z.elim .inl (fun y => .inr y.1), fun z => z.elim .inl (fun y => .inr ⟨y, yC⟩)⟩
theorem cp2_no {nr : Nat} {a : ra_T} {C : Nat → Nat → Prop} {r c : Nat} (hr : r < nr) (hc : c < ln_ a r) (nC : ¬ C r c) (k : Nat) : cp2_ nr a C r (c + 1) k ↔ cp2_ nr a C r c k := by
  rw [cp2_step hr hc]
  exact ⟨fun z => z.elim id (fun y => absurd y.2 nC), .inl⟩
theorem cp2_next {nr : Nat} {a : ra_T} {C : Nat → Nat → Prop} {r c : Nat} (hc : ln_ a r ≤ c) (k : Nat) : cp2_ nr a C r c k ↔ cp2_ nr a C (r + 1) 0 k := by
  constructor
  · rintro ⟨r', c', h1, h2, h3, h4, h5⟩
    exact ⟨r', c', h1, h2, h3, h4, .inl (by rcases h5 with q | q <;> omega)⟩
  · rintro ⟨r', c', h1, h2, h3, h4, h5⟩
    refine ⟨r', c', h1, h2, h3, h4, ?_⟩
    rcases h5 with q | q
    · by_cases e : r' = r
      · exact .inr ⟨e, by rw [e] at h2; omega⟩
      · exact .inl (by omega)
    · omega
theorem cp2_skip {nr : Nat} {a : ra_T} {C : Nat → Nat → Prop} {r : Nat} (hC : ∀ c, ¬ C r c) (k : Nat) : cp2_ nr a C r 0 k ↔ cp2_ nr a C (r + 1) 0 k := by
  constructor
  · rintro ⟨r', c', h1, h2, h3, h4, h5⟩
    exact ⟨r', c', h1, h2, h3, h4, .inl (by rcases h5 with q | q <;> omega)⟩
  · rintro ⟨r', c', h1, h2, h3, h4, h5⟩
    refine ⟨r', c', h1, h2, h3, h4, .inl ?_⟩
    rcases h5 with q | q
    · by_cases e : r' = r
      · rw [e] at h4
        exact absurd h4 (hC c')
      · omega
    · omega
theorem cp2_0 {nr : Nat} {a : ra_T} {C : Nat → Nat → Prop} (k : Nat) : ¬ cp2_ nr a C 0 0 k := by
  rintro ⟨r', c', _, _, _, _, h5⟩
  rcases h5 with q | q <;> omega
/-- (c) each cell that holds CARRY, in a reach whose flow is below JAM -/
def jC_ (a : ra_T) (r c : Nat) : Prop := (a.1 15 r).toInt ≤ ((a.2 (12 * r + c)).length : Int) ∧ (a.1 18 r).toInt < (a.1 16 r).toInt
noncomputable def a_jam (nr : Nat) (a : ra_T) : ra_T := ff_ a 33 (kn_f (cp2_ nr a (jC_ a) nr 0) 1 (a.1 33))
theorem vr_jams12 {nr nl r : Nat} {a : ra_T} {ri : Int32} {K : Int32 → km_S → Prop} {Q : km_S → Prop} (h10 : nr ≤ 10) (A : ao_ nr nl a) (hr : r < nr) (hri : ri.toInt = (r : Int)) : ∀ (j c : Nat) (l2 : Int32) (u : km_S), l2.toInt = (c : Int) → c ≤ ln_ a r → rA_ (ff_ a 33 (kn_f (cp2_ nr a (jC_ a) r c) 1 (a.1 33))) u → (∀ v, rA_ (ff_ a 33 (kn_f (cp2_ nr a (jC_ a) r (ln_ a r)) 1 (a.1 33))) v → (∀ j, km_i v j = km_i u j) → K ri v) → vX12_jams_12 K Q j ri l2 u := by
  have z12 : (12 : Int32).toInt = ((12 : Nat) : Int) := by decide
  have er : ri.toNatClampNeg = r := ki_toN hri
  obtain ⟨n1, n2, n3, _⟩ := A.1 r hr
  intro j
  induction j with
  | zero => intro _ _ _ _ _ _ _; exact trivial
  | succ j ih =>
    intro c l2 u h2 hc h kk
    have e14 : (km_a u 14 r).toInt = (ln_ a r : Int) := by
      rw [h.1 14 (by decide)]
      show (a.1 14 r).toInt = ((a.1 14 r).toNatClampNeg : Int)
      have : 1 ≤ (a.1 14 r).toNatClampNeg := n2
      rw [ki_nat] at this ⊢
      omega
    obtain ⟨w, ew, hw⟩ : ∃ w, w = 12 * ri + l2 ∧ w.toInt = ((12 * r + c : Nat) : Int) := ⟨_, rfl, ki_addN (ki_mulN z12 hri (by omega)) h2 (by omega)⟩
    have nx : ∀ v : Int32, v = l2 + 1 → v.toInt = ((c + 1 : Nat) : Int) := fun v e => by rw [e]; exact ki_addN h2 ki_z1 (by omega)
    unfold vX12_jams_12 vX12_at0
    dsimp only
    rw [er, ki_le, e14, h2, ← ew, ki_toN hw]
    intro _
    refine ⟨fun q => ?_, fun q _ _ => ?_⟩
    · have : c = ln_ a r := by omega
      subst this
      exact kk u h (fun _ => rfl)
    · have hlt : c < ln_ a r := by omega
      obtain ⟨b1, _⟩ := h.2.1 (12 * r + c) (by omega)
      have b1 : (km_a u 31 (12 * r + c)).toInt = ((a.2 (12 * r + c)).length : Int) := b1
      have e15 : km_a u 15 r = a.1 15 r := congrFun (h.1 15 (by decide)) r
      have e16 : km_a u 16 r = a.1 16 r := congrFun (h.1 16 (by decide)) r
      have e18 : km_a u 18 r = a.1 18 r := congrFun (h.1 18 (by decide)) r
      have cap := (A.2.2.2.1 r c hr hlt).1
      rw [e15, e16, e18]
      have no : ¬ jC_ a r c → vX12_jams_67 (vX12_jams_12 K Q j) Q ri l2 u := by
        intro nC
        unfold vX12_jams_67
        intro v7 e7
        refine ih (c + 1) v7 u (nx v7 e7) hlt ?_ kk
        rw [kn_c (fun k => cp2_no hr hlt nC k)]
        exact h
      rw [ki_eq, b1]
      refine ⟨fun d => no (fun z => d (by have := z.1; omega)), fun d _ _ => ?_⟩
      rw [ki_le]
      refine ⟨fun e => no (fun z => by have := z.2; omega), fun e _ => ?_⟩
      rintro μ42 rfl
      unfold vX12_jams_67
      intro v7 e7
      have yC : jC_ a r c := ⟨by omega, by omega⟩
      refine ih (c + 1) v7 _ (nx v7 e7) hlt ?_ (fun v hv gv => kk v hv (fun j => gv j))
      have h1 := rA_fs (i := 12 * r + c) (v := 1) h (f := 33) (by decide)
      rw [ff_fs, kn_u] at h1
      rw [kn_c (fun k => cp2_y hr hlt yC k)]
      exact h1
theorem vr_jam {nr nl : Nat} {a : ra_T} {K : km_S → Prop} {Q : km_S → Prop} {μ : km_S} (h10 : nr ≤ 10) (A : ao_ nr nl a) (hn : (km_i μ 3).toInt = (nr : Int)) (h : rA_ a μ) (kk : ∀ u, rA_ (a_jam nr a) u → (∀ j, km_i u j = km_i μ j) → K u) : ∀ j, vX12_jams_2 K Q j 0 μ := by
  have loop : ∀ (j r : Nat) (i : Int32) (u : km_S), i.toInt = (r : Int) → r ≤ nr → rA_ (ff_ a 33 (kn_f (cp2_ nr a (jC_ a) r 0) 1 (a.1 33))) u → (∀ j, km_i u j = km_i μ j) → vX12_jams_2 K Q j i u := by
    intro j
    induction j with
    | zero => intro _ _ _ _ _ _ _; exact trivial
    | succ j ih =>
      intro r i u hi hr hu g
      unfold vX12_jams_2
      rw [ki_le, g 3, hn, hi]
      refine ⟨fun q => ?_, fun q j2 => ?_⟩
      · have : r = nr := by omega
        subst this
        exact kk u hu g
      · have hlt : r < nr := by omega
        refine vr_jams12 h10 A hlt hi j2 0 0 u (by decide) (Nat.zero_le _) hu (fun v hv gv => ?_)
        unfold vX12_jams_73
        intro v6 e6
        refine ih (r + 1) v6 v (by rw [e6]; exact ki_addN hi ki_z1 (by omega)) hlt ?_ (fun j => (gv j).trans (g j))
        rw [← kn_c (fun k => cp2_next (Nat.le_refl _) k)]
        exact hv
  intro j
  refine loop j 0 0 μ (by decide) (Nat.zero_le _) ?_ (fun _ => rfl)
  rw [ff_id (kn_0 cp2_0)]
  exact h
end
section
/-! the class: jams -/
/-- nothing but int fields of W changed -/
def hn_ (W : List Nat) (σ τ : kx_S) : Prop := (∀ f a, f ∉ W → xi τ f a = xi σ f a) ∧ τ.1 = σ.1 ∧ τ.2.2 = σ.2.2
theorem hn_refl {W : List Nat} {σ : kx_S} : hn_ W σ σ := ⟨fun _ _ _ => rfl, rfl, rfl⟩
theorem hn_trans {W : List Nat} {a b c : kx_S} (h : hn_ W a b) (k : hn_ W b c) : hn_ W a c := ⟨fun f x hf => (k.1 f x hf).trans (h.1 f x hf), k.2.1.trans h.2.1, k.2.2.trans h.2.2⟩
theorem hn_sub {V W : List Nat} {a b : kx_S} (h : hn_ V a b) (s : ∀ f ∈ V, f ∈ W) : hn_ W a b := ⟨fun f x hf => h.1 f x (fun q => hf (s f q)), h.2⟩
theorem hn_si {W : List Nat} {σ τ : kx_S} {f x : Nat} {v : Int32} (h : hn_ W σ τ) (hf : f ∈ W) : hn_ W σ (xsi τ f x v) := by
  refine hn_trans h ⟨fun g a hg => ?_, rfl, rfl⟩
  show (if g = f then va_up (τ.2.1 f) x v else τ.2.1 g) a = τ.2.1 g a
  rw [if_neg (fun e => hg (by rw [e]; exact hf))]
theorem hn_xe {W : List Nat} {σ τ : kx_S} (h : hn_ W σ τ) (l i : Nat) : xe τ l i = xe σ l i := by
  have e1 : xr τ 17 l = xr σ 17 l := by show τ.2.2.1 17 l = σ.2.2.1 17 l; rw [h.2.2]
  unfold xe
  rw [e1]
  split
  · show τ.2.2.2.2.2.2.2.1 _ _ = σ.2.2.2.2.2.2.2.1 _ _
    rw [h.2.2]
  · rfl
theorem hn_hf {W : List Nat} {g κ : Nat → Nat} {st na : Nat} {σ τ : kx_S} (h : hn_ W σ τ) (h18 : 18 ∉ W) : hf_ W g κ st na σ τ := by
  refine ⟨⟨fun a _ => ?_, fun f a _ _ => ?_, fun a _ => ?_, ?_⟩, fun f a h1 _ _ _ => h.1 f a h1, fun l _ _ => ⟨h.1 18 l h18, fun i _ => hn_xe h l i⟩, fun a _ _ _ => ?_, fun a => .inl ?_⟩
  · show τ.1 a = σ.1 a; rw [h.2.1]
  · show τ.2.2.1 f a = σ.2.2.1 f a; rw [h.2.2]
  · show τ.2.2.2.2.1 a = σ.2.2.2.2.1 a; rw [h.2.2]
  · show τ.2.2.2.2.2.2.2.2.2 = σ.2.2.2.2.2.2.2.2.2; rw [h.2.2]
  · show τ.2.2.2.2.2.1 a = σ.2.2.2.2.2.1 a; rw [h.2.2]
  · show τ.1 a = σ.1 a; rw [h.2.1]
theorem hn_r {W : List Nat} {σ τ : kx_S} (h : hn_ W σ τ) (f a : Nat) : xr τ f a = xr σ f a := by show τ.2.2.1 f a = σ.2.2.1 f a; rw [h.2.2]
theorem hn_t {W : List Nat} {σ τ : kx_S} (h : hn_ W σ τ) (a : Nat) : xt τ a = xt σ a := by show τ.1 a = σ.1 a; rw [h.2.1]
section
variable {T : Nat → Nat → Nat} {N : Nat → Nat} {g κ : Nat → Nat} {st na nr nl m : Nat} {day : Nat → Int32} {RL : Nat → List (Bool × List Int32)} {s : sz_T} {B n : Nat} {a : ra_T}
theorem q3_hn {W : List Nat} {σ τ : kx_S} (h : q3_ T nr a σ) (F : hn_ W σ τ) (h18 : 18 ∉ W) : q3_ T nr a τ := by
  intro k hk
  obtain ⟨a1, a2, a3⟩ := h k hk
  exact ⟨by rw [hn_t F]; exact a1, by rw [F.1 18 _ h18]; exact a2, fun i x hx => by rw [hn_xe F]; exact a3 i x hx⟩
theorem q2_50 {σ : kx_S} {r c : Nat} {v : Int32} (h : q2_ T nr a σ) (hN : ∀ r c, r < nr → c < ln_ a r → N (T 3 (12 * r + c)) = 12 * r + c) (hr : r < nr) (hc : c < ln_ a r) : q2_ T nr (fs_ a 33 (12 * r + c) v) (xsi σ 50 (T 3 (12 * r + c)) v) := by
  intro r' hr' c' hc'
  have hc' : c' < ln_ a r' := hc'
  obtain ⟨b1, b2, b3, b4, b5⟩ := h r' hr' c' hc'
  refine ⟨b1, b2, b3, ?_, b5⟩
  show va_up (xi σ 50) (T 3 (12 * r + c)) v (T 3 (12 * r' + c')) = upd (a.1 33) (12 * r + c) v (12 * r' + c')
  by_cases e : 12 * r' + c' = 12 * r + c
  · rw [e, va_up_self, w_updS]
  · rw [va_up_ne _ _ (fun q => e (by rw [← hN r' c' hr' hc', q, hN r c hr hc])), w_updN e]
    exact b4
theorem q2_51 {σ : kx_S} {r c : Nat} {v : Int32} (h : q2_ T nr a σ) (hN : ∀ r c, r < nr → c < ln_ a r → N (T 3 (12 * r + c)) = 12 * r + c) (hr : r < nr) (hc : c < ln_ a r) : q2_ T nr (fs_ a 34 (12 * r + c) v) (xsi σ 51 (T 3 (12 * r + c)) v) := by
  intro r' hr' c' hc'
  have hc' : c' < ln_ a r' := hc'
  obtain ⟨b1, b2, b3, b4, b5⟩ := h r' hr' c' hc'
  refine ⟨b1, b2, b3, b4, ?_⟩
  show va_up (xi σ 51) (T 3 (12 * r + c)) v (T 3 (12 * r' + c')) = upd (a.1 34) (12 * r + c) v (12 * r' + c')
  by_cases e : 12 * r' + c' = 12 * r + c
  · rw [e, va_up_self, w_updS]
  · rw [va_up_ne _ _ (fun q => e (by rw [← hN r' c' hr' hc', q, hN r c hr hc])), w_updN e]
    exact b5
/-- the rest follows where only cells' flags were written -/
theorem qa_hn {W : List Nat} {σ τ : kx_S} (H : qa_ T N g κ st na nr nl m day RL s B n a σ) (J : yJ_ s g κ B n τ) (F : hn_ W σ τ) (hW : ∀ f ∈ W, f ∉ [18, 160, 162, 165, 169, 170, 171, 34, 35, 128, 129, 130, 131, 132, 133, 134, 135, 136, 96]) : q1_ T (g 1) nr a τ ∧ q3_ T nr a τ ∧ q4_ T (g 2) nl a τ ∧ q7_ T (g 3) m day RL st na τ ∧ qj_ (g 8) st na τ := by
  obtain ⟨J0, a0, a1, a2, a3, a4, a7, aj⟩ := H
  have h18 : 18 ∉ W := fun q => hW 18 q (by decide)
  have Fh : hf_ W g κ st na σ τ := hn_hf F h18
  have kc : ∀ r, r < nr → κ (T 21 r) = 3 := fun r hr => (a0.2.2.1 r hr).1
  refine ⟨q1_hf a1 Fh (yg1 J0).2.1 (yg1 J0).2.2 kc (fun f hf q => hW f hf ?_), q3_hn a3 F h18, q4_hf a4 Fh (yg2 J0).2.1 (fun f hf q => hW f hf ?_), q7_hf a7 Fh (yg3 J0).2.1 (yg3 J0).2.2 (fun q => hW 96 q (by decide)), qj_hf aj Fh⟩
  · simp at q ⊢; omega
  · simp at q ⊢; omega
theorem vq_jamFull {r : Nat} {Q : kx_S → Prop} {σ : kx_S} (H : qa_ T N g κ st na nr nl m day RL s B n a σ) (hr : r < nr) (hj : (a.1 18 r).toInt < (a.1 16 r).toInt) : ∀ (j c : Nat) (l1 : Int32) (τ : kx_S), l1.toInt = (c : Int) → c ≤ ln_ a r → yJ_ s g κ B n τ → hn_ [50] σ τ → q2_ T nr (ff_ a 33 (kn_f (cp2_ nr a (jC_ a) r c) 1 (a.1 33))) τ → (∀ v, yJ_ s g κ B n v → hn_ [50] σ v → q2_ T nr (ff_ a 33 (kn_f (cp2_ nr a (jC_ a) r (ln_ a r)) 1 (a.1 33))) v → Q v) → vX8_jamFullCells_2 Q j (T 10 r) l1 τ := by
  intro j
  induction j with
  | zero => intro _ _ _ _ _ _ _ _ _; exact trivial
  | succ j ih =>
    intro c l1 τ h1 hc J F h2 kk
    obtain ⟨p1, p3, p4, p7, pj⟩ := qa_hn H J F (by decide)
    obtain ⟨_, _, _, _, _, b1, b2, b3, b4, b5⟩ := p1.2 r hr
    have nx : ∀ v : Int32, v = l1 + 1 → v.toInt = ((c + 1 : Nat) : Int) := fun v e => by rw [e]; exact ki_addN h1 ki_z1 (by omega)
    unfold vX8_jamFullCells_2
    intro _ a3 e3 _
    obtain rfl := Option.some.inj (b1.symm.trans e3)
    unfold vJx4a65c_size_8abf5
    intro _
    rw [ki_le, b3, h1]
    refine ⟨fun q => ?_, fun q _ => ?_⟩
    · have : c = ln_ a r := by omega
      subst this
      exact kk τ J F h2
    · have hlt : c < ln_ a r := by omega
      intro a10 e10 _
      obtain rfl := Option.some.inj (b1.symm.trans e10)
      refine vy_get (fun _ _ => ?_)
      obtain ⟨⟨c1, c2⟩, c3, c4, c5, c6⟩ := h2 r hr c hlt
      obtain ⟨d1, d2, d3⟩ := p3 _ (vk_cell hr hlt)
      have c3 : xi τ 48 (T 3 (12 * r + c)) = a.1 15 r := c3
      rw [ki_toN h1, c1]
      intro a15 e15 _
      obtain rfl := Option.some.inj e15
      intro a18 e18 _
      obtain rfl := Option.some.inj (c4.symm.trans e18)
      intro _ _
      rw [c3, ki_lt, d2]
      refine ⟨fun d => ?_, fun d => ?_⟩
      · unfold vX8_jamFullCells_50
        intro v1 e1
        refine ih (c + 1) v1 τ (nx v1 e1) hlt J F ?_ kk
        have nC : ¬ jC_ a r c := fun z => by have := z.1; omega
        rw [kn_c (fun k => cp2_no hr hlt nC k)]
        exact h2
      · rintro σ25 rfl
        unfold vX8_jamFullCells_50
        intro v1 e1
        have yC : jC_ a r c := ⟨by omega, hj⟩
        refine ih (c + 1) v1 _ (nx v1 e1) hlt (yI_si (by decide) J) (hn_si F (by decide)) ?_ kk
        have z := q2_50 (N := N) (v := 1) h2 (fun r c h1 h2 => H.2.1.2.1 r c h1 h2) hr hlt
        rw [ff_fs, kn_u] at z
        rw [kn_c (fun k => cp2_y hr hlt yC k)]
        exact z
theorem vq_jam {Q : kx_S → Prop} {σ : kx_S} (h10 : nr ≤ 10) (H : qa_ T N g κ st na nr nl m day RL s B n a σ) (kk : ∀ τ, qa_ T N g κ st na nr nl m day RL s B n (a_jam nr a) τ → hn_ [50] σ τ → Q τ) : vX11_jamCells (g 0) σ Q := by
  have loop : ∀ (j r : Nat) (i : Int32) (τ : kx_S), i.toInt = (r : Int) → r ≤ nr → yJ_ s g κ B n τ → hn_ [50] σ τ → q2_ T nr (ff_ a 33 (kn_f (cp2_ nr a (jC_ a) r 0) 1 (a.1 33))) τ → vX11_jamCells_2 Q j (g 0) i τ := by
    intro j
    induction j with
    | zero => intro _ _ _ _ _ _ _ _; exact trivial
    | succ j ih =>
      intro r i τ hi hr J F h2
      obtain ⟨p1, p3, p4, p7, pj⟩ := qa_hn H J F (by decide)
      unfold vX11_jamCells_2
      intro _ a3 e3 _
      obtain rfl := Option.some.inj ((yg1 J).1.symm.trans e3)
      unfold vJx4a65c_size_8abf5
      intro _
      rw [ki_le, p1.1, hi]
      refine ⟨fun q => ?_, fun q _ => ?_⟩
      · have : r = nr := by omega
        subst this
        exact kk τ ⟨J, H.2.1, p1, h2, p3, p4, p7, pj⟩ F
      · have hlt : r < nr := by omega
        intro a10 e10 _
        obtain rfl := Option.some.inj ((yg1 J).1.symm.trans e10)
        refine vy_get (fun _ _ => ?_)
        obtain ⟨⟨b0, b00⟩, _, ⟨b162, _, b169, _⟩, _⟩ := p1.2 r hlt
        rw [ki_toN hi, b0]
        intro a15 e15 _
        obtain rfl := Option.some.inj e15
        rw [b162, b169, ki_le]
        have nx : ∀ v : Int32, v = i + 1 → v.toInt = ((r + 1 : Nat) : Int) := fun v e => by rw [e]; exact ki_addN hi ki_z1 (by omega)
        refine ⟨fun d => ?_, fun d => ?_⟩
        · unfold vX11_jamCells_44
          intro v1 e1
          refine ih (r + 1) v1 τ (nx v1 e1) hlt J F ?_
          rw [← kn_c (fun k => cp2_skip (fun c z => by have := z.2; omega) k)]
          exact h2
        · unfold vX8_jamFullCells
          intro j2
          refine vq_jamFull H hlt (by omega) j2 0 0 τ (by decide) (Nat.zero_le _) J F h2 (fun v Jv Fv hv => ?_)
          unfold vX11_jamCells_44
          intro v1 e1
          refine ih (r + 1) v1 v (nx v1 e1) hlt Jv Fv ?_
          rw [← kn_c (fun k => cp2_next (Nat.le_refl _) k)]
          exact hv
  unfold vX11_jamCells
  intro j
  refine loop j 0 0 σ (by decide) (Nat.zero_le _) H.1 hn_refl ?_
  rw [ff_id (kn_0 cp2_0)]
  exact H.2.2.2.1
end
end
section
/-! crews -/
def a_low (a : ra_T) (r : Nat) : Nat → Option Nat
  | 0 => none
  | c + 1 => if a.1 33 (12 * r + c) = 0 then a_low a r c else some c
theorem a_low_lt {a : ra_T} {r : Nat} : ∀ (n c : Nat), a_low a r n = some c → c < n := by
  intro n
  induction n with
  | zero => intro c h; exact absurd h (by show ¬ (none : Option Nat) = _; simp)
  | succ n ih =>
    intro c h
    unfold a_low at h
    split at h
    · have := ih c h; omega
    · have := Option.some.inj h; omega
def a_cr (a : ra_T) (k : Nat) : Nat := (a.1 44 k).toNatClampNeg
def a_free1 (now : Int32) (a : ra_T) (k : Nat) : ra_T := match a_low a (a_cr a k) (ln_ a (a_cr a k)) with
  | none => a
  | some c => if (a.1 45 k).toInt + 1 ≤ now.toInt ∧ (a.1 46 k).toInt + 2 ≤ now.toInt then fs_ (fs_ (fs_ a 33 (12 * a_cr a k + c) 0) 34 (12 * a_cr a k + c) 0) 46 k now else a
def a_free (now : Int32) : Nat → Nat → ra_T → ra_T
  | 0, _, a => a
  | m + 1, k, a => a_free now m (k + 1) (a_free1 now a k)
/-- what crews keep to, from the k-th on not yet at work in this hour -/
def co_ (nr nc : Nat) (now : Int32) (k0 : Nat) (a : ra_T) : Prop := (0 ≤ now.toInt ∧ now.toInt ≤ 20000) ∧ ∀ k, k < nc → (0 ≤ (a.1 44 k).toInt ∧ (a.1 44 k).toInt < (nr : Int)) ∧ (0 ≤ (a.1 45 k).toInt ∧ (a.1 45 k).toInt ≤ now.toInt) ∧ (-5 ≤ (a.1 46 k).toInt ∧ (a.1 46 k).toInt ≤ now.toInt) ∧ (k0 ≤ k → (a.1 46 k).toInt < now.toInt)
theorem a_free1_c {now : Int32} {a : ra_T} {k : Nat} : (∀ f, f ≠ 33 → f ≠ 34 → f ≠ 46 → (a_free1 now a k).1 f = a.1 f) ∧ (a_free1 now a k).2 = a.2 ∧ ∀ j, j ≠ k → (a_free1 now a k).1 46 j = a.1 46 j := by
  unfold a_free1
  split
  · exact ⟨fun _ _ _ _ => rfl, rfl, fun _ _ => rfl⟩
  · split
    · exact ⟨fun f h1 h2 h3 => (fs_n h3).trans ((fs_n h2).trans (fs_n h1)), rfl, fun j hj => w_updN hj⟩
    · exact ⟨fun _ _ _ _ => rfl, rfl, fun _ _ => rfl⟩
theorem co_free1 {nr nc : Nat} {now : Int32} {k : Nat} {a : ra_T} (h : co_ nr nc now k a) : co_ nr nc now (k + 1) (a_free1 now a k) := by
  obtain ⟨e1, e2, e3⟩ := a_free1_c (now := now) (a := a) (k := k)
  refine ⟨h.1, fun j hj => ?_⟩
  obtain ⟨b1, b2, b3, b4⟩ := h.2 j hj
  rw [e1 44 (by decide) (by decide) (by decide), e1 45 (by decide) (by decide) (by decide)]
  refine ⟨b1, b2, ?_⟩
  by_cases e : j = k
  · refine ⟨?_, fun q => by omega⟩
    rw [e]
    rw [e] at b3
    unfold a_free1
    split
    · exact b3
    · split
      · show -5 ≤ (upd (a.1 46) k now k).toInt ∧ (upd (a.1 46) k now k).toInt ≤ now.toInt
        rw [w_updS]
        have := h.1.1
        omega
      · exact b3
  · rw [e3 j e]
    exact ⟨b3, fun q => b4 (by omega)⟩
theorem vr_low {a : ra_T} {r : Nat} {ri ki : Int32} {K : Int32 → Int32 → Int32 → km_S → Prop} {Q : km_S → Prop} {u : km_S} (h : rA_ a u) (hr : ri.toInt = (r : Int)) (r10 : r < 10) (n1 : ln_ a r ≤ 12) (n2 : 1 ≤ ln_ a r) (kk : K ki ri (lI_ (a_low a r (ln_ a r))) u) : ∀ (j c : Nat) (l4 : Int32), l4.toInt = (c : Int) → c ≤ ln_ a r → vX12_jams_101 K Q j ki ri (lI_ (a_low a r c)) l4 u := by
  have z12 : (12 : Int32).toInt = ((12 : Nat) : Int) := by decide
  have e14 : (km_a u 14 r).toInt = (ln_ a r : Int) := by
    rw [h.1 14 (by decide)]
    show (a.1 14 r).toInt = ((a.1 14 r).toNatClampNeg : Int)
    have : 1 ≤ (a.1 14 r).toNatClampNeg := n2
    rw [ki_nat] at this ⊢
    omega
  intro j
  induction j with
  | zero => intro _ _ _ _; exact trivial
  | succ j ih =>
    intro c l4 h4 hc
    obtain ⟨w, ew, hw⟩ : ∃ w, w = 12 * ri + l4 ∧ w.toInt = ((12 * r + c : Nat) : Int) := ⟨_, rfl, ki_addN (ki_mulN z12 hr (by omega)) h4 (by omega)⟩
    unfold vX12_jams_101 vX12_at0
    dsimp only
    rw [ki_toN hr, ki_le, e14, h4, ← ew, ki_toN hw, h.1 33 (by decide)]
    intro _
    refine ⟨fun q => ?_, fun q _ => ?_⟩
    · have : c = ln_ a r := by omega
      rw [this]
      exact kk
    · have nx : ∀ v : Int32, v = l4 + 1 → v.toInt = ((c + 1 : Nat) : Int) := fun v e => by rw [e]; exact ki_addN h4 ki_z1 (by omega)
      unfold vX12_jams_129
      refine ⟨fun d v5 e5 => ?_, fun d v5 e5 => ?_⟩
      · have := ih (c + 1) v5 (nx v5 e5) (by omega)
        rw [show a_low a r (c + 1) = a_low a r c from if_pos d] at this
        exact this
      · have := ih (c + 1) v5 (nx v5 e5) (by omega)
        rw [show a_low a r (c + 1) = some c from if_neg d] at this
        rw [nI_at h4 (by omega)]
        exact this
theorem vr_free {nr nl nc : Nat} {K : km_S → Prop} {Q : km_S → Prop} {μ : km_S} (h10 : nr ≤ 10) (c6 : nc ≤ 6) (hn : (km_i μ 7).toInt = (nc : Int)) : ∀ (j m k : Nat) (a : ra_T) (i : Int32) (u : km_S), i.toInt = (k : Int) → k + m = nc → (∀ r, r < nr → ln_ a r ≤ 12 ∧ 1 ≤ ln_ a r) → co_ nr nc (km_i μ 2) k a → rA_ a u → (∀ j, km_i u j = km_i μ j) → (∀ v, rA_ (a_free (km_i μ 2) m k a) v → (∀ j, km_i v j = km_i μ j) → K v) → vX12_jams_81 K Q j i u := by
  have z12 : (12 : Int32).toInt = ((12 : Nat) : Int) := by decide
  intro j
  induction j with
  | zero => intro _ _ _ _ _ _ _ _ _ _ _ _; exact trivial
  | succ j ih =>
    intro m k a i u hi hm hl C h g kk
    unfold vX12_jams_81
    rw [ki_le, g 7, hn, hi]
    refine ⟨fun q => ?_, fun q _ => ?_⟩
    · have : m = 0 := by omega
      subst this
      exact kk u h g
    · obtain ⟨m, rfl⟩ : ∃ x, m = x + 1 := ⟨m - 1, by omega⟩
      have hk : k < nc := by omega
      obtain ⟨⟨t1, t2⟩, ⟨t3, t4⟩, ⟨t5, t6⟩, t7⟩ := C.2 k hk
      have t7 := t7 (Nat.le_refl k)
      obtain ⟨n0, n20⟩ := C.1
      rw [ki_toN hi, h.1 44 (by decide)]
      obtain ⟨r, hr⟩ : ∃ r : Nat, (a.1 44 k).toInt = (r : Int) := ⟨(a.1 44 k).toInt.toNat, by omega⟩
      have er : a_cr a k = r := ki_toN hr
      have hrn : r < nr := by omega
      obtain ⟨l1, l2⟩ := hl r hrn
      rintro v67 e67 j2
      have h67 : v67.toInt = (r : Int) := by rw [e67]; exact hr
      have nxt : ∀ (v : km_S) (b : ra_T), b = a_free1 (km_i μ 2) a k → rA_ b v → (∀ j, km_i v j = km_i μ j) → vX12_jams_205 (vX12_jams_81 K Q j) Q i v := by
        intro v b eb hb gv
        subst eb
        unfold vX12_jams_205
        intro v4 e4
        obtain ⟨e1, e2, _⟩ := a_free1_c (now := km_i μ 2) (a := a) (k := k)
        refine ih m (k + 1) (a_free1 (km_i μ 2) a k) v4 v (by rw [e4]; exact ki_addN hi ki_z1 (by omega)) (by omega) (fun r' hr' => ?_) (co_free1 C) hb gv kk
        unfold ln_
        rw [e1 14 (by decide) (by decide) (by decide)]
        exact hl r' hr'
      refine vr_low h h67 (by omega) l1 l2 ?_ j2 0 0 (by decide) (Nat.zero_le _)
      unfold vX12_jams_135
      have ef : a_free1 (km_i μ 2) a k = match a_low a r (ln_ a r) with
          | none => a
          | some c => if (a.1 45 k).toInt + 1 ≤ (km_i μ 2).toInt ∧ (a.1 46 k).toInt + 2 ≤ (km_i μ 2).toInt then fs_ (fs_ (fs_ a 33 (12 * r + c) 0) 34 (12 * r + c) 0) 46 k (km_i μ 2) else a := by
        unfold a_free1
        rw [er]
      cases e : a_low a r (ln_ a r) with
      | none =>
        rw [e] at ef
        exact ⟨fun _ => nxt u a ef.symm h g, fun q => absurd rfl q⟩
      | some c =>
        rw [e] at ef
        have hc := a_low_lt _ _ e
        have hci : (lI_ (some c)).toInt = (c : Int) := t_nI (by omega)
        obtain ⟨w1, ew1, hw1⟩ : ∃ w, w = km_i u 2 - 1 ∧ w.toInt = (km_i μ 2).toInt - 1 := ⟨_, rfl, by
          rw [g 2, ki_sub (by rw [ki_z1]; omega) (by rw [ki_z1]; omega), ki_z1]⟩
        obtain ⟨w, ew, hw⟩ : ∃ w, w = 12 * v67 + lI_ (some c) ∧ w.toInt = ((12 * r + c : Nat) : Int) := ⟨_, rfl, ki_addN (ki_mulN z12 h67 (by omega)) hci (by omega)⟩
        refine ⟨fun q => ?_, fun _ _ => ?_⟩
        · rw [ki_eq, hci, ki_zm] at q
          omega
        · rw [ki_toN hi, h.1 45 (by decide), h.1 46 (by decide), ← ew1, ki_lt, hw1, ki_eq, hw1]
          unfold vX12_at0
          dsimp only
          rw [← ew, ki_toN hw]
          refine ⟨fun d => nxt u a ?_ h g, fun d _ => ⟨fun e1 => ?_, fun e1 => nxt u a ?_ h g⟩⟩
          · rw [ef]
            exact (if_neg (by omega)).symm
          · rintro _ μ53 rfl _ μ57 rfl _ μ59 rfl
            have e2 : km_i (km_sa (km_sa u 33 (12 * r + c) (vp_nar .boolean 0)) 34 (12 * r + c) (vp_nar .boolean 0)) 2 = km_i μ 2 := g 2
            rw [e2]
            refine nxt _ _ ?_ (rA_fs (rA_fs (rA_fs h (f := 33) (by decide)) (f := 34) (by decide)) (f := 46) (by decide)) g
            rw [ef]
            exact (if_pos (by omega)).symm
          · rw [ef]
            exact (if_neg (by omega)).symm
/-! (e) what is seen -/
def kC_ (nc : Nat) (a : ra_T) (r c : Nat) : Prop := ¬ a.1 33 (12 * r + c) = 0 ∧ (¬ a.1 23 r = 0 ∨ ∃ k, k < nc ∧ (a.1 44 k).toInt = (r : Int))
noncomputable def a_known (nr nc : Nat) (a : ra_T) : ra_T := ff_ a 34 (kn_f (cp2_ nr a (kC_ nc a) nr 0) 1 (a.1 34))
theorem vr_seen {nc r : Nat} {a : ra_T} {ri : Int32} {K : Int32 → Int32 → km_S → Prop} {Q : km_S → Prop} {u : km_S} (h : rA_ a u) (hr : ri.toInt = (r : Int)) (hn : (km_i u 7).toInt = (nc : Int)) (c6 : nc ≤ 6) (kk : ∀ s : Int32, (s = 0 ↔ ¬ (¬ a.1 23 r = 0 ∨ ∃ k, k < nc ∧ (a.1 44 k).toInt = (r : Int))) → K ri s u) : ∀ (j k : Nat) (s l3 : Int32), l3.toInt = (k : Int) → k ≤ nc → (s = 0 ↔ ¬ (¬ a.1 23 r = 0 ∨ ∃ k', k' < k ∧ (a.1 44 k').toInt = (r : Int))) → vX12_jams_230 K Q j ri s l3 u := by
  intro j
  induction j with
  | zero => intro _ _ _ _ _ _; exact trivial
  | succ j ih =>
    intro k s l3 h3 hk hs
    unfold vX12_jams_230
    rw [ki_le, hn, h3]
    refine ⟨fun q => ?_, fun q _ => ?_⟩
    · have : k = nc := by omega
      subst this
      exact kk s hs
    · have nx : ∀ v : Int32, v = l3 + 1 → v.toInt = ((k + 1 : Nat) : Int) := fun v e => by rw [e]; exact ki_addN h3 ki_z1 (by omega)
      rw [ki_toN h3, h.1 44 (by decide), ki_eq, hr]
      unfold vX12_jams_250
      refine ⟨fun d v3 e3 => ih (k + 1) s v3 (nx v3 e3) (by omega) (hs.trans ?_), fun d v3 e3 => ih (k + 1) 1 v3 (nx v3 e3) (by omega) ?_⟩
      · constructor
        · rintro z (y | ⟨k', y1, y2⟩)
          · exact z (.inl y)
          · by_cases e : k' = k
            · rw [e] at y2; exact d y2
            · exact z (.inr ⟨k', by omega, y2⟩)
        · rintro z (y | ⟨k', y1, y2⟩)
          · exact z (.inl y)
          · exact z (.inr ⟨k', by omega, y2⟩)
      · constructor
        · intro z; exact absurd z (by decide)
        · intro z; exact absurd (.inr ⟨k, by omega, d⟩) z
theorem vr_known258 {nr nl nc r : Nat} {a : ra_T} {ri s : Int32} {K : Int32 → km_S → Prop} {Q : km_S → Prop} {μ : km_S} (h10 : nr ≤ 10) (hl : ln_ a r ≤ 12 ∧ 1 ≤ ln_ a r) (hr : r < nr) (hri : ri.toInt = (r : Int)) (hs : s = 0 ↔ ¬ (¬ a.1 23 r = 0 ∨ ∃ k, k < nc ∧ (a.1 44 k).toInt = (r : Int))) : ∀ (j c : Nat) (l3 : Int32) (u : km_S), l3.toInt = (c : Int) → c ≤ ln_ a r → rA_ (ff_ a 34 (kn_f (cp2_ nr a (kC_ nc a) r c) 1 (a.1 34))) u → (∀ j, km_i u j = km_i μ j) → (∀ v, rA_ (ff_ a 34 (kn_f (cp2_ nr a (kC_ nc a) (r + 1) 0) 1 (a.1 34))) v → (∀ j, km_i v j = km_i μ j) → K ri v) → vX12_jams_258 K Q j ri s l3 u := by
  have z12 : (12 : Int32).toInt = ((12 : Nat) : Int) := by decide
  intro j
  induction j with
  | zero => intro _ _ _ _ _ _ _ _; exact trivial
  | succ j ih =>
    intro c l3 u h3 hc h g kk
    have e14 : (km_a u 14 r).toInt = (ln_ a r : Int) := by
      rw [h.1 14 (by decide)]
      show (a.1 14 r).toInt = ((a.1 14 r).toNatClampNeg : Int)
      have : 1 ≤ (a.1 14 r).toNatClampNeg := hl.2
      rw [ki_nat] at this ⊢
      omega
    obtain ⟨w, ew, hw⟩ : ∃ w, w = 12 * ri + l3 ∧ w.toInt = ((12 * r + c : Nat) : Int) := ⟨_, rfl, ki_addN (ki_mulN z12 hri (by omega)) h3 (by omega)⟩
    have nx : ∀ v : Int32, v = l3 + 1 → v.toInt = ((c + 1 : Nat) : Int) := fun v e => by rw [e]; exact ki_addN h3 ki_z1 (by omega)
    unfold vX12_jams_258 vX12_at0
    dsimp only
    rw [ki_toN hri, ki_le, e14, h3, ← ew, ki_toN hw]
    intro _
    refine ⟨fun q => ?_, fun q => ⟨fun d => kk u ?_ g, fun d _ => ?_⟩⟩
    · refine kk u ?_ g
      rw [← kn_c (fun k => cp2_next (c := c) (by omega) k)]
      exact h
    · have nC : ∀ c, ¬ kC_ nc a r c := fun c z => (hs.1 d) z.2
      have e0 : ∀ k, cp2_ nr a (kC_ nc a) r c k ↔ cp2_ nr a (kC_ nc a) (r + 1) 0 k := by
        intro k
        refine Iff.trans ?_ (cp2_skip (fun c => nC c) k)
        constructor
        · rintro ⟨r', c', h1, h2, h3, h4, h5⟩
          refine ⟨r', c', h1, h2, h3, h4, ?_⟩
          rcases h5 with y | y
          · exact .inl y
          · rw [y.1] at h4; exact absurd h4 (nC c')
        · rintro ⟨r', c', h1, h2, h3, h4, h5⟩
          exact ⟨r', c', h1, h2, h3, h4, h5.elim .inl (fun y => by omega)⟩
      rw [← kn_c e0]
      exact h
    · have hlt : c < ln_ a r := by omega
      have e33 : km_a u 33 (12 * r + c) = a.1 33 (12 * r + c) := congrFun (h.1 33 (by decide)) _
      rw [e33]
      unfold vX12_jams_296
      refine ⟨fun e v2 e2 => ih (c + 1) v2 u (nx v2 e2) hlt ?_ g kk, fun e _ => ?_⟩
      · rw [kn_c (fun k => cp2_no hr hlt (fun y => y.1 e) k)]
        exact h
      · rintro μ27 rfl v2 e2
        have yC : kC_ nc a r c := ⟨e, by
          by_cases z : (¬ a.1 23 r = 0 ∨ ∃ k, k < nc ∧ (a.1 44 k).toInt = (r : Int))
          · exact z
          · exact absurd (hs.2 z) d⟩
        refine ih (c + 1) v2 _ (nx v2 e2) hlt ?_ g kk
        have h1 := rA_fs (i := 12 * r + c) (v := 1) h (f := 34) (by decide)
        rw [ff_fs, kn_u] at h1
        rw [kn_c (fun k => cp2_y hr hlt yC k)]
        exact h1
theorem vr_known {nr nl nc : Nat} {a : ra_T} {Q : km_S → Prop} {μ : km_S} (h10 : nr ≤ 10) (c6 : nc ≤ 6) (hl : ∀ r, r < nr → ln_ a r ≤ 12 ∧ 1 ≤ ln_ a r) (hn : (km_i μ 3).toInt = (nr : Int)) (hc : (km_i μ 7).toInt = (nc : Int)) (h : rA_ a μ) (kk : ∀ u, rA_ (a_known nr nc a) u → (∀ j, km_i u j = km_i μ j) → Q u) : vX12_jams_211 Q μ := by
  have loop : ∀ (j r : Nat) (i : Int32) (u : km_S), i.toInt = (r : Int) → r ≤ nr → rA_ (ff_ a 34 (kn_f (cp2_ nr a (kC_ nc a) r 0) 1 (a.1 34))) u → (∀ j, km_i u j = km_i μ j) → vX12_jams_213 Q j i u := by
    intro j
    induction j with
    | zero => intro _ _ _ _ _ _ _; exact trivial
    | succ j ih =>
      intro r i u hi hr hu g
      unfold vX12_jams_213
      rw [ki_le, g 3, hn, hi]
      refine ⟨fun q => ?_, fun q _ => ?_⟩
      · have : r = nr := by omega
        subst this
        exact kk u hu g
      · have hlt : r < nr := by omega
        rw [ki_toN hi]
        intro v62 e62 j2
        have e23 : km_a u 23 r = a.1 23 r := congrFun (hu.1 23 (by decide)) r
        refine vr_seen hu hi (by rw [g 7]; exact hc) c6 (fun s hs => ?_) j2 0 v62 0 (by decide) (Nat.zero_le _) ?_
        · unfold vX12_jams_256
          intro j3
          have hs : s = 0 ↔ ¬ (¬ a.1 23 r = 0 ∨ ∃ k, k < nc ∧ (a.1 44 k).toInt = (r : Int)) := hs
          refine vr_known258 (nl := nl) h10 (hl r hlt) hlt hi hs j3 0 0 u (by decide) (Nat.zero_le _) hu g (fun v hv gv => ?_)
          unfold vX12_jams_302
          intro v1 e1
          exact ih (r + 1) v1 v (by rw [e1]; exact ki_addN hi ki_z1 (by omega)) hlt hv gv
        · rw [e62, e23]
          constructor
          · rintro z (y | ⟨k', y1, _⟩)
            · exact y z
            · omega
          · intro z
            by_cases y : a.1 23 r = 0
            · exact y
            · exact absurd (.inl y) z
  unfold vX12_jams_211
  intro j
  refine loop j 0 0 μ (by decide) (Nat.zero_le _) ?_ (fun _ => rfl)
  rw [ff_id (kn_0 cp2_0)]
  exact h
end
section
/-! the class: crews, what is seen -/
def q5_ (T : Nat → Nat → Nat) (N : Nat → Nat) (g4 nr nc : Nat) (a : ra_T) (σ : kx_S) : Prop := (xi σ 18 g4).toInt = (nc : Int) ∧ nc ≤ 6 ∧ ∀ k, k < nc → (xe σ g4 k = some (T 4 k) ∧ xt σ (T 4 k) = 4) ∧ (∃ r, r < nr ∧ (a.1 44 k).toInt = (r : Int) ∧ xr σ 64 (T 4 k) = some (T 10 r)) ∧ (xi σ 65 (T 4 k)).toInt = max ((a.1 45 k).toInt + 1) ((a.1 46 k).toInt + 2) ∧ N (T 4 k) = k
section
variable {T : Nat → Nat → Nat} {N : Nat → Nat} {g κ : Nat → Nat} {st na nr nl nc m : Nat} {day : Nat → Int32} {RL : Nat → List (Bool × List Int32)} {s : sz_T} {B n : Nat}
theorem q5_hf {W : List Nat} {a b : ra_T} {σ τ : kx_S} (h : q5_ T N (g 4) nr nc a σ) (F : hf_ W g κ st na σ τ) (t4 : xt σ (g 4) = 1) (k4 : κ (g 4) = 4) (hW : 65 ∉ W) (e44 : b.1 44 = a.1 44) (e45 : b.1 45 = a.1 45) (e46 : b.1 46 = a.1 46) : q5_ T N (g 4) nr nc b τ := by
  obtain ⟨h1, h2, h3⟩ := h
  obtain ⟨f1, f2⟩ := F.2.2.1 (g 4) t4 (.inl (by rw [k4]; decide))
  refine ⟨by rw [f1]; exact h1, h2, fun k hk => ?_⟩
  obtain ⟨⟨a1, a2⟩, a3, a4, a5⟩ := h3 k hk
  have tC : xt σ (T 4 k) ≠ 0 := by rw [a2]; decide
  rw [e44, e45, e46]
  exact ⟨⟨by rw [f2 k (by omega)]; exact a1, fg_tag F.1 a2 (by decide)⟩, by rw [F.1.2.1 64 _ (by decide) tC]; exact a3, by rw [F.2.1 65 _ hW (by decide) (by decide) tC]; exact a4, a5⟩
theorem vq_low {a : ra_T} {r : Nat} {Q : Int32 → kx_S → Prop} {σ : kx_S} (h1 : q1_ T (g 1) nr a σ) (h2 : q2_ T nr a σ) (hr : r < nr) (k0 : a_low a r (ln_ a r) = none → Q 0 σ) (k1 : ∀ c, a_low a r (ln_ a r) = some c → Q 1 (xsi (xsi σ 50 (T 3 (12 * r + c)) 0) 51 (T 3 (12 * r + c)) 0)) : vX8_freesLowestJam (T 10 r) σ Q := by
  obtain ⟨_, _, _, _, _, b1, b2, b3, b4, b5⟩ := h1.2 r hr
  have loop : ∀ (j c : Nat) (l1 : Int32), l1.toInt = (c : Int) - 1 → c ≤ ln_ a r → a_low a r (ln_ a r) = a_low a r c → vX8_freesLowestJam_12 (vX8_freesLowestJam_37 Q) Q j (T 10 r) l1 σ := by
    intro j
    induction j with
    | zero => intro _ _ _ _ _; exact trivial
    | succ j ih =>
      intro c l1 hl hc e
      unfold vX8_freesLowestJam_12
      rw [ki_lt, ki_z0, hl]
      cases c with
      | zero => exact ⟨fun _ => k0 e, fun q => absurd (by omega) q⟩
      | succ c =>
        refine ⟨fun q => absurd q (by omega), fun _ _ a8 e8 _ => ?_⟩
        obtain rfl := Option.some.inj (b1.symm.trans e8)
        refine vy_get (fun _ _ => ?_)
        have hl' : l1.toInt = (c : Int) := by omega
        obtain ⟨⟨c1, c2⟩, c3, c4, c5, c6⟩ := h2 r hr c (by omega)
        rw [ki_toN hl', c1]
        intro a13 e13 _
        obtain rfl := Option.some.inj e13
        rw [c5]
        refine ⟨fun d v17 e17 => ih c v17 ?_ (by omega) (e.trans (if_pos d)), fun d => ?_⟩
        · rw [e17, ki_add (by rw [hl', ki_zm]; omega) (by rw [hl', ki_zm]; omega), hl', ki_zm]
          omega
        · unfold vX8_freesLowestJam_37
          rintro _ σ2 rfl σ4 rfl
          exact k1 c (e.trans (if_neg d))
  unfold vX8_freesLowestJam
  intro _ a19 e19 _
  obtain rfl := Option.some.inj (b1.symm.trans e19)
  unfold vJx4a65c_size_8abf5
  rintro _ v24 e24 j
  refine loop j (ln_ a r) v24 ?_ (Nat.le_refl _) rfl
  rw [e24, ki_sub (by rw [b3, ki_z1]; omega) (by rw [b3, ki_z1]; omega), b3, ki_z1]
/-- writes to fields 50, 51, 65 alone -/
abbrev fr_W : List Nat := [50, 51, 65]
theorem vq_free {Q : kx_S → Prop} {σ : kx_S} {now : Int32} (h10 : nr ≤ 10) (hnow : s.1.2.2.2.2.2 = now) : ∀ (j mm k : Nat) (a : ra_T) (i : Int32) (τ : kx_S), i.toInt = (k : Int) → k + mm = nc → co_ nr nc now k a → qa_ T N g κ st na nr nl m day RL s B n a τ → q5_ T N (g 4) nr nc a τ → hn_ fr_W σ τ → (∀ v, qa_ T N g κ st na nr nl m day RL s B n (a_free now mm k a) v → q5_ T N (g 4) nr nc (a_free now mm k a) v → hn_ fr_W σ v → Q v) → vX11_freeJams_2 Q j (g 0) i τ := by
  have z2 : (2 : Int32).toInt = 2 := by decide
  intro j
  induction j with
  | zero => intro _ _ _ _ _ _ _ _ _ _ _ _; exact trivial
  | succ j ih =>
    intro mm k a i τ hi hm C H h5 F kk
    have HH := H
    obtain ⟨J, h0, h1, h2, h3, h4, h7, hj⟩ := HH
    unfold vX11_freeJams_2
    intro _ a3 e3 _
    obtain rfl := Option.some.inj ((yg4 J).1.symm.trans e3)
    unfold vJx4a65c_size_8abf5
    intro _
    rw [ki_le, h5.1, hi]
    refine ⟨fun q => ?_, fun q _ => ?_⟩
    · have : mm = 0 := by omega
      subst this
      exact kk τ H h5 F
    · obtain ⟨mm, rfl⟩ : ∃ x, mm = x + 1 := ⟨mm - 1, by omega⟩
      have hk : k < nc := by omega
      have c6 := h5.2.1
      intro a10 e10 _
      obtain rfl := Option.some.inj ((yg4 J).1.symm.trans e10)
      refine vy_get (fun _ _ => ?_)
      obtain ⟨⟨x1, x2⟩, ⟨r, x3, x4, x5⟩, x6, x7⟩ := h5.2.2 k hk
      rw [ki_toN hi, x1]
      intro a15 e15 _ _
      obtain rfl := Option.some.inj e15
      have e217 : xi τ 217 (g 0) = now := (congrArg (fun p => p.2.2.2.2.2) J.2.2.2.2.1).trans hnow
      rw [e217, ki_lt, x6]
      obtain ⟨⟨t1, t2⟩, ⟨t3, t4⟩, ⟨t5, t6⟩, t7⟩ := C.2 k hk
      have t7 := t7 (Nat.le_refl k)
      obtain ⟨n0, n20⟩ := C.1
      have er : a_cr a k = r := ki_toN x4
      have nxt : ∀ (v : kx_S) (b : ra_T), b = a_free1 now a k → qa_ T N g κ st na nr nl m day RL s B n b v → q5_ T N (g 4) nr nc b v → hn_ fr_W σ v → vX11_freeJams_58 (vX11_freeJams_2 Q j) Q (g 0) i v := by
        intro v b eb Hb hb Fv
        subst eb
        unfold vX11_freeJams_58
        intro v1 e1
        exact ih mm (k + 1) (a_free1 now a k) v1 v (by rw [e1]; exact ki_addN hi ki_z1 (by omega)) (by omega) (co_free1 C) Hb hb Fv kk
      have ef : a_free1 now a k = match a_low a r (ln_ a r) with
          | none => a
          | some c => if (a.1 45 k).toInt + 1 ≤ now.toInt ∧ (a.1 46 k).toInt + 2 ≤ now.toInt then fs_ (fs_ (fs_ a 33 (12 * r + c) 0) 34 (12 * r + c) 0) 46 k now else a := by
        unfold a_free1
        rw [er]
        rfl
      refine ⟨fun d => nxt τ a ?_ H h5 F, fun d a20 e20 _ => ?_⟩
      · rw [ef]
        split
        · rfl
        · exact (if_neg (by omega)).symm
      · obtain rfl := Option.some.inj (x5.symm.trans e20)
        refine vq_low h1 h2 x3 (fun e => ⟨fun _ => nxt τ a ?_ H h5 F, fun q => absurd rfl q⟩) (fun c e => ⟨fun q => absurd q (by decide), fun _ => ?_⟩)
        · rw [ef, e]
        · intro _ _
          unfold vX2_rest
          rintro _ σ2 rfl
          have hc := a_low_lt _ _ e
          have cond : (a.1 45 k).toInt + 1 ≤ now.toInt ∧ (a.1 46 k).toInt + 2 ≤ now.toInt := by omega
          rw [e] at ef
          have ef2 := ef.trans (if_pos cond)
          have e217' : xi (xsi (xsi τ 50 (T 3 (12 * r + c)) 0) 51 (T 3 (12 * r + c)) 0) 217 (g 0) = now := e217
          rw [e217']
          have F1 : hn_ fr_W τ (xsi (xsi (xsi τ 50 (T 3 (12 * r + c)) 0) 51 (T 3 (12 * r + c)) 0) 65 (T 4 k) (now + 2)) := hn_si (hn_si (hn_si hn_refl (by decide)) (by decide)) (by decide)
          have J1 : yJ_ s g κ B n (xsi (xsi (xsi τ 50 (T 3 (12 * r + c)) 0) 51 (T 3 (12 * r + c)) 0) 65 (T 4 k) (now + 2)) := yI_si (by decide) (yI_si (by decide) (yI_si (by decide) J))
          obtain ⟨p1, p3, p4, p7, pj⟩ := qa_hn H J1 F1 (by decide)
          have hN : ∀ r c, r < nr → c < ln_ a r → N (T 3 (12 * r + c)) = 12 * r + c := fun r c h1 h2 => h0.2.1 r c h1 h2
          have p2 := q2_51 (N := N) (v := 0) (q2_50 (N := N) (v := 0) h2 hN x3 hc) hN x3 hc
          refine nxt _ _ ef2.symm ⟨J1, h0, p1, p2, p3, p4, p7, pj⟩ ⟨h5.1, h5.2.1, fun k' hk' => ?_⟩ (hn_trans F F1)
          obtain ⟨y1, y2, y3, y4⟩ := h5.2.2 k' hk'
          refine ⟨y1, y2, ?_, y4⟩
          show (va_up (xi τ 65) (T 4 k) (now + 2) (T 4 k')).toInt = max ((a.1 45 k').toInt + 1) ((upd (a.1 46) k now k').toInt + 2)
          by_cases ek : k' = k
          · rw [ek, va_up_self, w_updS, ki_add (by rw [z2]; omega) (by rw [z2]; omega), z2]
            omega
          · rw [va_up_ne _ _ (fun z => ek (by rw [← y4, z, x7])), w_updN ek]
            exact y3
theorem vq_freeJams {a : ra_T} {Q : kx_S → Prop} {σ : kx_S} {now : Int32} (h10 : nr ≤ 10) (hnow : s.1.2.2.2.2.2 = now) (C : co_ nr nc now 0 a) (H : qa_ T N g κ st na nr nl m day RL s B n a σ) (h5 : q5_ T N (g 4) nr nc a σ) (kk : ∀ v, qa_ T N g κ st na nr nl m day RL s B n (a_free now nc 0 a) v → q5_ T N (g 4) nr nc (a_free now nc 0 a) v → hn_ fr_W σ v → Q v) : vX11_freeJams (g 0) σ Q := by
  unfold vX11_freeJams
  intro j
  exact vq_free h10 hnow j nc 0 a 0 σ (by decide) (by omega) C H h5 hn_refl kk
/-- one reach is seen -/
theorem vq_known1 {a : ra_T} {r : Nat} {P : Nat → Prop} {Q : kx_S → Prop} {σ τ0 : kx_S} (H : qa_ T N g κ st na nr nl m day RL s B n a σ) (hr : r < nr) (J0 : yJ_ s g κ B n τ0) (F0 : hn_ [51] σ τ0) (h20 : q2_ T nr (ff_ a 34 (kn_f P 1 (a.1 34))) τ0) (kk : ∀ v, yJ_ s g κ B n v → hn_ [51] σ v → q2_ T nr (ff_ a 34 (kn_f (fun k => P k ∨ ∃ c, c < ln_ a r ∧ k = 12 * r + c ∧ ¬ a.1 33 k = 0) 1 (a.1 34))) v → Q v) : vX8_makeJamsKnown (T 10 r) τ0 Q := by
  have loop : ∀ (j c : Nat) (l1 : Int32) (τ : kx_S), l1.toInt = (c : Int) → c ≤ ln_ a r → yJ_ s g κ B n τ → hn_ [51] σ τ → q2_ T nr (ff_ a 34 (kn_f (fun k => P k ∨ ∃ c', c' < c ∧ k = 12 * r + c' ∧ ¬ a.1 33 k = 0) 1 (a.1 34))) τ → vX8_makeJamsKnown_2 Q j (T 10 r) l1 τ := by
    intro j
    induction j with
    | zero => intro _ _ _ _ _ _ _ _; exact trivial
    | succ j ih =>
      intro c l1 τ h1 hc J F h2
      obtain ⟨p1, p3, p4, p7, pj⟩ := qa_hn H J F (by decide)
      obtain ⟨_, _, _, _, _, b1, b2, b3, b4, b5⟩ := p1.2 r hr
      have nx : ∀ v : Int32, v = l1 + 1 → v.toInt = ((c + 1 : Nat) : Int) := fun v e => by rw [e]; exact ki_addN h1 ki_z1 (by omega)
      unfold vX8_makeJamsKnown_2
      intro _ a3 e3 _
      obtain rfl := Option.some.inj (b1.symm.trans e3)
      unfold vJx4a65c_size_8abf5
      intro _
      rw [ki_le, b3, h1]
      refine ⟨fun q => ?_, fun q _ => ?_⟩
      · have : c = ln_ a r := by omega
        subst this
        exact kk τ J F h2
      · have hlt : c < ln_ a r := by omega
        intro a10 e10 _
        obtain rfl := Option.some.inj (b1.symm.trans e10)
        refine vy_get (fun _ _ => ?_)
        obtain ⟨⟨c1, c2⟩, c3, c4, c5, c6⟩ := h2 r hr c hlt
        have c5 : xi τ 50 (T 3 (12 * r + c)) = a.1 33 (12 * r + c) := c5
        rw [ki_toN h1, c1]
        intro a15 e15 _
        obtain rfl := Option.some.inj e15
        rw [c5]
        unfold vX8_makeJamsKnown_41
        refine ⟨fun d v1 e1 => ih (c + 1) v1 τ (nx v1 e1) hlt J F ?_, fun d => ?_⟩
        · rw [kn_c (P' := fun k => P k ∨ ∃ c', c' < c ∧ k = 12 * r + c' ∧ ¬ a.1 33 k = 0) (fun k => ?_)]
          · exact h2
          · constructor
            · rintro (z | ⟨c', z1, z2, z3⟩)
              · exact .inl z
              · by_cases e : c' = c
                · rw [e] at z2; rw [z2] at z3; exact absurd d z3
                · exact .inr ⟨c', by omega, z2, z3⟩
            · rintro (z | ⟨c', z1, z2, z3⟩)
              · exact .inl z
              · exact .inr ⟨c', by omega, z2, z3⟩
        · rintro σ19 rfl v1 e1
          refine ih (c + 1) v1 _ (nx v1 e1) hlt (yI_si (by decide) J) (hn_si F (by decide)) ?_
          have z := q2_51 (N := N) (v := 1) h2 (fun r c h1 h2 => H.2.1.2.1 r c h1 h2) hr hlt
          rw [ff_fs, kn_u] at z
          rw [kn_c (P' := fun k => (P k ∨ ∃ c', c' < c ∧ k = 12 * r + c' ∧ ¬ a.1 33 k = 0) ∨ k = 12 * r + c) (fun k => ?_)]
          · exact z
          · constructor
            · rintro (z | ⟨c', z1, z2, z3⟩)
              · exact .inl (.inl z)
              · by_cases e : c' = c
                · rw [e] at z2; exact .inr z2
                · exact .inl (.inr ⟨c', by omega, z2, z3⟩)
            · rintro ((z | ⟨c', z1, z2, z3⟩) | z)
              · exact .inl z
              · exact .inr ⟨c', by omega, z2, z3⟩
              · exact .inr ⟨c, by omega, z, by rw [z]; exact d⟩
  unfold vX8_makeJamsKnown
  intro j
  refine loop j 0 0 τ0 (by decide) (Nat.zero_le _) J0 F0 ?_
  rw [kn_c (P' := P) (fun k => ⟨fun z => z.elim id (fun ⟨c', z1, _⟩ => by omega), .inl⟩)]
  exact h20
/-- the cells in jams of reaches of a kind -/
def sk_ (nr : Nat) (a : ra_T) (S : Nat → Prop) (k : Nat) : Prop := ∃ r c, r < nr ∧ c < ln_ a r ∧ k = 12 * r + c ∧ ¬ a.1 33 k = 0 ∧ S r
theorem sk_or {nr : Nat} {a : ra_T} {S : Nat → Prop} {r : Nat} (hr : r < nr) (k : Nat) : (sk_ nr a S k ∨ ∃ c, c < ln_ a r ∧ k = 12 * r + c ∧ ¬ a.1 33 k = 0) ↔ sk_ nr a (fun q => S q ∨ q = r) k := by
  constructor
  · rintro (⟨r', c', h1, h2, h3, h4, h5⟩ | ⟨c', h1, h2, h3⟩)
    · exact ⟨r', c', h1, h2, h3, h4, .inl h5⟩
    · exact ⟨r, c', hr, h1, h2, h3, .inr rfl⟩
  · rintro ⟨r', c', h1, h2, h3, h4, h5⟩
    rcases h5 with z | z
    · exact .inl ⟨r', c', h1, h2, h3, h4, z⟩
    · rw [z] at h2 h3; exact .inr ⟨c', h2, h3, h4⟩
theorem sk_c {nr : Nat} {a : ra_T} {S S' : Nat → Prop} (h : ∀ r, r < nr → (S r ↔ S' r)) (k : Nat) : sk_ nr a S k ↔ sk_ nr a S' k := by
  constructor
  · rintro ⟨r', c', h1, h2, h3, h4, h5⟩; exact ⟨r', c', h1, h2, h3, h4, (h r' h1).1 h5⟩
  · rintro ⟨r', c', h1, h2, h3, h4, h5⟩; exact ⟨r', c', h1, h2, h3, h4, (h r' h1).2 h5⟩
theorem vq_known {a : ra_T} {Q : kx_S → Prop} {σ : kx_S} (h10 : nr ≤ 10) (H : qa_ T N g κ st na nr nl m day RL s B n a σ) (h5 : q5_ T N (g 4) nr nc a σ) (kk : ∀ τ, qa_ T N g κ st na nr nl m day RL s B n (a_known nr nc a) τ → hn_ [51] σ τ → Q τ) : vX11_makeJamsKnown (g 0) σ Q := by
  have fin : ∀ τ, yJ_ s g κ B n τ → hn_ [51] σ τ → q2_ T nr (ff_ a 34 (kn_f (sk_ nr a (fun r => ¬ a.1 23 r = 0 ∨ ∃ k, k < nc ∧ (a.1 44 k).toInt = (r : Int))) 1 (a.1 34))) τ → Q τ := by
    intro τ J F h2
    obtain ⟨p1, p3, p4, p7, pj⟩ := qa_hn H J F (by decide)
    refine kk τ ⟨J, H.2.1, p1, ?_, p3, p4, p7, pj⟩ F
    unfold a_known
    rw [kn_c (P' := sk_ nr a (fun r => ¬ a.1 23 r = 0 ∨ ∃ k, k < nc ∧ (a.1 44 k).toInt = (r : Int))) (fun k => ?_)]
    · exact h2
    · constructor
      · rintro ⟨r', c', h1, h2, h3, h4, _⟩
        exact ⟨r', c', h1, h2, h3, by rw [h3]; exact h4.1, h4.2⟩
      · rintro ⟨r', c', h1, h2, h3, h4, h5⟩
        exact ⟨r', c', h1, h2, h3, ⟨by rw [← h3]; exact h4, h5⟩, .inl h1⟩
  have loop2 : ∀ (j k : Nat) (i : Int32) (τ : kx_S), i.toInt = (k : Int) → k ≤ nc → yJ_ s g κ B n τ → hn_ [51] σ τ → q2_ T nr (ff_ a 34 (kn_f (sk_ nr a (fun r => ¬ a.1 23 r = 0 ∨ ∃ k', k' < k ∧ (a.1 44 k').toInt = (r : Int))) 1 (a.1 34))) τ → vX11_makeJamsKnown_58 Q j (g 0) i τ := by
    intro j
    induction j with
    | zero => intro _ _ _ _ _ _ _ _; exact trivial
    | succ j ih =>
      intro k i τ hi hk J F h2
      have c6 := h5.2.1
      have g5 : q5_ T N (g 4) nr nc a τ := q5_hf (W := [51]) (st := st) (na := na) h5 (hn_hf F (by decide)) (yg4 H.1).2.1 (yg4 H.1).2.2 (by decide) rfl rfl rfl
      unfold vX11_makeJamsKnown_58
      intro _ a3 e3 _
      obtain rfl := Option.some.inj ((yg4 J).1.symm.trans e3)
      unfold vJx4a65c_size_8abf5
      intro _
      rw [ki_le, g5.1, hi]
      refine ⟨fun q => ?_, fun q _ => ?_⟩
      · have : k = nc := by omega
        subst this
        exact fin τ J F h2
      · have hlt : k < nc := by omega
        intro a10 e10 _
        obtain rfl := Option.some.inj ((yg4 J).1.symm.trans e10)
        refine vy_get (fun _ _ => ?_)
        obtain ⟨⟨x1, x2⟩, ⟨r, x3, x4, x5⟩, x6, x7⟩ := g5.2.2 k hlt
        rw [ki_toN hi, x1]
        intro a15 e15 _
        obtain rfl := Option.some.inj e15
        intro a18 e18 _
        obtain rfl := Option.some.inj (x5.symm.trans e18)
        refine vq_known1 H x3 J F h2 (fun v Jv Fv hv => ?_)
        intro v22 e22
        refine ih (k + 1) v22 v (by rw [e22]; exact ki_addN hi ki_z1 (by omega)) hlt Jv Fv ?_
        rw [kn_c (fun q => (sk_or x3 q).trans (sk_c (S' := fun r => ¬ a.1 23 r = 0 ∨ ∃ k', k' < k + 1 ∧ (a.1 44 k').toInt = (r : Int)) (fun r' _ => ?_) q))] at hv
        · exact hv
        · constructor
          · rintro ((z | ⟨k', z1, z2⟩) | z)
            · exact .inl z
            · exact .inr ⟨k', by omega, z2⟩
            · exact .inr ⟨k, by omega, by rw [z]; exact x4⟩
          · rintro (z | ⟨k', z1, z2⟩)
            · exact .inl (.inl z)
            · by_cases e : k' = k
              · rw [e, x4] at z2; exact .inr (by omega)
              · exact .inl (.inr ⟨k', by omega, z2⟩)
  have loop1 : ∀ (j r : Nat) (i : Int32) (τ : kx_S), i.toInt = (r : Int) → r ≤ nr → yJ_ s g κ B n τ → hn_ [51] σ τ → q2_ T nr (ff_ a 34 (kn_f (sk_ nr a (fun q => ¬ a.1 23 q = 0 ∧ q < r)) 1 (a.1 34))) τ → vX11_makeJamsKnown_2 (vX11_makeJamsKnown_56 Q) Q j (g 0) i τ := by
    intro j
    induction j with
    | zero => intro _ _ _ _ _ _ _ _; exact trivial
    | succ j ih =>
      intro r i τ hi hr J F h2
      obtain ⟨p1, p3, p4, p7, pj⟩ := qa_hn H J F (by decide)
      unfold vX11_makeJamsKnown_2
      intro _ a25 e25 _
      obtain rfl := Option.some.inj ((yg1 J).1.symm.trans e25)
      unfold vJx4a65c_size_8abf5
      intro _
      rw [ki_le, p1.1, hi]
      refine ⟨fun q => ?_, fun q _ => ?_⟩
      · have : r = nr := by omega
        subst this
        unfold vX11_makeJamsKnown_56
        intro j2
        refine loop2 j2 0 0 τ (by decide) (Nat.zero_le _) J F ?_
        rw [kn_c (fun q => sk_c (S' := fun q => ¬ a.1 23 q = 0 ∧ q < r) (fun r' hr' => ⟨fun z => z.elim (fun y => ⟨y, hr'⟩) (fun ⟨k', y, _⟩ => by omega), fun z => .inl z.1⟩) q)]
        exact h2
      · have hlt : r < nr := by omega
        have nx : ∀ v : Int32, v = i + 1 → v.toInt = ((r + 1 : Nat) : Int) := fun v e => by rw [e]; exact ki_addN hi ki_z1 (by omega)
        intro a32 e32 _
        obtain rfl := Option.some.inj ((yg1 J).1.symm.trans e32)
        refine vy_get (fun _ _ => ?_)
        obtain ⟨⟨b0, b00⟩, _, ⟨_, _, _, _, b171⟩, _⟩ := p1.2 r hlt
        rw [ki_toN hi, b0]
        intro a37 e37 _
        obtain rfl := Option.some.inj e37
        rw [b171]
        refine ⟨fun d => ?_, fun d _ a42 e42 _ => ?_⟩
        · unfold vX11_makeJamsKnown_50
          intro v1 e1
          refine ih (r + 1) v1 τ (nx v1 e1) hlt J F ?_
          rw [kn_c (fun q => sk_c (S' := fun q => ¬ a.1 23 q = 0 ∧ q < r) (fun r' _ => ⟨fun z => ⟨z.1, by
            by_cases e : r' = r
            · rw [e] at z; exact absurd d z.1
            · have := z.2; omega⟩, fun z => ⟨z.1, by have := z.2; omega⟩⟩) q)]
          exact h2
        · obtain rfl := Option.some.inj ((yg1 J).1.symm.trans e42)
          refine vy_get (fun _ _ => ?_)
          rw [ki_toN hi, b0]
          intro a47 e47 _
          obtain rfl := Option.some.inj e47
          refine vq_known1 H hlt J F h2 (fun v Jv Fv hv => ?_)
          unfold vX11_makeJamsKnown_50
          intro v1 e1
          refine ih (r + 1) v1 v (nx v1 e1) hlt Jv Fv ?_
          rw [kn_c (fun q => (sk_or hlt q).trans (sk_c (S' := fun q => ¬ a.1 23 q = 0 ∧ q < r + 1) (fun r' _ => ?_) q))] at hv
          · exact hv
          · constructor
            · rintro (z | z)
              · exact ⟨z.1, by have := z.2; omega⟩
              · rw [z]; exact ⟨d, by omega⟩
            · intro z
              by_cases e : r' = r
              · exact .inr e
              · exact .inl ⟨z.1, by have := z.2; omega⟩
  unfold vX11_makeJamsKnown
  intro j
  refine loop1 j 0 0 σ (by decide) (Nat.zero_le _) H.1 hn_refl ?_
  rw [ff_id (kn_0 (fun k => ?_))]
  · exact H.2.2.2.1
  · rintro ⟨r', c', _, _, _, _, z⟩
    have := z.2
    omega
end
end
section
/-! (f) each log afloat is an hour older -/
def su_ (a : ra_T) (x : Nat) : Prop := a.1 38 x = 1 ∧ 24 * a.1 36 x ≤ a.1 41 x + 1
noncomputable def ag_ (P : Nat → Prop) (a : ra_T) : ra_T :=
  (fun f => if f = 41 then (fun x => @ite Int32 (P x ∧ a.1 38 x = 1) (Classical.propDecidable _) (a.1 41 x + 1) (a.1 41 x)) else if f = 38 then (fun x => @ite Int32 (P x ∧ su_ a x) (Classical.propDecidable _) 5 (a.1 38 x)) else a.1 f,
   fun k => (a.2 k).filter (fun x => @decide (¬ (P x ∧ su_ a x)) (Classical.propDecidable _)))
theorem ag_41y {P : Nat → Prop} {a : ra_T} {x : Nat} (h : P x) (k : a.1 38 x = 1) : (ag_ P a).1 41 x = a.1 41 x + 1 := by
  show @ite Int32 (P x ∧ a.1 38 x = 1) (Classical.propDecidable _) (a.1 41 x + 1) (a.1 41 x) = _
  exact if_pos ⟨h, k⟩
theorem ag_41n {P : Nat → Prop} {a : ra_T} {x : Nat} (h : ¬ (P x ∧ a.1 38 x = 1)) : (ag_ P a).1 41 x = a.1 41 x := by
  show @ite Int32 (P x ∧ a.1 38 x = 1) (Classical.propDecidable _) (a.1 41 x + 1) (a.1 41 x) = _
  exact if_neg h
theorem ag_38y {P : Nat → Prop} {a : ra_T} {x : Nat} (h : P x) (k : su_ a x) : (ag_ P a).1 38 x = 5 := by
  show @ite Int32 (P x ∧ su_ a x) (Classical.propDecidable _) 5 (a.1 38 x) = _
  exact if_pos ⟨h, k⟩
theorem ag_38n {P : Nat → Prop} {a : ra_T} {x : Nat} (h : ¬ (P x ∧ su_ a x)) : (ag_ P a).1 38 x = a.1 38 x := by
  show @ite Int32 (P x ∧ su_ a x) (Classical.propDecidable _) 5 (a.1 38 x) = _
  exact if_neg h
theorem ag_o {P : Nat → Prop} {a : ra_T} {f : Nat} (h1 : f ≠ 41) (h2 : f ≠ 38) : (ag_ P a).1 f = a.1 f := by
  show (if f = 41 then _ else if f = 38 then _ else a.1 f) = a.1 f
  rw [if_neg h1, if_neg h2]
theorem ag_mem {P : Nat → Prop} {a : ra_T} {k x : Nat} : x ∈ (ag_ P a).2 k ↔ x ∈ a.2 k ∧ ¬ (P x ∧ su_ a x) := by
  show x ∈ (a.2 k).filter (fun x => @decide (¬ (P x ∧ su_ a x)) (Classical.propDecidable _)) ↔ _
  rw [List.mem_filter]
  constructor
  · rintro ⟨h1, h2⟩; exact ⟨h1, @of_decide_eq_true _ (Classical.propDecidable _) h2⟩
  · rintro ⟨h1, h2⟩; exact ⟨h1, @decide_eq_true _ (Classical.propDecidable _) h2⟩
theorem ag_c {P P' : Nat → Prop} {a : ra_T} (h : ∀ x, a.1 38 x = 1 → (P x ↔ P' x)) : ag_ P a = ag_ P' a := by
  have e1 : (fun x => P x ∧ a.1 38 x = 1) = (fun x => P' x ∧ a.1 38 x = 1) := funext fun x => propext ⟨fun z => ⟨(h x z.2).1 z.1, z.2⟩, fun z => ⟨(h x z.2).2 z.1, z.2⟩⟩
  have e2 : (fun x => P x ∧ su_ a x) = (fun x => P' x ∧ su_ a x) := funext fun x => propext ⟨fun z => ⟨(h x z.2.1).1 z.1, z.2⟩, fun z => ⟨(h x z.2.1).2 z.1, z.2⟩⟩
  have g : ∀ (A A' C C' : Nat → Prop), A = A' → C = C' → ((fun f => if f = 41 then (fun x => @ite Int32 (A x) (Classical.propDecidable _) (a.1 41 x + 1) (a.1 41 x)) else if f = 38 then (fun x => @ite Int32 (C x) (Classical.propDecidable _) 5 (a.1 38 x)) else a.1 f, fun k => (a.2 k).filter (fun x => @decide (¬ (C x)) (Classical.propDecidable _))) : ra_T) = (fun f => if f = 41 then (fun x => @ite Int32 (A' x) (Classical.propDecidable _) (a.1 41 x + 1) (a.1 41 x)) else if f = 38 then (fun x => @ite Int32 (C' x) (Classical.propDecidable _) 5 (a.1 38 x)) else a.1 f, fun k => (a.2 k).filter (fun x => @decide (¬ (C' x)) (Classical.propDecidable _))) := by
    intro A A' C C' hA hC
    rw [hA, hC]
  exact g _ _ _ _ e1 e2
theorem ag_0 {P : Nat → Prop} {a : ra_T} (h : ∀ x, ¬ P x) : ag_ P a = a := by
  refine Prod.ext (funext fun f => ?_) (funext fun k => ?_)
  · by_cases c1 : f = 41
    · rw [c1]; funext x; exact ag_41n (fun z => h x z.1)
    · by_cases c2 : f = 38
      · rw [c2]; funext x; exact ag_38n (fun z => h x z.1)
      · exact ag_o c1 c2
  · show (a.2 k).filter _ = a.2 k
    rw [List.filter_eq_self]
    intro x _
    exact @decide_eq_true _ (Classical.propDecidable _) (fun z => h x z.1)
/-- one more -/
theorem ag_up {P : Nat → Prop} {a : ra_T} {x0 : Nat} (h38 : a.1 38 x0 = 1) : upd ((ag_ P a).1 41) x0 (a.1 41 x0 + 1) = (ag_ (fun x => P x ∨ x = x0) a).1 41 := by
  funext x
  by_cases c : x = x0
  · rw [c, w_updS, ag_41y (.inr rfl) h38]
  · rw [w_updN c]
    by_cases d : P x ∧ a.1 38 x = 1
    · rw [ag_41y d.1 d.2, ag_41y (.inl d.1) d.2]
    · rw [ag_41n d, ag_41n (fun z => d ⟨z.1.resolve_right c, z.2⟩)]
theorem ag_stay {P : Nat → Prop} {a : ra_T} {x0 : Nat} (h38 : a.1 38 x0 = 1) (hs : ¬ su_ a x0) : fs_ (ag_ P a) 41 x0 (a.1 41 x0 + 1) = ag_ (fun x => P x ∨ x = x0) a := by
  have hc : ∀ x, (P x ∧ su_ a x) ↔ ((P x ∨ x = x0) ∧ su_ a x) := fun x => ⟨fun z => ⟨.inl z.1, z.2⟩, fun z => ⟨z.1.resolve_right (fun e => hs (by rw [← e]; exact z.2)), z.2⟩⟩
  refine Prod.ext (funext fun f => ?_) (funext fun k => ?_)
  · by_cases c1 : f = 41
    · rw [c1, fs_s]; exact ag_up h38
    · rw [fs_n c1]
      by_cases c2 : f = 38
      · rw [c2]
        funext x
        by_cases d : P x ∧ su_ a x
        · rw [ag_38y d.1 d.2, ag_38y (.inl d.1) d.2]
        · rw [ag_38n d, ag_38n (fun z => d ((hc x).2 z))]
      · rw [ag_o c1 c2, ag_o c1 c2]
  · show (a.2 k).filter _ = (a.2 k).filter _
    refine List.filter_congr (fun x _ => ?_)
    have e : (¬ (P x ∧ su_ a x)) = (¬ ((P x ∨ x = x0) ∧ su_ a x)) := propext (not_congr (hc x))
    by_cases d : ¬ (P x ∧ su_ a x)
    · rw [@decide_eq_true _ (Classical.propDecidable _) d, @decide_eq_true _ (Classical.propDecidable _) (e ▸ d)]
    · rw [@decide_eq_false _ (Classical.propDecidable _) d, @decide_eq_false _ (Classical.propDecidable _) (fun z => d (e ▸ z))]
theorem ag_row {P : Nat → Prop} {a : ra_T} {x0 k : Nat} (hs : su_ a x0) : ((ag_ P a).2 k).filter (fun z => decide (¬ z = x0)) = (ag_ (fun x => P x ∨ x = x0) a).2 k := by
  show ((a.2 k).filter _).filter _ = (a.2 k).filter _
  rw [List.filter_filter]
  refine List.filter_congr (fun x _ => ?_)
  by_cases c : x = x0
  · rw [decide_eq_false (fun z => z c), Bool.false_and]
    exact (@decide_eq_false _ (Classical.propDecidable _) (fun z => z ⟨.inr c, by rw [c]; exact hs⟩)).symm
  · rw [decide_eq_true c, Bool.true_and]
    by_cases d : P x ∧ su_ a x
    · rw [@decide_eq_false _ (Classical.propDecidable _) (fun z => z d), @decide_eq_false _ (Classical.propDecidable _) (fun z => z ⟨.inl d.1, d.2⟩)]
    · rw [@decide_eq_true _ (Classical.propDecidable _) d, @decide_eq_true _ (Classical.propDecidable _) (fun z => d ⟨z.1.resolve_right c, z.2⟩)]
theorem ag_sink {P : Nat → Prop} {a : ra_T} {x0 k0 : Nat} (hs : su_ a x0) (hk : ∀ k, x0 ∈ a.2 k → k = k0) : fs_ (a_drop (fs_ (ag_ P a) 41 x0 (a.1 41 x0 + 1)) x0 k0) 38 x0 5 = ag_ (fun x => P x ∨ x = x0) a := by
  refine Prod.ext (funext fun f => ?_) (funext fun k => ?_)
  · by_cases c2 : f = 38
    · rw [c2, fs_s]
      show upd ((ag_ P a).1 38) x0 5 = _
      funext x
      by_cases c : x = x0
      · rw [c, w_updS, ag_38y (.inr rfl) hs]
      · rw [w_updN c]
        by_cases d : P x ∧ su_ a x
        · rw [ag_38y d.1 d.2, ag_38y (.inl d.1) d.2]
        · rw [ag_38n d, ag_38n (fun z => d ⟨z.1.resolve_right c, z.2⟩)]
    · rw [fs_n c2]
      show (fs_ (ag_ P a) 41 x0 (a.1 41 x0 + 1)).1 f = _
      by_cases c1 : f = 41
      · rw [c1, fs_s]; exact ag_up hs.1
      · rw [fs_n c1, ag_o c1 c2, ag_o c1 c2]
  · show (if k = k0 then ((ag_ P a).2 k0).filter (fun z => decide (¬ z = x0)) else (ag_ P a).2 k) = _
    by_cases c : k = k0
    · rw [if_pos c, ag_row hs, c]
    · rw [if_neg c, ← ag_row hs]
      refine (fil_non (fun z => c (hk k ?_))).symm
      exact (ag_mem.1 z).1
noncomputable def a_age (a : ra_T) : ra_T := ag_ (fun _ => True) a
theorem vr_age {nr nl : Nat} {a : ra_T} {Q : km_S → Prop} {μ : km_S} (h10 : nr ≤ 10) (l4 : nl ≤ 400) (A : ao_ nr nl a) (S : rsz_ a) (hn : (km_i μ 4).toInt = (nl : Int)) (hz : ∀ x, nl ≤ x → ¬ a.1 38 x = 1) (h : rA_ a μ) (kk : ∀ u, rA_ (a_age a) u → (∀ j, km_i u j = km_i μ j) → Q u) : vX12_older μ Q := by
  obtain ⟨A1, A2, A3, A4, A5, A6⟩ := A
  have loop : ∀ (j x : Nat) (i : Int32) (u : km_S), i.toInt = (x : Int) → x ≤ nl → rA_ (ag_ (fun y => y < x) a) u → (∀ j, km_i u j = km_i μ j) → vX12_older_2 Q j i u := by
    intro j
    induction j with
    | zero => intro _ _ _ _ _ _ _; exact trivial
    | succ j ih =>
      intro x i u hi hx hu g
      have e36 : km_a u 36 = a.1 36 := by rw [hu.1 36 (by decide)]; exact ag_o (by decide) (by decide)
      have x38 : (ag_ (fun y => y < x) a).1 38 x = a.1 38 x := ag_38n (fun z => by have := z.1; omega)
      have x41 : (ag_ (fun y => y < x) a).1 41 x = a.1 41 x := ag_41n (fun z => by have := z.1; omega)
      have u41 : km_a u 41 x = a.1 41 x := by rw [hu.1 41 (by decide)]; exact x41
      have u38 : km_a u 38 x = a.1 38 x := by rw [hu.1 38 (by decide)]; exact x38
      have nxt : ∀ (v : km_S) (b : ra_T), b = ag_ (fun y => y < x + 1) a → rA_ b v → (∀ j, km_i v j = km_i μ j) → x < nl → vX12_older_66 (vX12_older_2 Q j) Q i v := by
        intro v b eb hb gv hlt
        subst eb
        unfold vX12_older_66
        intro v1 e1
        exact ih (x + 1) v1 v (by rw [e1]; exact ki_addN hi ki_z1 (by omega)) hlt hb gv
      have ec : ∀ P : Nat → Prop, (∀ y, P y ↔ (y < x ∨ y = x)) → ag_ P a = ag_ (fun y => y < x + 1) a := fun P hP => ag_c (fun y _ => (hP y).trans ⟨fun z => by omega, fun z => by omega⟩)
      unfold vX12_older_2
      rw [ki_le, g 4, hn, hi]
      refine ⟨fun q => ?_, fun q _ => ?_⟩
      · have e : x = nl := by omega
        refine kk u ?_ g
        unfold a_age
        rw [ag_c (P' := fun y => y < x) (fun y hy => ⟨fun _ => by
          by_cases z : y < x
          · exact z
          · exact absurd hy (hz y (by omega)), fun _ => trivial⟩)]
        exact hu
      · have hlt : x < nl := by omega
        rw [ki_toN hi, u38, u41]
        refine ⟨fun d _ _ => ?_, fun d => nxt u _ ?_ hu g hlt⟩
        · rintro μ7 rfl
          have h7 := rA_fs (i := x) (v := a.1 41 x + 1) hu (f := 41) (by decide)
          have v36 : km_a (km_sa u 41 x (a.1 41 x + 1)) 36 x = a.1 36 x := by
            show km_a u 36 x = _
            rw [e36]
          have v41 : km_a (km_sa u 41 x (a.1 41 x + 1)) 41 x = a.1 41 x + 1 := by
            show upd (u.2.1 41) x (a.1 41 x + 1) x = _
            exact w_updS
          rw [v36, v41]
          intro _ _
          refine ⟨fun sk => ?_, fun sk => nxt _ _ ?_ h7 g hlt⟩
          · have hs : su_ a x := ⟨d, sk⟩
            obtain ⟨r, c, r1, c1, m1⟩ := A6 x hlt d
            obtain ⟨_, y2, y3⟩ := (A4 r c r1 c1).2 x m1
            have c12 : c < 12 := by have := (A1 r r1).1; omega
            have S1 : ∀ q, q < 120 → ((fs_ (ag_ (fun y => y < x) a) 41 x (a.1 41 x + 1)).2 q).length ≤ 20 := by
              intro q hq
              show ((a.2 q).filter _).length ≤ 20
              exact Nat.le_trans (List.length_filter_le _ _) (S.1 q hq)
            have f39 : (fs_ (ag_ (fun y => y < x) a) 41 x (a.1 41 x + 1)).1 39 x = a.1 39 x := by
              rw [fs_n (by decide), ag_o (by decide) (by decide)]
            have f40 : (fs_ (ag_ (fun y => y < x) a) 41 x (a.1 41 x + 1)).1 40 x = a.1 40 x := by
              rw [fs_n (by decide), ag_o (by decide) (by decide)]
            refine vr_lift h7 hi (by rw [f39]; exact y2) (by rw [f40]; exact y3) (by omega) c12 S1 (fun v hv lv => ?_)
            rintro _ μ13 rfl
            have h13 := rA_fs (i := x) (v := 5) hv (f := 38) (by decide)
            refine nxt _ _ ?_ h13 (fun j => ?_) hlt
            · rw [ag_sink hs (fun k hk => ?_)]
              · exact ec _ (fun y => Iff.rfl)
              · rcases (A2 k x hk).2 with ⟨r', c', z1, z2, z3⟩ | ⟨r', z1, z2⟩
                · rw [z3] at hk
                  obtain ⟨_, w2, w3⟩ := (A4 r' c' z1 z2).2 x hk
                  omega
                · rw [z2] at hk
                  have := ((A5 r' z1).2 x hk).1
                  rw [d] at this
                  exact absurd this (by decide)
            · show v.1 j = _
              rw [lv.1]
              exact g j
          · rw [ag_stay d (fun z => sk z.2)]
            exact ec _ (fun y => Iff.rfl)
        · refine ag_c (fun y hy => ⟨fun z => by omega, fun z => ?_⟩)
          by_cases e : y = x
          · rw [e] at hy; exact absurd hy d
          · omega
  unfold vX12_older
  intro j
  refine loop j 0 0 μ (by decide) (Nat.zero_le _) ?_ (fun _ => rfl)
  rw [ag_0 (fun x => Nat.not_lt_zero x)]
  exact h
end
section
/-! the class: each log afloat is an hour older -/
def qt_ (a b : ra_T) : Prop := ∀ f, f ∈ [13, 14, 15, 16, 18, 19, 21, 22, 23, 27, 28, 33, 34] → b.1 f = a.1 f
theorem qt_ln {a b : ra_T} (h : qt_ a b) (r : Nat) : ln_ b r = ln_ a r := by
  unfold ln_
  rw [h 14 (by decide)]
theorem qt_vk {a b : ra_T} {nr k : Nat} (h : qt_ a b) : vk_ nr b k ↔ vk_ nr a k := by
  unfold vk_
  have e := fun r => qt_ln h r
  simp only [e, h 22 (by decide)]
theorem qt_vk2 {a b : ra_T} {nr k : Nat} (h : qt_ a b) : vk2_ nr b k ↔ vk2_ nr a k := by
  unfold vk2_
  have e := fun r => qt_ln h r
  simp only [e]
theorem qt_ag {P : Nat → Prop} {a : ra_T} : qt_ a (ag_ P a) := fun f hf => ag_o (by intro e; rw [e] at hf; exact absurd hf (by decide)) (by intro e; rw [e] at hf; exact absurd hf (by decide))
section
variable {T : Nat → Nat → Nat} {N : Nat → Nat} {g κ : Nat → Nat} {st na nr nl m : Nat} {a b : ra_T} {day : Nat → Int32} {RL : Nat → List (Bool × List Int32)} {s : sz_T} {B n : Nat}
theorem q0_qt (h : q0_ T N g κ nr nl a) (k : qt_ a b) : q0_ T N g κ nr nl b := by
  refine ⟨fun x hx => h.1 x ((qt_vk k).1 hx), fun r c h1 h2 => h.2.1 r c h1 (by rw [← qt_ln k]; exact h2), h.2.2⟩
theorem q1_qt {σ : kx_S} (h : q1_ T (g 1) nr a σ) (k : qt_ a b) : q1_ T (g 1) nr b σ := by
  unfold q1_ at h ⊢
  simp only [qt_ln k, k 16 (by decide), k 21 (by decide), k 18 (by decide), k 19 (by decide), k 23 (by decide), k 13 (by decide), k 22 (by decide), k 27 (by decide), k 28 (by decide)]
  exact h
theorem q2_qt {σ : kx_S} (h : q2_ T nr a σ) (k : qt_ a b) : q2_ T nr b σ := by
  unfold q2_ at h ⊢
  simp only [qt_ln k, k 15 (by decide), k 33 (by decide), k 34 (by decide)]
  exact h
theorem qa_gen {W : List Nat} {σ τ : kx_S} (H : qa_ T N g κ st na nr nl m day RL s B n a σ) (k : qt_ a b) (J : yJ_ s g κ B n τ) (F : hf_ W g κ st na σ τ) (hW : ∀ f ∈ W, f ∉ [160, 162, 165, 169, 170, 171, 34, 35, 48, 50, 51, 96]) (h3 : q3_ T nr b τ) (h4 : q4_ T (g 2) nl b τ) : qa_ T N g κ st na nr nl m day RL s B n b τ := by
  obtain ⟨J0, a0, a1, a2, a3, a4, a7, aj⟩ := H
  have kc : ∀ r, r < nr → κ (T 21 r) = 3 := fun r hr => (a0.2.2.1 r hr).1
  refine ⟨J, q0_qt a0 k, q1_qt (q1_hf a1 F (yg1 J0).2.1 (yg1 J0).2.2 kc (fun f hf q => hW f hf ?_)) k, q2_qt (q2_hf a2 a1 F kc (fun f hf q => hW f hf ?_)) k, h3, h4, q7_hf a7 F (yg3 J0).2.1 (yg3 J0).2.2 (fun q => hW 96 q (by decide)), qj_hf aj F⟩
  · simp at q ⊢; omega
  · simp at q ⊢; omega
abbrev ag_W : List Nat := [132, 135]
theorem vq_age12 {D : Nat → Prop} {r c : Nat} {Q : kx_S → Prop} {σ : kx_S} (h10 : nr ≤ 10) (A : ao_ nr nl a) (hr : r < nr) (hc : c < ln_ a r) (hD : ∀ y, y ∈ a.2 (12 * r + c) → ¬ D y) : ∀ (j : Nat) (P R : List Nat) (l1 : Int32) (τ : kx_S), a.2 (12 * r + c) = P ++ R → l1.toInt = (P.length : Int) - 1 → qa_ T N g κ st na nr nl m day RL s B n (ag_ (fun y => D y ∨ y ∈ R) a) τ → hf_ ag_W g κ st na σ τ → (∀ v, qa_ T N g κ st na nr nl m day RL s B n (ag_ (fun y => D y ∨ y ∈ a.2 (12 * r + c)) a) v → hf_ ag_W g κ st na σ v → Q v) → vX1_ageLogs_12 Q j (T 3 (12 * r + c)) l1 τ := by
  obtain ⟨A1, A2, A3, A4, A5, A6⟩ := A
  have c12 : c < 12 := by have := (A1 r hr).1; omega
  have hcap := (A4 r c hr hc).1
  have hcar := (A1 r hr).2.2.1.2
  intro j
  induction j with
  | zero => intro _ _ _ _ _ _ _ _ _; exact trivial
  | succ j ih =>
    intro P R l1 τ hL hl H F kk
    unfold vX1_ageLogs_12
    rw [ki_lt, ki_z0, hl]
    rcases List.eq_nil_or_concat P with hP | ⟨P', x, hP⟩
    · rw [hP] at hL hl ⊢
      rw [List.nil_append] at hL
      rw [hL] at kk
      exact ⟨fun _ => kk τ H F, fun q => absurd (by simp) q⟩
    · rw [List.concat_eq_append] at hP
      rw [hP] at hL
      have hPl : P.length = P'.length + 1 := by rw [hP, List.length_append]; rfl
      have hlen : (a.2 (12 * r + c)).length = P'.length + 1 + R.length := by rw [hL, List.length_append, List.length_append]; rfl
      have hL2 : a.2 (12 * r + c) = P' ++ x :: R := by rw [hL, List.append_assoc]; rfl
      refine ⟨fun q => absurd q (by omega), fun _ _ a4 e4 _ => ?_⟩
      have hl' : l1.toInt = (P'.length : Int) := by omega
      have HH := H
      obtain ⟨J, h0, h1, h2, h3, h4, h7, hj⟩ := HH
      have kt := qt_ag (P := fun y => D y ∨ y ∈ R) (a := a)
      have hcb : c < ln_ (ag_ (fun y => D y ∨ y ∈ R) a) r := by rw [qt_ln kt]; exact hc
      obtain ⟨_, _, c4, _⟩ := h2 r hr c hcb
      obtain rfl := Option.some.inj (c4.symm.trans e4)
      have hk := vk_cell (nr := nr) hr hcb
      obtain ⟨d1, d2, d3⟩ := h3 _ hk
      obtain ⟨t1, t2, t3⟩ := h0.1 _ hk
      have hxm : x ∈ a.2 (12 * r + c) := by rw [hL2]; exact List.mem_append.2 (.inr (List.mem_cons_self))
      obtain ⟨x38, x39, x40⟩ := (A4 r c hr hc).2 x hxm
      have hxl := (A2 _ x hxm).1
      have nd := A3 (12 * r + c)
      rw [hL2, List.nodup_append] at nd
      obtain ⟨nd1, nd2, nd3⟩ := nd
      rw [List.nodup_cons] at nd2
      have hxR : ¬ (D x ∨ x ∈ R) := fun z => z.elim (hD x hxm) nd2.1
      -- the row as it stands
      have row : (ag_ (fun y => D y ∨ y ∈ R) a).2 (12 * r + c) = P' ++ x :: (R.filter (fun y => @decide (¬ ((D y ∨ y ∈ R) ∧ su_ a y)) (Classical.propDecidable _))) := by
        have hp : (fun y => @decide (¬ ((D y ∨ y ∈ R) ∧ su_ a y)) (Classical.propDecidable _)) x = true := @decide_eq_true _ (Classical.propDecidable _) (fun (z : (D x ∨ x ∈ R) ∧ su_ a x) => hxR z.1)
        show (a.2 (12 * r + c)).filter (fun y => @decide (¬ ((D y ∨ y ∈ R) ∧ su_ a y)) (Classical.propDecidable _)) = _
        have flt : ∀ (p : Nat → Bool), p x = true → (∀ y ∈ P', p y = true) → (P' ++ x :: R).filter p = P' ++ x :: R.filter p := by
          intro p hp1 hp2
          rw [List.filter_append, List.filter_cons_of_pos hp1, List.filter_eq_self.2 hp2]
        rw [hL2]
        refine flt _ hp (fun y hy => ?_)
        refine @decide_eq_true _ (Classical.propDecidable _) (fun z => ?_)
        rcases z.1 with w | w
        · exact hD y (by rw [hL2]; exact List.mem_append.2 (.inl hy)) w
        · exact nd3 y hy y (List.mem_cons_of_mem x w) rfl
      have hxe : xe τ (T 1 (12 * r + c)) P'.length = some (T 8 x) := d3 P'.length x (by rw [row, List.getElem?_append_right (Nat.le_refl _), Nat.sub_self]; rfl)
      refine vy_get (fun _ _ => ?_)
      rw [ki_toN hl', hxe]
      intro a9 e9 _
      obtain rfl := Option.some.inj e9
      obtain ⟨⟨l1', l2'⟩, _, ⟨_, l130, _⟩, _, _, _, l135, _⟩ := h4.2 x hxl
      have b41 : (ag_ (fun y => D y ∨ y ∈ R) a).1 41 x = a.1 41 x := ag_41n (fun z => hxR z.1)
      have e135 : xi τ 135 (T 8 x) = a.1 41 x := l135.trans b41
      have e130 : xi τ 130 (T 8 x) = a.1 36 x := l130.trans (by rw [ag_o (by decide) (by decide)])
      rw [e135]
      rintro σ12 rfl
      have y135 : xi (xsi τ 135 (T 8 x) (a.1 41 x + 1)) 135 (T 8 x) = a.1 41 x + 1 := va_up_self _ _ _
      have y130 : xi (xsi τ 135 (T 8 x) (a.1 41 x + 1)) 130 (T 8 x) = a.1 36 x := e130
      rw [y135, y130]
      have hN := h0.2.2.2
      have J1 : yJ_ s g κ B n (xsi τ 135 (T 8 x) (a.1 41 x + 1)) := yI_si (by decide) J
      have q41 := q4_135 (v := a.1 41 x + 1) h4 hN hxl
      have F1 : hf_ ag_W g κ st na τ (xsi τ 135 (T 8 x) (a.1 41 x + 1)) := hf_si hf_refl (by decide) (by decide)
      have dec : ∀ v : Int32, v = l1 + (-1) → v.toInt = (P'.length : Int) - 1 := by
        intro v e
        rw [e, ki_add (by rw [hl', ki_zm]; omega) (by rw [hl', ki_zm]; omega), hl', ki_zm]
        omega
      have ec : ag_ (fun y => (D y ∨ y ∈ R) ∨ y = x) a = ag_ (fun y => D y ∨ y ∈ x :: R) a := ag_c (fun y _ => by
        constructor
        · rintro ((z | z) | z)
          · exact .inl z
          · exact .inr (List.mem_cons_of_mem x z)
          · exact .inr (by rw [z]; exact List.mem_cons_self)
        · rintro (z | z)
          · exact .inl (.inl z)
          · rcases List.mem_cons.1 z with w | w
            · exact .inr w
            · exact .inl (.inr w))
      refine ⟨fun sk => ?_, fun sk => ?_⟩
      · have ns : ¬ su_ a x := fun z => by have := z.2; rw [ki_le] at this; rw [ki_lt] at sk; omega
        unfold vX1_ageLogs_70
        intro v1 e1
        refine ih P' (x :: R) v1 _ hL2 (dec v1 e1) ?_ (hf_trans F F1) kk
        rw [← ec, ← ag_stay x38 ns]
        rw [← ag_stay x38 ns] at ec
        refine qa_gen H (fun f hf => fs_n (by intro e; rw [e] at hf; exact absurd hf (by decide))) J1 F1 (by decide) h3 q41
      · have hs : su_ a x := ⟨x38, by rw [ki_le]; rw [ki_lt] at sk; omega⟩
        rintro σ15 rfl
        have J2 : yJ_ s g κ B n (xsi (xsi τ 135 (T 8 x) (a.1 41 x + 1)) 132 (T 8 x) 5) := yI_si (by decide) J1
        have F2 : hf_ ag_W g κ st na τ (xsi (xsi τ 135 (T 8 x) (a.1 41 x + 1)) 132 (T 8 x) 5) := hf_si F1 (by decide) (by decide)
        have q42 := q4_132 (v := 5) q41 hN hxl
        intro _ a18 e18 _
        have e18 : xr τ 49 (T 3 (12 * r + c)) = some a18 := e18
        obtain rfl := Option.some.inj (c4.symm.trans e18)
        have hrl : ((ag_ (fun y => D y ∨ y ∈ R) a).2 (12 * r + c)).length ≤ 400 := by
          show ((a.2 (12 * r + c)).filter _).length ≤ 400
          exact Nat.le_trans (List.length_filter_le _ _) (by omega)
        have hpl : P'.length < ((ag_ (fun y => D y ∨ y ∈ R) a).2 (12 * r + c)).length := by
          rw [row, List.length_append, List.length_cons]
          omega
        refine vy_remlog J2 (l := T 1 (12 * r + c)) d1 t1 t2 hl' d2 hpl (fun q τ3 J3 B1 B2 B3 X3 => ?_)
        have q33 := q3_rem (N := N) (a := fs_ (fs_ (ag_ (fun y => D y ∨ y ∈ R) a) 41 x (a.1 41 x + 1)) 38 x 5) (σ := xsi (xsi τ 135 (T 8 x) (a.1 41 x + 1)) 132 (T 8 x) 5) h3 hk (fun k hk' => (h0.1 k hk').2.2) hrl row B1 B2 B3
        have F3 : hf_ ag_W g κ st na τ τ3 := hf_rem F2 B1 X3 t1 t2
        have q43 := q4_hf (W := []) (κ := κ) (st := st) (na := na) q42 (hf_rem hf_refl B1 X3 t1 t2) (yg2 J2).2.1 (fun f hf => absurd hf (List.not_mem_nil))
        unfold vX1_ageLogs_70
        intro v1 e1
        refine ih P' (x :: R) v1 τ3 hL2 (dec v1 e1) ?_ (hf_trans F F3) kk
        have hk0 : ∀ k, x ∈ a.2 k → k = 12 * r + c := by
          intro k hk'
          rcases (A2 k x hk').2 with ⟨r', c', z1, z2, z3⟩ | ⟨r', z1, z2⟩
          · rw [z3] at hk'
            obtain ⟨_, w2, w3⟩ := (A4 r' c' z1 z2).2 x hk'
            omega
          · rw [z2] at hk'
            have := ((A5 r' z1).2 x hk').1
            rw [x38] at this
            exact absurd this (by decide)
        have ef : fs_ (a_drop (fs_ (ag_ (fun y => D y ∨ y ∈ R) a) 41 x (a.1 41 x + 1)) x (12 * r + c)) 38 x 5 = ks_ (fs_ (fs_ (ag_ (fun y => D y ∨ y ∈ R) a) 41 x (a.1 41 x + 1)) 38 x 5) (12 * r + c) (P' ++ R.filter (fun y => @decide (¬ ((D y ∨ y ∈ R) ∧ su_ a y)) (Classical.propDecidable _))) := by
          have nd' : ((ag_ (fun y => D y ∨ y ∈ R) a).2 (12 * r + c)).Nodup := (A3 _).filter _
          have er : (fs_ (ag_ (fun y => D y ∨ y ∈ R) a) 41 x (a.1 41 x + 1)).2 (12 * r + c) = P' ++ x :: (R.filter (fun y => @decide (¬ ((D y ∨ y ∈ R) ∧ su_ a y)) (Classical.propDecidable _))) := row
          unfold a_drop
          rw [er, fil_one (by rw [← row]; exact nd')]
          rfl
        rw [← ec, ← ag_sink hs hk0, ef]
        refine qa_gen H (fun f hf => ?_) J3 F3 (by decide) q33 q43
        show (fs_ (fs_ (ag_ (fun y => D y ∨ y ∈ R) a) 41 x (a.1 41 x + 1)) 38 x 5).1 f = _
        rw [fs_n (by intro e; rw [e] at hf; exact absurd hf (by decide)), fs_n (by intro e; rw [e] at hf; exact absurd hf (by decide))]
/-- the logs in the cells ahead of a place -/
def dl_ (nr : Nat) (a : ra_T) (r c y : Nat) : Prop := ∃ r' c', r' < nr ∧ c' < ln_ a r' ∧ y ∈ a.2 (12 * r' + c') ∧ bf_ r c r' c'
theorem vq_age {Q : kx_S → Prop} {σ : kx_S} (h10 : nr ≤ 10) (A : ao_ nr nl a) (hz : ∀ x, nl ≤ x → ¬ a.1 38 x = 1) (H0 : qa_ T N g κ st na nr nl m day RL s B n a σ) (kk : ∀ τ, qa_ T N g κ st na nr nl m day RL s B n (a_age a) τ → hf_ ag_W g κ st na σ τ → Q τ) : vX11_ageLogs (g 0) σ Q := by
  have A' := A
  obtain ⟨A1, A2, A3, A4, A5, A6⟩ := A'
  have loop2 : ∀ (r : Nat) (ri : Int32) (K : Nat → Int32 → kx_S → Prop), r < nr → (∀ v, qa_ T N g κ st na nr nl m day RL s B n (ag_ (dl_ nr a (r + 1) 0) a) v → hf_ ag_W g κ st na σ v → K (g 0) ri v) → ∀ (j c : Nat) (l3 : Int32) (τ : kx_S), l3.toInt = (c : Int) → c ≤ ln_ a r → qa_ T N g κ st na nr nl m day RL s B n (ag_ (dl_ nr a r c) a) τ → hf_ ag_W g κ st na σ τ → vX11_ageLogs_31 K Q j (g 0) ri (T 10 r) l3 τ := by
    intro r ri K hr kq j
    induction j with
    | zero => intro _ _ _ _ _ _ _; exact trivial
    | succ j ih =>
      intro c l3 τ h3' hc H F
      have kt := qt_ag (P := dl_ nr a r c) (a := a)
      have HH := H
      obtain ⟨J, h0, h1, h2, h3, h4, h7, hj⟩ := HH
      obtain ⟨_, _, _, _, _, b1, b2, b3, b4, b5⟩ := h1.2 r hr
      rw [qt_ln kt] at b3 b4
      unfold vX11_ageLogs_31
      intro _ a3 e3 _
      obtain rfl := Option.some.inj (b1.symm.trans e3)
      unfold vJx4a65c_size_8abf5
      intro _
      rw [ki_le, b3, h3']
      refine ⟨fun q => ?_, fun q _ => ?_⟩
      · have e : c = ln_ a r := by omega
        refine kq τ ?_ F
        rw [ag_c (P' := dl_ nr a r c) (fun y _ => ⟨?_, ?_⟩)]
        · exact H
        · rintro ⟨r', c', z1, z2, z3, z4⟩
          refine ⟨r', c', z1, z2, z3, ?_⟩
          rcases z4 with w | w
          · by_cases d : r' = r
            · exact .inr ⟨d, by rw [d] at z2; omega⟩
            · exact .inl (by omega)
          · omega
        · rintro ⟨r', c', z1, z2, z3, z4⟩
          exact ⟨r', c', z1, z2, z3, .inl (by rcases z4 with w | w <;> omega)⟩
      · have hlt : c < ln_ a r := by omega
        have hcb : c < ln_ (ag_ (dl_ nr a r c) a) r := by rw [qt_ln kt]; exact hlt
        intro a10 e10 _
        obtain rfl := Option.some.inj (b1.symm.trans e10)
        refine vy_get (fun _ _ => ?_)
        obtain ⟨⟨c1, c2⟩, c3, c4, c5, c6⟩ := h2 r hr c hcb
        obtain ⟨d1, d2, d3⟩ := h3 _ (vk_cell hr hcb)
        have hD : ∀ y, y ∈ a.2 (12 * r + c) → ¬ dl_ nr a r c y := by
          rintro y hy ⟨r', c', z1, z2, z3, z4⟩
          obtain ⟨_, w2, w3⟩ := (A4 r' c' z1 z2).2 y z3
          obtain ⟨_, v2, v3⟩ := (A4 r c hr hlt).2 y hy
          rcases z4 with w | w <;> omega
        have rowe : (ag_ (dl_ nr a r c) a).2 (12 * r + c) = a.2 (12 * r + c) := by
          show (a.2 (12 * r + c)).filter _ = _
          rw [List.filter_eq_self]
          intro y hy
          exact @decide_eq_true _ (Classical.propDecidable _) (fun z => hD y hy z.1)
        rw [ki_toN h3', c1]
        intro a15 e15 _
        obtain rfl := Option.some.inj e15
        unfold vX1_ageLogs
        intro _ a24 e24 _
        obtain rfl := Option.some.inj (c4.symm.trans e24)
        unfold vJx4a65c_size_8abf5
        rintro _ v29 e29 j2
        have hcap := (A4 r c hr hlt).1
        have hcar := (A1 r hr).2.2.1.2
        refine vq_age12 (N := N) (m := m) (day := day) (RL := RL) (s := s) (B := B) (n := n) h10 A hr hlt hD j2 (a.2 (12 * r + c)) [] v29 τ (List.append_nil _).symm ?_ ?_ F (fun v Hv Fv => ?_)
        · rw [rowe] at d2
          rw [e29, ki_sub (by rw [d2, ki_z1]; omega) (by rw [d2, ki_z1]; omega), d2, ki_z1]
        · rw [ag_c (P' := dl_ nr a r c) (fun y _ => ⟨fun z => z.elim id (fun w => absurd w (List.not_mem_nil)), .inl⟩)]
          exact H
        · intro v19 e19
          refine ih (c + 1) v19 v (by rw [e19]; exact ki_addN h3' ki_z1 (by omega)) hlt ?_ Fv
          rw [ag_c (P' := fun y => dl_ nr a r c y ∨ y ∈ a.2 (12 * r + c)) (fun y _ => ⟨?_, ?_⟩)]
          · exact Hv
          · rintro ⟨r', c', z1, z2, z3, z4⟩
            rcases z4 with w | w
            · exact .inl ⟨r', c', z1, z2, z3, .inl w⟩
            · by_cases d : c' = c
              · rw [w.1, d] at z3; exact .inr z3
              · exact .inl ⟨r', c', z1, z2, z3, .inr ⟨w.1, by omega⟩⟩
          · rintro (⟨r', c', z1, z2, z3, z4⟩ | z)
            · exact ⟨r', c', z1, z2, z3, z4.elim .inl (fun w => .inr ⟨w.1, by omega⟩)⟩
            · exact ⟨r, c, hr, hlt, z, .inr ⟨rfl, by omega⟩⟩
  have loop : ∀ (j r : Nat) (i : Int32) (τ : kx_S), i.toInt = (r : Int) → r ≤ nr → qa_ T N g κ st na nr nl m day RL s B n (ag_ (dl_ nr a r 0) a) τ → hf_ ag_W g κ st na σ τ → vX11_ageLogs_2 Q j (g 0) i τ := by
    intro j
    induction j with
    | zero => intro _ _ _ _ _ _ _; exact trivial
    | succ j ih =>
      intro r i τ hi hr H F
      have HH := H
      obtain ⟨J, h0, h1, h2, h3, h4, h7, hj⟩ := HH
      unfold vX11_ageLogs_2
      intro _ a21 e21 _
      obtain rfl := Option.some.inj ((yg1 J).1.symm.trans e21)
      unfold vJx4a65c_size_8abf5
      intro _
      rw [ki_le, h1.1, hi]
      refine ⟨fun q => ?_, fun q _ => ?_⟩
      · have e : r = nr := by omega
        refine kk τ ?_ F
        unfold a_age
        rw [ag_c (P' := dl_ nr a r 0) (fun y hy => ⟨fun _ => ?_, fun _ => trivial⟩)]
        · exact H
        · by_cases hl : y < nl
          · obtain ⟨r', c', z1, z2, z3⟩ := A6 y hl hy
            exact ⟨r', c', z1, z2, z3, .inl (by omega)⟩
          · exact absurd hy (hz y (by omega))
      · have hlt : r < nr := by omega
        intro a28 e28 _
        obtain rfl := Option.some.inj ((yg1 J).1.symm.trans e28)
        refine vy_get (fun _ _ => ?_)
        obtain ⟨⟨b0, b00⟩, _⟩ := h1.2 r hlt
        rw [ki_toN hi, b0]
        intro a33 e33 _
        obtain rfl := Option.some.inj e33
        intro j2
        refine loop2 r i _ hlt (fun v Hv Fv => ?_) j2 0 0 τ (by decide) (Nat.zero_le _) H F
        unfold vX11_ageLogs_66
        intro v1 e1
        exact ih (r + 1) v1 v (by rw [e1]; exact ki_addN hi ki_z1 (by omega)) hlt Hv Fv
  unfold vX11_ageLogs
  intro j
  refine loop j 0 0 σ (by decide) (Nat.zero_le _) ?_ hf_refl
  rw [ag_0 (fun x => ?_)]
  · exact H0
  · rintro ⟨r', c', _, _, _, z4⟩
    rcases z4 with w | w <;> omega
end
end
section
/-! (g) mills -/
def mt_b (a : ra_T) (o x : Nat) : Bool := decide (a.1 35 x = a.1 48 o) && decide (a.1 49 o ≤ a.1 36 x)
theorem mt_T {a : ra_T} {o x : Nat} : mt_b a o x = true ↔ a.1 35 x = a.1 48 o ∧ a.1 49 o ≤ a.1 36 x := by
  unfold mt_b
  rw [Bool.and_eq_true, decide_eq_true_iff, decide_eq_true_iff]
def a_sawn (a : ra_T) (r o x : Nat) : ra_T := fs_ (fs_ (fs_ (fs_ (a_drop a x (120 + r)) 38 x 3) 42 x (a.1 6 0)) 6 0 (a.1 6 0 + a.1 36 x)) 50 o (a.1 50 o - 1)
def a_saw1 (a : ra_T) (r o : Nat) : Option ra_T := if a.1 50 o ≤ 0 then none else ((a.2 (120 + r)).find? (mt_b a o)).map (a_sawn a r o)
def a_saws (r o : Nat) : Nat → ra_T → ra_T × Nat
  | 0, a => (a, 0)
  | l + 1, a => match a_saw1 a r o with
    | none => (a, l + 1)
    | some b => a_saws r o l b
def a_millL (r : Nat) : List Nat → Nat → ra_T → ra_T
  | [], _, a => a
  | o :: L, l, a => a_millL r L (a_saws r o l a).2 (a_saws r o l a).1
/-- a boom's orders, in the order in which they came -/
def od_ (a : ra_T) (r : Nat) : Nat → Nat → List Nat
  | 0, _ => []
  | m + 1, o => if (a.1 47 o).toInt = (r : Int) then o :: od_ a r m (o + 1) else od_ a r m (o + 1)
def a_mill (no : Nat) (a : ra_T) (r : Nat) : ra_T := a_millL r (od_ a r no 0) 3 a
def a_mills (no : Nat) : Nat → Nat → ra_T → ra_T
  | 0, _, a => a
  | m + 1, r, a => a_mills no m (r + 1) (a_mill no a r)
/-- what sawing leaves -/
def qm_ (a b : ra_T) : Prop := (∀ f, f ≠ 38 → f ≠ 42 → f ≠ 6 → f ≠ 50 → b.1 f = a.1 f) ∧ ∀ k, k < 120 → b.2 k = a.2 k
theorem qm_refl {a : ra_T} : qm_ a a := ⟨fun _ _ _ _ _ => rfl, fun _ _ => rfl⟩
theorem qm_trans {a b c : ra_T} (h : qm_ a b) (k : qm_ b c) : qm_ a c := ⟨fun f h1 h2 h3 h4 => (k.1 f h1 h2 h3 h4).trans (h.1 f h1 h2 h3 h4), fun j hj => (k.2 j hj).trans (h.2 j hj)⟩
theorem qm_sawn {a : ra_T} {r o x : Nat} : qm_ a (a_sawn a r o x) := ⟨fun f h1 h2 h3 h4 => (fs_n h4).trans ((fs_n h3).trans ((fs_n h2).trans (fs_n h1))), fun k hk => ks_n (by omega)⟩
theorem qm_saw1 {a b : ra_T} {r o : Nat} (h : a_saw1 a r o = some b) : qm_ a b := by
  unfold a_saw1 at h
  split at h
  · exact absurd h (by simp)
  · cases e : (a.2 (120 + r)).find? (mt_b a o) with
    | none => rw [e] at h; exact absurd h (by simp)
    | some x =>
      rw [e] at h
      have h : some (a_sawn a r o x) = some b := h
      rw [← Option.some.inj h]
      exact qm_sawn
theorem qm_saws {r o : Nat} : ∀ (l : Nat) (a : ra_T), qm_ a (a_saws r o l a).1 ∧ (a_saws r o l a).2 ≤ l := by
  intro l
  induction l with
  | zero => intro a; exact ⟨qm_refl, Nat.le_refl 0⟩
  | succ l ih =>
    intro a
    unfold a_saws
    split
    · exact ⟨qm_refl, Nat.le_refl _⟩
    · next b e => exact ⟨qm_trans (qm_saw1 e) (ih b).1, by have := (ih b).2; omega⟩
theorem qm_millL {r : Nat} : ∀ (L : List Nat) (l : Nat) (a : ra_T), qm_ a (a_millL r L l a) := by
  intro L
  induction L with
  | nil => intro l a; exact qm_refl
  | cons o L ih => intro l a; exact qm_trans (qm_saws l a).1 (ih _ _)
theorem od_qm {a b : ra_T} (h : b.1 47 = a.1 47) {r : Nat} : ∀ m o, od_ b r m o = od_ a r m o := by
  intro m
  induction m with
  | zero => intro o; rfl
  | succ m ih =>
    intro o
    unfold od_
    rw [h, ih]
theorem mt_qm {a b : ra_T} (h : qm_ a b) {o x : Nat} : mt_b b o x = mt_b a o x := by
  unfold mt_b
  rw [h.1 35 (by decide) (by decide) (by decide) (by decide), h.1 48 (by decide) (by decide) (by decide) (by decide), h.1 49 (by decide) (by decide) (by decide) (by decide), h.1 36 (by decide) (by decide) (by decide) (by decide)]
theorem find_skip {P : List Nat} {R : List Nat} {p : Nat → Bool} (h : ∀ y ∈ P, p y = false) : (P ++ R).find? p = R.find? p := by
  induction P with
  | nil => rfl
  | cons y P ih =>
    show (y :: (P ++ R)).find? p = _
    rw [List.find?_cons_of_neg (by rw [h y (List.mem_cons_self)]; decide)]
    exact ih (fun z hz => h z (List.mem_cons_of_mem y hz))
theorem sa_n {u : km_S} {f e i : Nat} {v : Int32} (h : e ≠ f) : km_a (km_sa u f i v) e = km_a u e := by
  show (if e = f then upd (u.2.1 f) i v else u.2.1 e) = u.2.1 e
  exact if_neg h
/-- the heap closes up -/
theorem vr_close {a : ra_T} {u0 : km_S} {r x : Nat} {P R : List Nat} {ri l2 l3 l4 l5 : Int32} {K : Int32 → Int32 → Int32 → Int32 → Int32 → km_S → Prop} {Q : km_S → Prop} (h : rA_ a u0) (hri : ri.toInt = (r : Int)) (r10 : r < 10) (hL : a.2 (120 + r) = P ++ x :: R) (h100 : (a.2 (120 + r)).length ≤ 100)
    (kk : ∀ u, (∀ f, f ≠ 30 → km_a u f = km_a u0 f) → u.1 = u0.1 → (∀ q, (q < 100 * r ∨ 100 * r + 100 ≤ q) → km_a u 30 q = km_a u0 30 q) → (∀ (i y : Nat), (P ++ R)[i]? = some y → (km_a u 30 (100 * r + i)).toInt = (y : Int)) → K ri l2 l3 l4 l5 u) : ∀ (j : Nat) (p : Nat) (l6 : Int32) (u : km_S), l6.toInt = (p : Int) → P.length ≤ p → p + 1 ≤ (a.2 (120 + r)).length → (∀ f, f ≠ 30 → km_a u f = km_a u0 f) → u.1 = u0.1 → (∀ q, (q < 100 * r ∨ 100 * r + 100 ≤ q) → km_a u 30 q = km_a u0 30 q) → (∀ (i y : Nat), i < p → (P ++ R)[i]? = some y → (km_a u 30 (100 * r + i)).toInt = (y : Int)) → (∀ i, p < i → i < 100 → km_a u 30 (100 * r + i) = km_a u0 30 (100 * r + i)) → vX12_mills_119 K Q j ri l2 l3 l4 l5 l6 u := by
  have z100 : (100 : Int32).toInt = ((100 : Nat) : Int) := by decide
  obtain ⟨b1, b2⟩ := h.2.2.1 r r10
  have hlen : (a.2 (120 + r)).length = P.length + (R.length + 1) := by rw [hL, List.length_append, List.length_cons]
  have hR : ∀ (i y : Nat), P.length ≤ i → (P ++ R)[i]? = some y → (km_a u0 30 (100 * r + (i + 1))).toInt = (y : Int) := by
    intro i y hi hy
    refine b2 (i + 1) y ?_
    rw [List.getElem?_append_right hi] at hy
    rw [hL, List.getElem?_append_right (by omega), show i + 1 - P.length = (i - P.length) + 1 by omega, List.getElem?_cons_succ]
    exact hy
  intro j
  induction j with
  | zero => intro _ _ _ _ _ _ _ _ _ _ _; exact trivial
  | succ j ih =>
    intro p l6 u h6 hp hp2 u1 u2 u3 u4 u5
    obtain ⟨w1, ew1, hw1⟩ : ∃ w, w = l6 + 1 ∧ w.toInt = ((p + 1 : Nat) : Int) := ⟨_, rfl, ki_addN h6 ki_z1 (by omega)⟩
    obtain ⟨w2, ew2, hw2⟩ : ∃ w, w = 100 * ri + l6 ∧ w.toInt = ((100 * r + p : Nat) : Int) := ⟨_, rfl, ki_addN (ki_mulN z100 hri (by omega)) h6 (by omega)⟩
    have e29 : (km_a u 29 r).toInt = ((a.2 (120 + r)).length : Int) := by rw [u1 29 (by decide)]; exact b1
    unfold vX12_mills_119
    rw [← ew2, ← ew1, ki_toN hri, ki_le, e29, hw1]
    intro _
    refine ⟨fun q => kk u u1 u2 u3 (fun i y hy => u4 i y ?_ hy), fun q _ _ => ?_⟩
    · have := (List.getElem?_eq_some_iff.1 hy).1
      rw [List.length_append] at this
      omega
    · have e3 : (w2 + 1).toNatClampNeg = 100 * r + (p + 1) := (ki_toN (ki_addN (j := 100 * r + p) (k := 1) hw2 ki_z1 (by omega))).trans (Nat.add_assoc _ _ _)
      rw [e3, ki_toN hw2]
      rintro μ16 rfl v17 e17
      refine ih (p + 1) v17 _ (by rw [e17]; exact hw1) (by omega) (by omega) (fun f hf => ?_) u2 (fun q hq => ?_) (fun i y hi hy => ?_) (fun i h1 h2 => ?_)
      · rw [show km_a (km_sa u 30 (100 * r + p) (km_a u 30 (100 * r + (p + 1)))) f = km_a u f from if_neg hf]
        exact u1 f hf
      · show upd (u.2.1 30) (100 * r + p) _ q = _
        rw [w_updN (by omega)]
        exact u3 q hq
      · show (upd (u.2.1 30) (100 * r + p) (km_a u 30 (100 * r + (p + 1))) (100 * r + i)).toInt = _
        by_cases e : i = p
        · rw [e, w_updS, u5 (p + 1) (by omega) (by omega)]
          rw [e] at hy
          exact hR p y hp hy
        · rw [w_updN (by omega)]
          exact u4 i y (by omega) hy
      · show upd (u.2.1 30) (100 * r + p) _ (100 * r + i) = _
        rw [w_updN (by omega)]
        exact u5 i (by omega) h2
theorem vr_saw19 {x sz : Nat} {xi : Int32} {Q : km_S → Prop} {u0 : km_S} (hx : xi.toInt = (x : Int)) (hs : (km_a u0 36 x).toInt = (sz : Int)) (s9 : sz ≤ 9) (kk : ∀ u, (∀ f, f ≠ 43 → km_a u f = km_a u0 f) → km_i u 6 = km_i u0 6 + km_a u0 36 x → (km_i u 6).toInt = (km_i u0 6).toInt + (sz : Int) → (∀ j, j ≠ 6 → km_i u j = km_i u0 j) → (∀ q : Nat, (q : Int) < (km_i u0 6).toInt → km_a u 43 q = km_a u0 43 q) → (∀ q : Nat, (km_i u0 6).toInt ≤ (q : Int) → (q : Int) < (km_i u0 6).toInt + sz → (km_a u 43 q).toInt = (x : Int)) → Q u) : ∀ (j p : Nat) (l2 : Int32) (u : km_S), l2.toInt = (p : Int) → p ≤ sz → (∀ f, f ≠ 43 → km_a u f = km_a u0 f) → km_i u 6 = km_i u0 6 + l2 → (km_i u 6).toInt = (km_i u0 6).toInt + (p : Int) → (∀ j, j ≠ 6 → km_i u j = km_i u0 j) → (∀ q : Nat, (q : Int) < (km_i u0 6).toInt → km_a u 43 q = km_a u0 43 q) → (∀ q : Nat, (km_i u0 6).toInt ≤ (q : Int) → (q : Int) < (km_i u0 6).toInt + p → (km_a u 43 q).toInt = (x : Int)) → vX12_saw_19 Q j xi l2 u := by
  intro j
  induction j with
  | zero => intro _ _ _ _ _ _ _ _ _ _ _; exact trivial
  | succ j ih =>
    intro p l2 u h2 hp u1 u2 t6 u3 u4 u5
    have e36 : km_a u 36 x = km_a u0 36 x := congrFun (u1 36 (by decide)) x
    unfold vX12_saw_19
    rw [ki_toN hx, e36, ki_le, hs, h2]
    intro _
    refine ⟨fun q => ?_, fun q hv => ?_⟩
    · have e : p = sz := by omega
      have el : l2 = km_a u0 36 x := ki_eq.2 (by rw [h2, hs, e])
      rw [el] at u2
      rw [e] at u5 t6
      exact kk u u1 u2 t6 u3 u4 u5
    · rw [ki_in] at hv
      obtain ⟨bb, hbb⟩ : ∃ bb : Nat, (km_i u 6).toInt = (bb : Int) := ⟨(km_i u 6).toInt.toNat, by omega⟩
      have hlt : bb < 3600 := by have := hv.2; omega
      rw [ki_toN hbb]
      rintro μ4 rfl μ5 rfl v6 e6
      refine ih (p + 1) v6 _ (by rw [e6]; exact ki_addN h2 ki_z1 (by omega)) (by omega) (fun f hf => ?_) ?_ ?_ (fun j hj => ?_) (fun q hq => ?_) (fun q q1 q2 => ?_)
      · show (if f = 43 then _ else u.2.1 f) = _
        rw [if_neg hf]
        exact u1 f hf
      · show upd u.1 6 (km_i u 6 + 1) 6 = _
        rw [w_updS, u2, e6, Int32.add_assoc]
      · show (upd u.1 6 (km_i u 6 + 1) 6).toInt = _
        rw [w_updS, ki_addN (k := 1) hbb ki_z1 (by omega)]
        omega
      · show upd u.1 6 _ j = _
        rw [w_updN hj]
        exact u3 j hj
      · show upd (u.2.1 43) bb xi q = _
        rw [w_updN (by omega)]
        exact u4 q hq
      · show (upd (u.2.1 43) bb xi q).toInt = _
        by_cases e : q = bb
        · rw [e, w_updS]; exact hx
        · rw [w_updN e]
          exact u5 q q1 (by omega)
/-- boards: each is led back -/
def rB_ (nl : Nat) (a : ra_T) (u : km_S) : Prop := (∀ x, x < nl → (1 ≤ (a.1 36 x).toInt ∧ (a.1 36 x).toInt ≤ 9) ∧ (¬ a.1 38 x = 3 → a.1 42 x = -1)) ∧ 0 ≤ (a.1 6 0).toInt ∧ (∀ b : Nat, (b : Int) < (a.1 6 0).toInt → ∃ x, x < nl ∧ ¬ a.1 42 x = -1 ∧ (a.1 42 x).toInt ≤ (b : Int) ∧ (b : Int) < (a.1 42 x).toInt + (a.1 36 x).toInt) ∧ ∀ x, x < nl → ¬ a.1 42 x = -1 → 0 ≤ (a.1 42 x).toInt ∧ (a.1 42 x).toInt + (a.1 36 x).toInt ≤ (a.1 6 0).toInt ∧ ∀ b : Nat, (a.1 42 x).toInt ≤ (b : Int) → (b : Int) < (a.1 42 x).toInt + (a.1 36 x).toInt → (km_a u 43 b).toInt = (x : Int)
/-- a log that is sawn: the river keeps its order -/
theorem ao_sawn {a : ra_T} {r o x nr nl : Nat} (A : ao_ nr nl a) (hr : r < nr) (h10 : nr ≤ 10) (hx : x ∈ a.2 (120 + r)) : ao_ nr nl (a_sawn a r o x) := by
  obtain ⟨A1, A2, A3, A4, A5, A6⟩ := A
  have k := qm_sawn (a := a) (r := r) (o := o) (x := x)
  obtain ⟨x38, x39⟩ := (A5 r hr).2 x hx
  have row : ∀ j, (a_sawn a r o x).2 j = if j = 120 + r then (a.2 (120 + r)).filter (fun z => decide (¬ z = x)) else a.2 j := fun j => rfl
  have fil : ∀ {y : Nat} {L : List Nat}, y ∈ L.filter (fun z => decide (¬ z = x)) ↔ y ∈ L ∧ ¬ y = x := by
    intro y L
    rw [List.mem_filter, decide_eq_true_iff]
  have el : ∀ q, ln_ (a_sawn a r o x) q = ln_ a q := fun q => by
    unfold ln_
    rw [k.1 14 (by decide) (by decide) (by decide) (by decide)]
  have f38 : ∀ y, ¬ y = x → (a_sawn a r o x).1 38 y = a.1 38 y := fun y hy => w_updN hy
  have s38 : (a_sawn a r o x).1 38 x = 3 := w_updS
  have e39 := k.1 39 (by decide) (by decide) (by decide) (by decide)
  have e40 := k.1 40 (by decide) (by decide) (by decide) (by decide)
  refine ⟨fun q hq => ?_, fun j y hy => ?_, fun j => ?_, fun q c hq hc => ⟨?_, fun y hy => ?_⟩, fun q hq => ⟨?_, fun y hy => ?_⟩, fun y hy h38 => ?_⟩
  · rw [el, k.1 15 (by decide) (by decide) (by decide) (by decide), k.1 13 (by decide) (by decide) (by decide) (by decide)]
    exact A1 q hq
  · have : y ∈ a.2 j := by
      rw [row] at hy
      split at hy
      · next e => rw [e]; exact (fil.1 hy).1
      · exact hy
    refine ⟨(A2 j y this).1, ?_⟩
    have z := (A2 j y this).2
    unfold vk2_ at z ⊢
    simp only [el]
    exact z
  · rw [row]
    split
    · exact (A3 _).filter _
    · exact A3 j
  · rw [el] at hc
    have c12 : c < 12 := by have := (A1 q hq).1; omega
    rw [row, if_neg (by omega), k.1 15 (by decide) (by decide) (by decide) (by decide)]
    exact (A4 q c hq hc).1
  · rw [el] at hc
    have c12 : c < 12 := by have := (A1 q hq).1; omega
    rw [row, if_neg (by omega)] at hy
    obtain ⟨y1, y2, y3⟩ := (A4 q c hq hc).2 y hy
    have ne : ¬ y = x := fun e => by rw [e, x38] at y1; exact absurd y1 (by decide)
    rw [f38 y ne, e39, e40]
    exact ⟨y1, y2, y3⟩
  · rw [row]
    split
    · have := List.length_filter_le (fun z => decide (¬ z = x)) (a.2 (120 + r))
      have := (A5 r hr).1
      omega
    · exact (A5 q hq).1
  · rw [row] at hy
    have hh : ¬ y = x ∧ y ∈ a.2 (120 + q) := by
      split at hy
      · next e => obtain ⟨i1, i2⟩ := fil.1 hy; rw [e]; exact ⟨i2, i1⟩
      · next e =>
        refine ⟨fun z => e ?_, hy⟩
        have := ((A5 q hq).2 y hy).2
        rw [z, x39] at this
        omega
    rw [f38 y hh.1, e39]
    exact (A5 q hq).2 y hh.2
  · by_cases e : y = x
    · rw [e, s38] at h38
      exact absurd h38 (by decide)
    · rw [f38 y e] at h38
      obtain ⟨q, c, i1, i2, i3⟩ := A6 y hy h38
      have c12 : c < 12 := by have := (A1 q i1).1; omega
      exact ⟨q, c, i1, by rw [el]; exact i2, by rw [row, if_neg (by omega)]; exact i3⟩
theorem find_none {L : List Nat} {p : Nat → Bool} (h : ∀ y ∈ L, p y = false) : L.find? p = none := by
  rw [List.find?_eq_none]
  intro y hy
  rw [h y hy]
  decide
theorem vr_mill38 {nr nl r o : Nat} {ri oi : Int32} {K : Int32 → Int32 → Int32 → km_S → Prop} {Q : km_S → Prop} {μ : km_S} (h10 : nr ≤ 10) (hr : r < nr) (hri : ri.toInt = (r : Int)) (hoi : oi.toInt = (o : Int)) : ∀ (j l : Nat) (P R : List Nat) (a : ra_T) (l2 l4 : Int32) (u : km_S), l2.toInt = 3 - (l : Int) → l ≤ 3 → l4.toInt = (P.length : Int) → a.2 (120 + r) = P ++ R → (∀ y ∈ P, mt_b a o y = false) → ao_ nr nl a → rsz_ a → rB_ nl a u → rA_ a u → (∀ j, j ≠ 6 → km_i u j = km_i μ j) → (∀ v (l2' : Int32), l2'.toInt = 3 - ((a_saws r o l a).2 : Int) → ao_ nr nl (a_saws r o l a).1 → rsz_ (a_saws r o l a).1 → rB_ nl (a_saws r o l a).1 v → rA_ (a_saws r o l a).1 v → (∀ j, j ≠ 6 → km_i v j = km_i μ j) → K ri l2' oi v) → vX12_mills_38 K Q j ri l2 oi l4 u := by
  have z100 : (100 : Int32).toInt = ((100 : Nat) : Int) := by decide
  have z3 : (3 : Int32).toInt = 3 := by decide
  intro j
  induction j with
  | zero => intro _ _ _ _ _ _ _ _ _ _ _ _ _ _ _ _ _ _; exact trivial
  | succ j ih =>
    intro l P R a l2 l4 u h2 hl h4 hL hP A S Bd h g kk
    obtain ⟨b1, b2⟩ := h.2.2.1 r (by omega)
    have h100 := S.2 r (by omega)
    have hlen : (a.2 (120 + r)).length = P.length + R.length := by rw [hL, List.length_append]
    -- nothing more is sawn
    have stop : (l = 0 ∨ a_saw1 a r o = none) → K ri l2 oi u := by
      intro e
      have es : a_saws r o l a = (a, l) := by
        cases l with
        | zero => rfl
        | succ l =>
          rcases e with e | e
          · omega
          · unfold a_saws
            rw [e]
      rw [es] at kk
      exact kk u l2 h2 A S Bd h g
    unfold vX12_mills_38
    rw [ki_toN hri, ki_toN hoi, ki_le, b1, h4]
    intro _
    refine ⟨fun q => ?_, fun q _ => ?_⟩
    · have hR : R = [] := List.eq_nil_of_length_eq_zero (by omega)
      refine stop (.inr ?_)
      unfold a_saw1
      split
      · rfl
      · rw [hL, hR, List.append_nil, find_none hP]
        rfl
    · cases R with
      | nil => rw [List.length_nil] at hlen; omega
      | cons x R =>
        rw [List.length_cons] at hlen
        have e50 : km_a u 50 o = a.1 50 o := congrFun (h.1 50 (by decide)) o
        rw [e50]
        refine ⟨fun w => stop (.inr (if_pos w)), fun w => ?_⟩
        rw [ki_le, z3, h2]
        refine ⟨fun c => stop (.inl (by omega)), fun c _ => ?_⟩
        obtain ⟨l, rfl⟩ : ∃ q, l = q + 1 := ⟨l - 1, by omega⟩
        obtain ⟨wi, ewi, hwi⟩ : ∃ w, w = 100 * ri + l4 ∧ w.toInt = ((100 * r + P.length : Nat) : Int) := ⟨_, rfl, ki_addN (ki_mulN z100 hri (by omega)) h4 (by omega)⟩
        rw [← ewi, ki_toN hwi]
        have hx : (km_a u 30 (100 * r + P.length)).toInt = (x : Int) := b2 P.length x (by rw [hL, List.getElem?_append_right (Nat.le_refl _), Nat.sub_self]; rfl)
        intro v24 e24
        have h24 : v24.toInt = (x : Int) := by rw [e24]; exact hx
        rw [ki_toN h24, h.1 35 (by decide), h.1 48 (by decide), h.1 49 (by decide), h.1 36 (by decide)]
        have hxm : x ∈ a.2 (120 + r) := by rw [hL]; exact List.mem_append.2 (.inr (List.mem_cons_self))
        have hxl := (A.2.1 _ x hxm).1
        have skip : mt_b a o x = false → vX12_mills_109 (vX12_mills_38 K Q j) Q ri l2 oi l4 u := by
          intro e
          unfold vX12_mills_109
          intro v3 e3
          refine ih (l + 1) (P ++ [x]) R a l2 v3 u h2 hl ?_ (by rw [hL, List.append_assoc]; rfl) (fun y hy => ?_) A S Bd h g kk
          · rw [e3, List.length_append]
            show _ = ((P.length + 1 : Nat) : Int)
            exact ki_addN h4 ki_z1 (by omega)
          · rcases List.mem_append.1 hy with z | z
            · exact hP y z
            · rw [List.mem_singleton.1 z]; exact e
        have mf : ∀ (nC : ¬ (a.1 35 x = a.1 48 o ∧ a.1 49 o ≤ a.1 36 x)), mt_b a o x = false := by
          intro nC
          cases e : mt_b a o x
          · rfl
          · exact absurd (mt_T.1 e) nC
        intro _ _
        refine ⟨fun c1 => skip (mf (fun z => c1 z.1)), fun c1 _ _ => ⟨fun c2 => ?_, fun c2 => skip (mf (fun z => c2 z.2))⟩⟩
        have hm : mt_b a o x = true := mt_T.2 ⟨c1, c2⟩
        have es1 : a_saw1 a r o = some (a_sawn a r o x) := by
          unfold a_saw1
          rw [if_neg w, hL, find_skip hP, List.find?_cons_of_pos hm]
          rfl
        have es : a_saws r o (l + 1) a = a_saws r o l (a_sawn a r o x) := by
          show (match a_saw1 a r o with
            | none => (a, l + 1)
            | some b => a_saws r o l b) = _
          rw [es1]
        rw [es] at kk
        intro j2
        refine vr_close h hri (by omega) hL h100 (fun u1 v1 v2 v3 v4 => ?_) j2 P.length l4 u h4 (Nat.le_refl _) (by omega) (fun _ _ => rfl) rfl (fun _ _ => rfl) (fun i y hi hy => ?_) (fun _ _ _ => rfl)
        · obtain ⟨sz, hsz⟩ : ∃ sz : Nat, (a.1 36 x).toInt = (sz : Int) := ⟨(a.1 36 x).toInt.toNat, by have := (Bd.1 x hxl).1; omega⟩
          have s9 : sz ≤ 9 := by have := (Bd.1 x hxl).1; omega
          have x38 := ((A.2.2.2.2.1 r hr).2 x hxm).1
          have x42 : a.1 42 x = -1 := (Bd.1 x hxl).2 (by rw [x38]; decide)
          have e29 : km_a u1 29 r = km_a u 29 r := congrFun (v1 29 (by decide)) r
          unfold vX12_mills_164
          rw [ki_toN hri, e29]
          rintro _ _ μ6 rfl
          unfold vX12_saw
          rw [ki_toN h24]
          rintro _ μ8 rfl _ μ10 rfl j3
          have i6 : km_i (km_sa (km_sa u1 29 r (km_a u 29 r - 1)) 38 x 3) 6 = a.1 6 0 := by
            show u1.1 6 = _
            rw [v2]
            exact h.2.2.2
          rw [i6]
          have k36 : km_a (km_sa (km_sa (km_sa u1 29 r (km_a u 29 r - 1)) 38 x 3) 42 x (a.1 6 0)) 36 = a.1 36 := by
            show u1.2.1 36 = _
            have : km_a u1 36 = km_a u 36 := v1 36 (by decide)
            exact this.trans (h.1 36 (by decide))
          have j6 : km_i (km_sa (km_sa (km_sa u1 29 r (km_a u 29 r - 1)) 38 x 3) 42 x (a.1 6 0)) 6 = a.1 6 0 := i6
          refine vr_saw19 (sz := sz) h24 (by rw [k36]; exact hsz) s9 (fun v w1 w2 w3 w4 w5 w6 => ?_) j3 0 0 _ (by decide) (Nat.zero_le _) (fun _ _ => rfl) (by rw [Int32.add_zero]) (by simp) (fun _ _ => rfl) (fun _ _ => rfl) (fun q q1 q2 => by omega)
          rw [j6] at w2 w3 w5 w6
          rw [k36] at w2
          have u50 : km_a v 50 o = a.1 50 o := by
            rw [w1 50 (by decide)]
            show u1.2.1 50 o = _
            have : km_a u1 50 = km_a u 50 := v1 50 (by decide)
            exact (congrFun this o).trans e50
          rw [ki_toN hoi, u50]
          rintro _ _ μ10 rfl v11 e11
          have A' := ao_sawn (o := o) A hr h10 hxm
          have rowx : (a_sawn a r o x).2 (120 + r) = P ++ R := by
            show (if 120 + r = 120 + r then (a.2 (120 + r)).filter (fun z => decide (¬ z = x)) else _) = _
            rw [if_pos rfl, hL, fil_one (by rw [← hL]; exact A.2.2.1 _)]
          have row : ∀ k, k ≠ 120 + r → (a_sawn a r o x).2 k = a.2 k := fun k hk => ks_n hk
          have km : ∀ f, f ≠ 43 → f ≠ 42 → f ≠ 38 → f ≠ 29 → f ≠ 30 → f ≠ 50 → km_a (km_sa v 50 o (a.1 50 o - 1)) f = km_a u f := by
            intro f f1 f2 f3 f4 f5 f6
            rw [show km_a (km_sa v 50 o (a.1 50 o - 1)) f = km_a v f from if_neg f6, w1 f f1]
            rw [show km_a (km_sa (km_sa (km_sa u1 29 r (km_a u 29 r - 1)) 38 x 3) 42 x (a.1 6 0)) f = km_a u1 f from (if_neg f2).trans ((if_neg f3).trans (if_neg f4))]
            exact v1 f f5
          refine ih l P R (a_sawn a r o x) v11 l4 _ ?_ (by omega) h4 rowx (fun y hy => by rw [mt_qm qm_sawn]; exact hP y hy) A' ⟨fun k hk => ?_, fun q hq => ?_⟩ ?_ ⟨fun f hf => ?_, fun k hk => ?_, fun q hq => ?_, ?_⟩ (fun i hi => ?_) kk
          · rw [e11, ki_add (by rw [h2, ki_z1]; omega) (by rw [h2, ki_z1]; omega), h2, ki_z1]
            omega
          · rw [row k (by omega)]; exact S.1 k hk
          · by_cases e : q = r
            · rw [e, rowx, List.length_append]; omega
            · rw [row _ (by omega)]; exact S.2 q hq
          · -- boards
            obtain ⟨B1, B2, B3, B4⟩ := Bd
            have a6 : ((a_sawn a r o x).1 6 0).toInt = (a.1 6 0).toInt + (sz : Int) := by
              show (upd (a.1 6) 0 (a.1 6 0 + a.1 36 x) 0).toInt = _
              rw [w_updS, ← w2]
              exact w3
            have a36 : (a_sawn a r o x).1 36 = a.1 36 := rfl
            have a42 : ∀ y, ¬ y = x → (a_sawn a r o x).1 42 y = a.1 42 y := fun y hy => w_updN hy
            have a42x : (a_sawn a r o x).1 42 x = a.1 6 0 := w_updS
            have a38 : ∀ y, ¬ y = x → (a_sawn a r o x).1 38 y = a.1 38 y := fun y hy => w_updN hy
            have a38x : (a_sawn a r o x).1 38 x = 3 := w_updS
            have v43 : km_a (km_sa v 50 o (a.1 50 o - 1)) 43 = km_a v 43 := sa_n (by decide)
            have u43 : ∀ q : Nat, (q : Int) < (a.1 6 0).toInt → km_a v 43 q = km_a u 43 q := by
              intro q hq
              rw [w5 q hq]
              have : km_a u1 43 = km_a u 43 := v1 43 (by decide)
              exact congrFun this q
            refine ⟨fun y hy => ?_, by rw [a6]; omega, fun b hb => ?_, fun y hy hne => ?_⟩
            · rw [a36]
              refine ⟨(B1 y hy).1, fun q => ?_⟩
              by_cases e : y = x
              · rw [e, a38x] at q; exact absurd rfl q
              · rw [a38 y e] at q
                rw [a42 y e]
                exact (B1 y hy).2 q
            · rw [a6] at hb
              by_cases e : (b : Int) < (a.1 6 0).toInt
              · obtain ⟨y, y1, y2, y3, y4⟩ := B3 b e
                have ne : ¬ y = x := fun z => by rw [z, x42] at y2; exact y2 rfl
                exact ⟨y, y1, by rw [a42 y ne]; exact y2, by rw [a42 y ne]; exact y3, by rw [a42 y ne, a36]; exact y4⟩
              · refine ⟨x, hxl, ?_, by rw [a42x]; omega, by rw [a42x, a36, hsz]; omega⟩
                rw [a42x, ki_eq, ki_zm]
                omega
            · by_cases e : y = x
              · subst e
                rw [a42x, a36, a6, hsz]
                refine ⟨B2, by omega, fun b hb1 hb2 => ?_⟩
                rw [v43]
                exact w6 b hb1 hb2
              · rw [a42 y e] at hne ⊢
                obtain ⟨y1, y2, y3⟩ := B4 y hy hne
                rw [a36, a6]
                refine ⟨y1, by omega, fun b hb1 hb2 => ?_⟩
                rw [v43, u43 b (by omega)]
                exact y3 b hb1 hb2
          · by_cases f50 : f = 50
            · rw [f50]
              show upd (v.2.1 50) o (a.1 50 o - 1) = upd (a.1 50) o (a.1 50 o - 1)
              have e : v.2.1 50 = a.1 50 := by
                have z : km_a v 50 = km_a u1 50 := w1 50 (by decide)
                exact z.trans ((v1 50 (by decide)).trans (h.1 50 (by decide)))
              rw [e]
            · by_cases f42 : f = 42
              · rw [f42, show km_a (km_sa v 50 o (a.1 50 o - 1)) 42 = km_a v 42 from sa_n (by decide), w1 42 (by decide)]
                show upd (u1.2.1 42) x (a.1 6 0) = upd (a.1 42) x (a.1 6 0)
                have e : u1.2.1 42 = a.1 42 := by
                  have z : km_a u1 42 = km_a u 42 := v1 42 (by decide)
                  exact z.trans (h.1 42 (by decide))
                rw [e]
              · by_cases f38 : f = 38
                · rw [f38, show km_a (km_sa v 50 o (a.1 50 o - 1)) 38 = km_a v 38 from sa_n (by decide), w1 38 (by decide)]
                  show upd (u1.2.1 38) x 3 = upd (a.1 38) x 3
                  have e : u1.2.1 38 = a.1 38 := by
                    have z : km_a u1 38 = km_a u 38 := v1 38 (by decide)
                    exact z.trans (h.1 38 (by decide))
                  rw [e]
                · rw [km f (by intro e; rw [e] at hf; exact absurd hf (by decide)) f42 f38 (by intro e; rw [e] at hf; exact absurd hf (by decide)) (by intro e; rw [e] at hf; exact absurd hf (by decide)) f50, h.1 f hf]
                  exact (qm_sawn.1 f f38 f42 (by intro e; rw [e] at hf; exact absurd hf (by decide)) f50).symm
          · rw [km 32 (by decide) (by decide) (by decide) (by decide) (by decide) (by decide), km 31 (by decide) (by decide) (by decide) (by decide) (by decide) (by decide), row k (by omega)]
            exact h.2.1 k hk
          · have e30 : km_a (km_sa v 50 o (a.1 50 o - 1)) 30 = km_a u1 30 := by
              rw [show km_a (km_sa v 50 o (a.1 50 o - 1)) 30 = km_a v 30 from sa_n (by decide), w1 30 (by decide)]
              rfl
            have e29' : ∀ q, km_a (km_sa v 50 o (a.1 50 o - 1)) 29 q = upd (km_a u1 29) r (km_a u 29 r - 1) q := by
              intro q
              rw [show km_a (km_sa v 50 o (a.1 50 o - 1)) 29 = km_a v 29 from sa_n (by decide), w1 29 (by decide)]
              rfl
            rw [e30, e29']
            by_cases e : q = r
            · rw [e, rowx, w_updS]
              refine ⟨?_, v4⟩
              rw [ki_sub (by rw [b1, ki_z1]; omega) (by rw [b1, ki_z1]; omega), b1, ki_z1, List.length_append]
              omega
            · rw [w_updN e, row _ (by omega)]
              obtain ⟨p1, p2⟩ := h.2.2.1 q hq
              have e1 : km_a u1 29 q = km_a u 29 q := congrFun (v1 29 (by decide)) q
              refine ⟨by rw [e1]; exact p1, fun i y hy => ?_⟩
              have hlt := (List.getElem?_eq_some_iff.1 hy).1
              have := S.2 q hq
              rw [v3 _ (by omega)]
              exact p2 i y hy
          · show km_i v 6 = upd (a.1 6) 0 (a.1 6 0 + a.1 36 x) 0
            rw [w_updS]
            exact w2
          · show km_i v i = _
            rw [w4 i hi]
            show u1.1 i = _
            rw [v2]
            exact g i hi
        · rw [List.getElem?_append_left hi] at hy
          refine b2 i y ?_
          rw [hL, List.getElem?_append_left hi]
          exact hy
end
section
/-! the reference: all mills -/
theorem a_millL_0 {r : Nat} : ∀ (L : List Nat) (a : ra_T), a_millL r L 0 a = a := by
  intro L
  induction L with
  | nil => intro a; rfl
  | cons o L ih => intro a; exact ih a
theorem vr_mill14 {nr nl no r : Nat} {ri : Int32} {K : Int32 → km_S → Prop} {Q : km_S → Prop} {μ : km_S} (h10 : nr ≤ 10) (n60 : no ≤ 60) (hno : (km_i μ 8).toInt = (no : Int)) (hr : r < nr) (hri : ri.toInt = (r : Int)) : ∀ (j m o l : Nat) (a : ra_T) (l2 l3 : Int32) (u : km_S), l3.toInt = (o : Int) → o + m = no → l2.toInt = 3 - (l : Int) → l ≤ 3 → ao_ nr nl a → rsz_ a → rB_ nl a u → rA_ a u → (∀ j, j ≠ 6 → km_i u j = km_i μ j) → (∀ v, ao_ nr nl (a_millL r (od_ a r m o) l a) → rsz_ (a_millL r (od_ a r m o) l a) → rB_ nl (a_millL r (od_ a r m o) l a) v → rA_ (a_millL r (od_ a r m o) l a) v → (∀ j, j ≠ 6 → km_i v j = km_i μ j) → K ri v) → vX12_mills_14 K Q j ri l2 l3 u := by
  intro j
  induction j with
  | zero => intro _ _ _ _ _ _ _ _ _ _ _ _ _ _ _ _ _; exact trivial
  | succ j ih =>
    intro m o l a l2 l3 u h3 hm h2 hl A S Bd h g kk
    unfold vX12_mills_14
    rw [ki_le, g 8 (by decide), hno, h3]
    refine ⟨fun q => ?_, fun q _ => ?_⟩
    · have : m = 0 := by omega
      subst this
      exact kk u A S Bd h g
    · obtain ⟨m, rfl⟩ : ∃ q, m = q + 1 := ⟨m - 1, by omega⟩
      have nx : ∀ v : Int32, v = l3 + 1 → v.toInt = ((o + 1 : Nat) : Int) := fun v e => by rw [e]; exact ki_addN h3 ki_z1 (by omega)
      rw [ki_toN h3, h.1 47 (by decide), ki_eq, hri]
      refine ⟨fun c j2 => ?_, fun c => ?_⟩
      · have eo : od_ a r (m + 1) o = o :: od_ a r m (o + 1) := if_pos c
        rw [eo] at kk
        refine vr_mill38 h10 hr hri h3 j2 l [] (a.2 (120 + r)) a l2 0 u h2 hl rfl rfl (fun y hy => absurd hy (List.not_mem_nil)) A S Bd h g (fun v l2' hl2 A' S' Bd' h' g' => ?_)
        unfold vX12_mills_196
        intro v2 e2
        have k := (qm_saws (r := r) (o := o) l a).1
        have e47 : od_ (a_saws r o l a).1 r m (o + 1) = od_ a r m (o + 1) := od_qm (k.1 47 (by decide) (by decide) (by decide) (by decide)) m (o + 1)
        refine ih m (o + 1) (a_saws r o l a).2 (a_saws r o l a).1 l2' v2 v (nx v2 e2) (by omega) hl2 (Nat.le_trans (qm_saws l a).2 hl) A' S' Bd' h' g' ?_
        rw [e47]
        exact kk
      · have eo : od_ a r (m + 1) o = od_ a r m (o + 1) := if_neg c
        rw [eo] at kk
        unfold vX12_mills_196
        intro v2 e2
        exact ih m (o + 1) l a l2 v2 u (nx v2 e2) (by omega) h2 hl A S Bd h g kk
theorem vr_mills {nr nl no : Nat} {a : ra_T} {Q : km_S → Prop} {μ : km_S} (h10 : nr ≤ 10) (n60 : no ≤ 60) (hn : (km_i μ 3).toInt = (nr : Int)) (hno : (km_i μ 8).toInt = (no : Int)) (A : ao_ nr nl a) (S : rsz_ a) (Bd : rB_ nl a μ) (h : rA_ a μ) (kk : ∀ v, ao_ nr nl (a_mills no nr 0 a) → rsz_ (a_mills no nr 0 a) → rB_ nl (a_mills no nr 0 a) v → rA_ (a_mills no nr 0 a) v → (∀ j, j ≠ 6 → km_i v j = km_i μ j) → Q v) : vX12_mills μ Q := by
  have loop : ∀ (j k r : Nat) (a : ra_T) (i : Int32) (u : km_S), i.toInt = (r : Int) → r + k = nr → ao_ nr nl a → rsz_ a → rB_ nl a u → rA_ a u → (∀ j, j ≠ 6 → km_i u j = km_i μ j) → (∀ v, ao_ nr nl (a_mills no k r a) → rsz_ (a_mills no k r a) → rB_ nl (a_mills no k r a) v → rA_ (a_mills no k r a) v → (∀ j, j ≠ 6 → km_i v j = km_i μ j) → Q v) → vX12_mills_2 Q j i u := by
    intro j
    induction j with
    | zero => intro _ _ _ _ _ _ _ _ _ _ _ _ _; exact trivial
    | succ j ih =>
      intro k r a i u hi hk A S Bd h g kk
      unfold vX12_mills_2
      rw [ki_le, g 3 (by decide), hn, hi]
      refine ⟨fun q => ?_, fun q j2 => ?_⟩
      · have : k = 0 := by omega
        subst this
        exact kk u A S Bd h g
      · obtain ⟨k, rfl⟩ : ∃ q, k = q + 1 := ⟨k - 1, by omega⟩
        refine vr_mill14 h10 n60 hno (by omega) hi j2 no 0 3 a 0 0 u (by decide) (by omega) (by decide) (Nat.le_refl 3) A S Bd h g (fun v A' S' Bd' h' g' => ?_)
        unfold vX12_mills_202
        intro v1 e1
        exact ih k (r + 1) (a_mill no a r) v1 v (by rw [e1]; exact ki_addN hi ki_z1 (by omega)) (by omega) A' S' Bd' h' g' kk
  unfold vX12_mills
  intro j
  exact loop j nr 0 a 0 μ (by decide) (by omega) A S Bd h (fun _ _ => rfl) kk
end
section
/-! the class: mills -/
def q6_ (T : Nat → Nat → Nat) (N : Nat → Nat) (g5 nr no : Nat) (a : ra_T) (σ : kx_S) : Prop := (xi σ 18 g5).toInt = (no : Int) ∧ no ≤ 60 ∧ (∀ o, o < no → (xe σ g5 o = some (T 9 o) ∧ xt σ (T 9 o) = 9) ∧ xi σ 144 (T 9 o) = a.1 48 o ∧ xi σ 145 (T 9 o) = a.1 49 o ∧ xi σ 146 (T 9 o) = a.1 50 o ∧ N (T 9 o) = o ∧ ∃ r, r < nr ∧ (a.1 47 o).toInt = (r : Int) ∧ ¬ a.1 22 r = 0) ∧ ∀ r, r < nr → ¬ a.1 22 r = 0 → xt σ (T 22 r) = 1 ∧ (xi σ 18 (T 22 r)).toInt = ((od_ a r no 0).length : Int) ∧ ∀ (i o : Nat), (od_ a r no 0)[i]? = some o → xe σ (T 22 r) i = some (T 9 o)
theorem od_lt {a : ra_T} {r : Nat} : ∀ (m o : Nat), (∀ x ∈ od_ a r m o, o ≤ x ∧ x < o + m ∧ (a.1 47 x).toInt = (r : Int)) ∧ (od_ a r m o).length ≤ m := by
  intro m
  induction m with
  | zero => intro o; exact ⟨fun x hx => absurd hx (List.not_mem_nil), Nat.le_refl 0⟩
  | succ m ih =>
    intro o
    obtain ⟨i1, i2⟩ := ih (o + 1)
    unfold od_
    split
    · next c =>
      refine ⟨fun x hx => ?_, by rw [List.length_cons]; omega⟩
      rcases List.mem_cons.1 hx with e | e
      · rw [e]; exact ⟨Nat.le_refl o, by omega, c⟩
      · obtain ⟨z1, z2, z3⟩ := i1 x e; exact ⟨by omega, by omega, z3⟩
    · refine ⟨fun x hx => ?_, by omega⟩
      obtain ⟨z1, z2, z3⟩ := i1 x hx; exact ⟨by omega, by omega, z3⟩
abbrev ml_W : List Nat := [132, 136, 146, 218]
section
variable {T : Nat → Nat → Nat} {N : Nat → Nat} {g κ : Nat → Nat} {st na nr nl no m : Nat} {day : Nat → Int32} {RL : Nat → List (Bool × List Int32)} {s : sz_T} {B n : Nat}
/-- all that mills ask -/
def qo_ (T : Nat → Nat → Nat) (N g κ : Nat → Nat) (st na nr nl m : Nat) (day : Nat → Int32) (RL : Nat → List (Bool × List Int32)) (s : sz_T) (B n no : Nat) (a : ra_T) (σ : kx_S) : Prop := qa_ T N g κ st na nr nl m day RL s B n a σ ∧ q6_ T N (g 5) nr no a σ ∧ xi σ 218 (g 0) = a.1 6 0 ∧ ∀ r, r < nr → ¬ a.1 22 r = 0 → κ (T 22 r) = 9
theorem q6_hf {W : List Nat} {a b : ra_T} {σ τ : kx_S} (h : q6_ T N (g 5) nr no a σ) (F : hf_ W g κ st na σ τ) (t5 : xt σ (g 5) = 1) (k5 : κ (g 5) = 9) (k22 : ∀ r, r < nr → ¬ a.1 22 r = 0 → κ (T 22 r) = 9) (hW : ∀ f ∈ W, f ∉ [144, 145, 146]) (e22 : b.1 22 = a.1 22) (e47 : b.1 47 = a.1 47) (e48 : b.1 48 = a.1 48) (e49 : b.1 49 = a.1 49) (e50 : b.1 50 = a.1 50) : q6_ T N (g 5) nr no b τ := by
  obtain ⟨h1, h2, h3, h4⟩ := h
  obtain ⟨f1, f2⟩ := F.2.2.1 (g 5) t5 (.inl (by rw [k5]; decide))
  refine ⟨by rw [f1]; exact h1, h2, fun o ho => ?_, fun r hr hb => ?_⟩
  · obtain ⟨⟨a1, a2⟩, a3, a4, a5, a6, a7⟩ := h3 o ho
    have tO : xt σ (T 9 o) ≠ 0 := by rw [a2]; decide
    have xk : ∀ {f : Nat}, f ∈ [144, 145, 146] → xi τ f (T 9 o) = xi σ f (T 9 o) := fun {f} hf => F.2.1 f _ (fun q => hW f q hf) (by intro e; rw [e] at hf; exact absurd hf (by decide)) (by intro e; rw [e] at hf; exact absurd hf (by decide)) tO
    rw [e22, e47, e48, e49, e50]
    exact ⟨⟨by rw [f2 o (by omega)]; exact a1, fg_tag F.1 a2 (by decide)⟩, by rw [xk (by decide)]; exact a3, by rw [xk (by decide)]; exact a4, by rw [xk (by decide)]; exact a5, a6, a7⟩
  · rw [e22] at hb
    obtain ⟨b1, b2, b3⟩ := h4 r hr hb
    obtain ⟨c1, c2⟩ := F.2.2.1 (T 22 r) b1 (.inl (by rw [k22 r hr hb]; decide))
    rw [od_qm e47]
    refine ⟨fg_tag F.1 b1 (by decide), by rw [c1]; exact b2, fun i o hi => ?_⟩
    have hlt := (List.getElem?_eq_some_iff.1 hi).1
    rw [c2 i (by omega)]
    exact b3 i o hi
theorem vq_tff {a : ra_T} {r o : Nat} {Q : Option Nat → kx_S → Prop} {σ : kx_S} (h10 : nr ≤ 10) (A : ao_ nr nl a) (H : qo_ T N g κ st na nr nl m day RL s B n no a σ) (hr : r < nr) (hb : ¬ a.1 22 r = 0) (ho : o < no)
    (k0 : (a.2 (120 + r)).find? (mt_b a o) = none → Q none σ) (k1 : ∀ x τ, (a.2 (120 + r)).find? (mt_b a o) = some x → x ∈ a.2 (120 + r) → yJ_ s g κ B n τ → hf_ ml_W g κ st na σ τ → q3_ T nr (a_drop a x (120 + r)) τ → q4_ T (g 2) nl a τ → (∀ f b, f ≠ 16 → f ≠ 18 → xi τ f b = xi σ f b) → Q (some (T 8 x)) τ) : vX0_takeFirstFor (T 2 r) (T 9 o) σ Q := by
  obtain ⟨⟨J, h0, h1, h2, h3, h4, h7, hj⟩, h6, hB, k22⟩ := H
  obtain ⟨z0, z1, z2, z3, z4, z5, z6⟩ : ¬ a.1 22 r = 0 ∧ xr σ 172 (T 10 r) = some (T 2 r) ∧ xt σ (T 2 r) = 2 ∧ xr σ 32 (T 2 r) = some (T 1 (120 + r)) ∧ xr σ 33 (T 2 r) = some (T 22 r) ∧ xi σ 34 (T 2 r) = a.1 27 r ∧ xi σ 35 (T 2 r) = a.1 28 r := by
    obtain ⟨_, _, _, _, b172, _⟩ := h1.2 r hr
    rcases b172 with z | z
    · exact absurd z.2 hb
    · exact z
  have hk : vk_ nr a (120 + r) := .inr ⟨r, hr, hb, rfl⟩
  obtain ⟨d1, d2, d3⟩ := h3 _ hk
  obtain ⟨t1, t2, t3⟩ := h0.1 _ hk
  obtain ⟨⟨o1, o2⟩, o144, o145, o146, _⟩ := h6.2.2.1 o ho
  have h100 := (A.2.2.2.2.1 r hr).1
  have loop : ∀ (j : Nat) (P R : List Nat) (i : Int32), i.toInt = (P.length : Int) → a.2 (120 + r) = P ++ R → (∀ y ∈ P, mt_b a o y = false) → vX0_takeFirstFor_2 (vX0_takeFirstFor_51 Q) Q j (T 2 r) (T 9 o) i σ := by
    intro j
    induction j with
    | zero => intro _ _ _ _ _ _; exact trivial
    | succ j ih =>
      intro P R i hi hL hP
      have hlen : (a.2 (120 + r)).length = P.length + R.length := by rw [hL, List.length_append]
      unfold vX0_takeFirstFor_2
      intro _ a9 e9 _
      obtain rfl := Option.some.inj (z3.symm.trans e9)
      unfold vJx4a65c_size_8abf5
      intro _
      rw [ki_le, d2, hi]
      refine ⟨fun q => k0 ?_, fun q _ => ?_⟩
      · have hR : R = [] := List.eq_nil_of_length_eq_zero (by omega)
        rw [hL, hR, List.append_nil, find_none hP]
      · cases R with
        | nil => rw [List.length_nil] at hlen; omega
        | cons x R =>
          rw [List.length_cons] at hlen
          have hxm : x ∈ a.2 (120 + r) := by rw [hL]; exact List.mem_append.2 (.inr (List.mem_cons_self))
          have hxl := (A.2.1 _ x hxm).1
          obtain ⟨⟨l1, l2⟩, _, ⟨l129, l130, _⟩, _⟩ := h4.2 x hxl
          intro a16 e16 _
          obtain rfl := Option.some.inj (z3.symm.trans e16)
          refine vy_get (fun _ _ => ?_)
          have hxe : xe σ (T 1 (120 + r)) P.length = some (T 8 x) := d3 P.length x (by rw [hL, List.getElem?_append_right (Nat.le_refl _), Nat.sub_self]; rfl)
          rw [ki_toN hi, hxe]
          intro a21 e21 _ _
          obtain rfl := Option.some.inj e21
          rw [l129, o144, l130, o145]
          have skip : mt_b a o x = false → vX0_takeFirstFor_64 (vX0_takeFirstFor_2 (vX0_takeFirstFor_51 Q) Q j) Q (T 2 r) (T 9 o) i σ := by
            intro e
            unfold vX0_takeFirstFor_64
            intro v1 e1
            refine ih (P ++ [x]) R v1 ?_ (by rw [hL, List.append_assoc]; rfl) (fun y hy => ?_)
            · rw [e1, List.length_append]
              show _ = ((P.length + 1 : Nat) : Int)
              exact ki_addN hi ki_z1 (by omega)
            · rcases List.mem_append.1 hy with z | z
              · exact hP y z
              · rw [List.mem_singleton.1 z]; exact e
          have mf : ∀ (nC : ¬ (a.1 35 x = a.1 48 o ∧ a.1 49 o ≤ a.1 36 x)), mt_b a o x = false := by
            intro nC
            cases e : mt_b a o x
            · rfl
            · exact absurd (mt_T.1 e) nC
          refine ⟨fun c1 => skip (mf (fun z => c1 z.1)), fun c1 => ⟨fun c2 => skip (mf (fun z => ?_)), fun c2 => ?_⟩⟩
          · have := z.2
            rw [ki_le] at this
            rw [ki_lt] at c2
            omega
          · have hm : mt_b a o x = true := mt_T.2 ⟨c1, by rw [ki_le]; rw [ki_lt] at c2; omega⟩
            unfold vX0_takeFirstFor_51
            intro _ a3 e3 _
            obtain rfl := Option.some.inj (z3.symm.trans e3)
            refine vy_remlog J d1 t1 t2 hi d2 (by omega) (fun q τ J' A2 A3 A4 X => ?_)
            have q3' := q3_rem (N := N) h3 hk (fun k hk' => (h0.1 k hk').2.2) (by omega) hL A2 A3 A4
            have ed : a_drop a x (120 + r) = ks_ a (120 + r) (P ++ R) := by
              unfold a_drop
              rw [hL, fil_one (by rw [← hL]; exact A.2.2.1 _)]
            refine k1 x τ (by rw [hL, find_skip hP, List.find?_cons_of_pos hm]) hxm J' (hf_rem hf_refl A2 X t1 t2) (by rw [ed]; exact q3') (q4_hf (W := []) (κ := κ) (st := st) (na := na) h4 (hf_rem hf_refl A2 X t1 t2) (yg2 J).2.1 (fun f hf => absurd hf (List.not_mem_nil))) (fun f b f1 f2 => by rw [A2.2.2.1 f f1 f2])
  unfold vX0_takeFirstFor
  intro j
  exact loop j [] (a.2 (120 + r)) 0 rfl rfl (fun y hy => absurd hy (List.not_mem_nil))
theorem qo_gen {W : List Nat} {a b : ra_T} {σ τ : kx_S} (H : qo_ T N g κ st na nr nl m day RL s B n no a σ) (k : qt_ a b) (J : yJ_ s g κ B n τ) (F : hf_ W g κ st na σ τ) (hW : ∀ f ∈ W, f ∉ [160, 162, 165, 169, 170, 171, 34, 35, 48, 50, 51, 96]) (h3 : q3_ T nr b τ) (h4 : q4_ T (g 2) nl b τ) (h6 : q6_ T N (g 5) nr no b τ) (hB : xi τ 218 (g 0) = b.1 6 0) : qo_ T N g κ st na nr nl m day RL s B n no b τ :=
  ⟨qa_gen H.1 k J F hW h3 h4, h6, hB, fun r hr hb => H.2.2.2 r hr (by rw [← k 22 (by decide)]; exact hb)⟩
theorem vq_saws {r o : Nat} {Q : Int32 → kx_S → Prop} {σ : kx_S} {mi : Int32} {l0 : Nat} (h10 : nr ≤ 10) (hr : r < nr) (ho : o < no) (hm : mi.toInt = (l0 : Int)) (l3 : l0 ≤ 3) : ∀ (j l : Nat) (a : ra_T) (i : Int32) (τ : kx_S), i.toInt = (l0 : Int) - (l : Int) → l ≤ l0 → ao_ nr nl a → ¬ a.1 22 r = 0 → qo_ T N g κ st na nr nl m day RL s B n no a τ → hf_ ml_W g κ st na σ τ → (∀ v (w : Int32), w.toInt = (l0 : Int) - ((a_saws r o l a).2 : Int) → ao_ nr nl (a_saws r o l a).1 → qo_ T N g κ st na nr nl m day RL s B n no (a_saws r o l a).1 v → hf_ ml_W g κ st na σ v → Q w v) → vX11_sawFor_3 Q j (g 0) (T 9 o) (T 2 r) mi i τ := by
  intro j
  induction j with
  | zero => intro _ _ _ _ _ _ _ _ _ _ _; exact trivial
  | succ j ih =>
    intro l a i τ hi hl A hb H F kk
    have HH := H
    obtain ⟨⟨J, h0, h1, h2, h3, h4, h7, hj⟩, h6, hB, k22⟩ := HH
    obtain ⟨⟨o1, o2⟩, o144, o145, o146, oN, _⟩ := h6.2.2.1 o ho
    unfold vX11_sawFor_3
    rw [ki_le, hm, hi]
    refine ⟨fun q => ?_, fun q _ => ?_⟩
    · have : l = 0 := by omega
      subst this
      exact kk τ mi (by rw [hm]; show (l0 : Int) = (l0 : Int) - ((0 : Nat) : Int); omega) A H F
    · obtain ⟨l, rfl⟩ : ∃ x, l = x + 1 := ⟨l - 1, by omega⟩
      have stop : a_saw1 a r o = none → Q i τ := by
        intro e
        have es : a_saws r o (l + 1) a = (a, l + 1) := by
          show (match a_saw1 a r o with
            | none => (a, l + 1)
            | some b => a_saws r o l b) = _
          rw [e]
        rw [es] at kk
        exact kk τ i hi A H F
      rw [o146]
      refine ⟨fun w => ?_, fun w _ => ?_⟩
      · unfold vX11_sawFor_25
        exact ⟨fun a2 e => absurd e (by simp), fun _ => stop (if_pos w)⟩
      · refine vq_tff h10 A H hr hb ho (fun e => ?_) (fun x v e hxm Jv Fv q3v q4v xv => ?_)
        · unfold vX11_sawFor_25
          refine ⟨fun a2 e => absurd e (by simp), fun _ => stop ?_⟩
          unfold a_saw1
          rw [if_neg w, e]
          rfl
        · have hxl := (A.2.1 _ x hxm).1
          have es : a_saws r o (l + 1) a = a_saws r o l (a_sawn a r o x) := by
            show (match a_saw1 a r o with
              | none => (a, l + 1)
              | some b => a_saws r o l b) = _
            rw [show a_saw1 a r o = some (a_sawn a r o x) by unfold a_saw1; rw [if_neg w, e]; rfl]
          rw [es] at kk
          have hN := h0.2.2.2
          unfold vX11_sawFor_25
          refine ⟨fun a2 e2 _ _ => ?_, fun e2 => absurd e2 (by simp)⟩
          obtain rfl := Option.some.inj e2
          unfold vX6_becomeBoards
          rintro _ σ2 rfl σ4 rfl _ _ σ8 rfl _ σ12 rfl v16 e16
          have b218 : xi v 218 (g 0) = a.1 6 0 := (xv 218 _ (by decide) (by decide)).trans hB
          have b130 : xi v 130 (T 8 x) = a.1 36 x := (q4v.2 x hxl).2.2.1.2.1
          have b146 : xi v 146 (T 9 o) = a.1 50 o := (xv 146 _ (by decide) (by decide)).trans o146
          have c218 : xi (xsi (xsi v 132 (T 8 x) 3) 136 (T 8 x) (xi v 218 (g 0))) 218 (g 0) = a.1 6 0 := b218
          have c130 : xi (xsi (xsi v 132 (T 8 x) 3) 136 (T 8 x) (xi v 218 (g 0))) 130 (T 8 x) = a.1 36 x := b130
          rw [c218, c130]
          have c146 : xi (xsi (xsi (xsi v 132 (T 8 x) 3) 136 (T 8 x) (xi v 218 (g 0))) 218 (g 0) (a.1 6 0 + a.1 36 x)) 146 (T 9 o) = a.1 50 o := b146
          rw [c146, b218]
          have F4 : hf_ ml_W g κ st na τ (xsi (xsi (xsi (xsi v 132 (T 8 x) 3) 136 (T 8 x) (a.1 6 0)) 218 (g 0) (a.1 6 0 + a.1 36 x)) 146 (T 9 o) (a.1 50 o - 1)) := hf_si (hf_si (hf_si (hf_si Fv (by decide) (by decide)) (by decide) (by decide)) (by decide) (by decide)) (by decide) (by decide)
          have J4 : yJ_ s g κ B n (xsi (xsi (xsi (xsi v 132 (T 8 x) 3) 136 (T 8 x) (a.1 6 0)) 218 (g 0) (a.1 6 0 + a.1 36 x)) 146 (T 9 o) (a.1 50 o - 1)) := yI_si (by decide) (yI_si (by decide) (yI_si (by decide) (yI_si (by decide) Jv)))
          have q44 : q4_ T (g 2) nl (a_sawn a r o x) (xsi (xsi (xsi (xsi v 132 (T 8 x) 3) 136 (T 8 x) (a.1 6 0)) 218 (g 0) (a.1 6 0 + a.1 36 x)) 146 (T 9 o) (a.1 50 o - 1)) := q4_136 (v := a.1 6 0) (q4_132 (v := 3) q4v hN hxl) hN hxl
          have q34 : q3_ T nr (a_sawn a r o x) (xsi (xsi (xsi (xsi v 132 (T 8 x) 3) 136 (T 8 x) (a.1 6 0)) 218 (g 0) (a.1 6 0 + a.1 36 x)) 146 (T 9 o) (a.1 50 o - 1)) := q3v
          have kq : qt_ a (a_sawn a r o x) := fun f hf => qm_sawn.1 f (by intro e; rw [e] at hf; exact absurd hf (by decide)) (by intro e; rw [e] at hf; exact absurd hf (by decide)) (by intro e; rw [e] at hf; exact absurd hf (by decide)) (by intro e; rw [e] at hf; exact absurd hf (by decide))
          have q6v : q6_ T N (g 5) nr no a v := q6_hf (W := []) (κ := κ) (st := st) (na := na) (b := a) h6 ⟨Fv.1, fun f b _ f1 f2 _ => xv f b f1 f2, Fv.2.2⟩ (yg5 J).2.1 (yg5 J).2.2 k22 (fun f hf => absurd hf (List.not_mem_nil)) rfl rfl rfl rfl rfl
          have q64 : q6_ T N (g 5) nr no (a_sawn a r o x) (xsi (xsi (xsi (xsi v 132 (T 8 x) 3) 136 (T 8 x) (a.1 6 0)) 218 (g 0) (a.1 6 0 + a.1 36 x)) 146 (T 9 o) (a.1 50 o - 1)) := by
            refine ⟨q6v.1, q6v.2.1, fun o' ho' => ?_, fun q hq hbq => ?_⟩
            · obtain ⟨p1, p2, p3, p4, p5, p6⟩ := q6v.2.2.1 o' ho'
              refine ⟨p1, p2, p3, ?_, p5, p6⟩
              show va_up (xi v 146) (T 9 o) (a.1 50 o - 1) (T 9 o') = upd (a.1 50) o (a.1 50 o - 1) o'
              by_cases eo : o' = o
              · rw [eo, va_up_self, w_updS]
              · rw [va_up_ne _ _ (fun z => eo (by rw [← p5, z, oN])), w_updN eo]
                exact p4
            · have hbq : ¬ a.1 22 q = 0 := hbq
              rw [od_qm (a := a) (b := a_sawn a r o x) rfl]
              exact q6v.2.2.2 q hq hbq
          have H4 := qo_gen (W := ml_W) H kq J4 F4 (by decide) q34 q44 q64 (by
            show va_up (xi v 218) (g 0) (a.1 6 0 + a.1 36 x) (g 0) = upd (a.1 6) 0 (a.1 6 0 + a.1 36 x) 0
            rw [va_up_self, w_updS])
          refine ih l (a_sawn a r o x) v16 _ ?_ (by omega) (ao_sawn A hr h10 hxm) hb H4 (hf_trans F F4) kk
          rw [e16, ki_add (by rw [hi, ki_z1]; omega) (by rw [hi, ki_z1]; omega), hi, ki_z1]
          omega
theorem vq_millL {r : Nat} {ri : Int32} {K : Nat → Int32 → kx_S → Prop} {Q : kx_S → Prop} {σ : kx_S} {OL : List Nat} (h10 : nr ≤ 10) (hr : r < nr) : ∀ (j : Nat) (R P : List Nat) (l : Nat) (a : ra_T) (li ki : Int32) (τ : kx_S), OL = P ++ R → OL = od_ a r no 0 → ki.toInt = (P.length : Int) → li.toInt = (l : Int) → l ≤ 3 → ao_ nr nl a → ¬ a.1 22 r = 0 → qo_ T N g κ st na nr nl m day RL s B n no a τ → hf_ ml_W g κ st na σ τ → (∀ v, ao_ nr nl (a_millL r R l a) → qo_ T N g κ st na nr nl m day RL s B n no (a_millL r R l a) v → hf_ ml_W g κ st na σ v → K (g 0) ri v) → vX11_runMills_44 K Q j (g 0) ri (some (T 2 r)) li ki τ := by
  intro j
  induction j with
  | zero => intro _ _ _ _ _ _ _ _ _ _ _ _ _ _ _ _ _; exact trivial
  | succ j ih =>
    intro R P l a li ki τ hPR hOL hk hl l3 A hb H F kk
    have HH := H
    obtain ⟨⟨J, h0, h1, h2, h3, h4, h7, hj⟩, h6, hB, k22⟩ := HH
    obtain ⟨z0, z1, z2, z3, z4, z5, z6⟩ : ¬ a.1 22 r = 0 ∧ xr τ 172 (T 10 r) = some (T 2 r) ∧ xt τ (T 2 r) = 2 ∧ xr τ 32 (T 2 r) = some (T 1 (120 + r)) ∧ xr τ 33 (T 2 r) = some (T 22 r) ∧ xi τ 34 (T 2 r) = a.1 27 r ∧ xi τ 35 (T 2 r) = a.1 28 r := by
      obtain ⟨_, _, _, _, b172, _⟩ := h1.2 r hr
      rcases b172 with z | z
      · exact absurd z.2 hb
      · exact z
    obtain ⟨d1, d2, d3⟩ := h6.2.2.2 r hr hb
    rw [← hOL] at d2 d3
    have n60 := h6.2.1
    obtain ⟨ol1, ol2⟩ := od_lt (a := a) (r := r) no 0
    rw [← hOL] at ol1 ol2
    have hlen : OL.length = P.length + R.length := by rw [hPR, List.length_append]
    unfold vX11_runMills_44
    intro a2 e2 _
    obtain rfl := Option.some.inj e2
    intro a5 e5 _
    obtain rfl := Option.some.inj (z4.symm.trans e5)
    unfold vJx4a65c_size_8abf5
    intro _
    rw [ki_le, d2, hk]
    refine ⟨fun q => ?_, fun q => ?_⟩
    · have hR : R = [] := List.eq_nil_of_length_eq_zero (by omega)
      rw [hR] at kk
      exact kk τ A H F
    · cases R with
      | nil => rw [List.length_nil] at hlen; omega
      | cons o R =>
        rw [List.length_cons] at hlen
        rw [ki_le, ki_z0, hl]
        refine ⟨fun c => ?_, fun c => ?_⟩
        · have : l = 0 := by omega
          subst this
          rw [a_millL_0] at kk
          exact kk τ A H F
        · have hom : o ∈ OL := by rw [hPR]; exact List.mem_append.2 (.inr (List.mem_cons_self))
          have ho : o < no := by have := (ol1 o hom).2.1; omega
          intro a12 e12 _
          obtain rfl := Option.some.inj e12
          intro a15 e15 _
          obtain rfl := Option.some.inj (z4.symm.trans e15)
          refine vy_get (fun _ _ => ?_)
          have hoe : xe τ (T 22 r) P.length = some (T 9 o) := d3 P.length o (by rw [hPR, List.getElem?_append_right (Nat.le_refl _), Nat.sub_self]; rfl)
          rw [ki_toN hk, hoe]
          intro a20 e20 _
          obtain rfl := Option.some.inj e20
          intro a23 e23 _
          obtain rfl := Option.some.inj e23
          unfold vX11_sawFor
          intro j2
          refine vq_saws h10 hr ho hl l3 j2 l a 0 τ (by rw [ki_z0]; omega) (Nat.le_refl _) A hb H F (fun v w hw A' H' F' => ?_)
          intro v28 e28 v29 e29
          have ks := qm_saws (r := r) (o := o) l a
          have e47 := ks.1.1 47 (by decide) (by decide) (by decide) (by decide)
          have e22 := ks.1.1 22 (by decide) (by decide) (by decide) (by decide)
          refine ih R (P ++ [o]) (a_saws r o l a).2 (a_saws r o l a).1 v28 v29 v (by rw [hPR, List.append_assoc]; rfl) (by rw [od_qm e47]; exact hOL) ?_ ?_ (Nat.le_trans ks.2 l3) A' (by rw [e22]; exact hb) H' F' kk
          · rw [e29, List.length_append]
            show _ = ((P.length + 1 : Nat) : Int)
            exact ki_addN hk ki_z1 (by omega)
          · have := ks.2
            rw [e28, ki_sub (by rw [hl, hw]; omega) (by rw [hl, hw]; omega), hl, hw]
            omega
theorem vq_mills {a : ra_T} {Q : kx_S → Prop} {σ : kx_S} (h10 : nr ≤ 10) (A : ao_ nr nl a) (H : qo_ T N g κ st na nr nl m day RL s B n no a σ) (kk : ∀ v, ao_ nr nl (a_mills no nr 0 a) → qo_ T N g κ st na nr nl m day RL s B n no (a_mills no nr 0 a) v → hf_ ml_W g κ st na σ v → Q v) : vX11_runMills (g 0) σ Q := by
  have loop : ∀ (j k r : Nat) (a : ra_T) (i : Int32) (τ : kx_S), i.toInt = (r : Int) → r + k = nr → ao_ nr nl a → qo_ T N g κ st na nr nl m day RL s B n no a τ → hf_ ml_W g κ st na σ τ → (∀ v, ao_ nr nl (a_mills no k r a) → qo_ T N g κ st na nr nl m day RL s B n no (a_mills no k r a) v → hf_ ml_W g κ st na σ v → Q v) → vX11_runMills_2 Q j (g 0) i τ := by
    intro j
    induction j with
    | zero => intro _ _ _ _ _ _ _ _ _ _ _; exact trivial
    | succ j ih =>
      intro k r a i τ hi hk A H F kk
      have HH := H
      obtain ⟨⟨J, h0, h1, h2, h3, h4, h7, hj⟩, h6, hB, k22⟩ := HH
      unfold vX11_runMills_2
      intro _ a31 e31 _
      obtain rfl := Option.some.inj ((yg1 J).1.symm.trans e31)
      unfold vJx4a65c_size_8abf5
      intro _
      rw [ki_le, h1.1, hi]
      refine ⟨fun q => ?_, fun q _ => ?_⟩
      · have : k = 0 := by omega
        subst this
        exact kk τ A H F
      · obtain ⟨k, rfl⟩ : ∃ q, k = q + 1 := ⟨k - 1, by omega⟩
        have hr : r < nr := by omega
        have nx : ∀ v : Int32, v = i + 1 → v.toInt = ((r + 1 : Nat) : Int) := fun v e => by rw [e]; exact ki_addN hi ki_z1 (by omega)
        intro a38 e38 _
        obtain rfl := Option.some.inj ((yg1 J).1.symm.trans e38)
        refine vy_get (fun _ _ => ?_)
        obtain ⟨⟨b0, b00⟩, _, _, _, b172, _⟩ := h1.2 r hr
        rw [ki_toN hi, b0]
        intro a43 e43 _
        obtain rfl := Option.some.inj e43
        intro q46 e46
        have kk : ∀ v, ao_ nr nl (a_mills no k (r + 1) (a_mill no a r)) → qo_ T N g κ st na nr nl m day RL s B n no (a_mills no k (r + 1) (a_mill no a r)) v → hf_ ml_W g κ st na σ v → Q v := kk
        refine ⟨fun a48 e48 j2 => ?_, fun e48 => ?_⟩
        · obtain ⟨z0, z1, z2⟩ : ¬ a.1 22 r = 0 ∧ xr τ 172 (T 10 r) = some (T 2 r) ∧ xt τ (T 2 r) = 2 := by
            rcases b172 with z | z
            · rw [e46, z.1] at e48; exact absurd e48 (by simp)
            · exact ⟨z.1, z.2.1, z.2.2.1⟩
          rw [e46] at e48
          obtain rfl := Option.some.inj (z1.symm.trans e48)
          refine vq_millL h10 hr j2 (od_ a r no 0) [] 3 a 3 0 τ rfl rfl rfl (by decide) (Nat.le_refl 3) A z0 H F (fun v A' H' F' => ?_)
          unfold vX11_runMills_91
          intro v1 e1
          exact ih k (r + 1) (a_mill no a r) v1 v (nx v1 e1) (by omega) A' H' F' kk
        · have z0 : a.1 22 r = 0 := by
            rcases b172 with z | ⟨_, z, _⟩
            · exact z.2
            · rw [e46, z] at e48; exact absurd e48 (by simp)
          have em : a_mill no a r = a := by
            unfold a_mill
            have : od_ a r no 0 = [] := by
              cases e : od_ a r no 0 with
              | nil => rfl
              | cons o L =>
                exfalso
                have hom : o ∈ od_ a r no 0 := by rw [e]; exact List.mem_cons_self
                obtain ⟨_, o2, o3⟩ := (od_lt (a := a) (r := r) no 0).1 o hom
                obtain ⟨_, _, _, _, _, q, q1, q2, q3⟩ := h6.2.2.1 o (by omega)
                have : q = r := by omega
                rw [this] at q3
                exact q3 z0
            rw [this]
            rfl
          rw [em] at kk
          unfold vX11_runMills_91
          intro v1 e1
          exact ih k (r + 1) a v1 τ (nx v1 e1) (by omega) A H F kk
  unfold vX11_runMills
  intro j
  exact loop j nr 0 a 0 σ (by decide) (by omega) A H hf_refl kk
end
end
section
/-! what each part of an hour keeps -/
/-- fields of which the order of the river speaks, and its rows -/
theorem ao_same {nr nl : Nat} {a b : ra_T} (A : ao_ nr nl a) (e14 : b.1 14 = a.1 14) (e15 : b.1 15 = a.1 15) (e13 : b.1 13 = a.1 13) (e38 : b.1 38 = a.1 38) (e39 : b.1 39 = a.1 39) (e40 : b.1 40 = a.1 40) (e2 : b.2 = a.2) : ao_ nr nl b := by
  have el : ∀ r, ln_ b r = ln_ a r := fun r => by unfold ln_; rw [e14]
  unfold ao_ vk2_ at A ⊢
  simp only [el, e15, e13, e38, e39, e40, e2]
  exact A
theorem rsz_same {a b : ra_T} (S : rsz_ a) (e2 : b.2 = a.2) : rsz_ b := by
  unfold rsz_ at S ⊢
  rw [e2]
  exact S
theorem a_free_c {now : Int32} : ∀ (m k : Nat) (a : ra_T), (∀ f, f ≠ 33 → f ≠ 34 → f ≠ 46 → (a_free now m k a).1 f = a.1 f) ∧ (a_free now m k a).2 = a.2 := by
  intro m
  induction m with
  | zero => intro k a; exact ⟨fun _ _ _ _ => rfl, rfl⟩
  | succ m ih =>
    intro k a
    obtain ⟨e1, e2, _⟩ := a_free1_c (now := now) (a := a) (k := k)
    obtain ⟨i1, i2⟩ := ih (k + 1) (a_free1 now a k)
    exact ⟨fun f h1 h2 h3 => (i1 f h1 h2 h3).trans (e1 f h1 h2 h3), i2.trans e2⟩
theorem co_free {nr nc : Nat} {now : Int32} : ∀ (m k : Nat) (a : ra_T), k + m = nc → co_ nr nc now k a → co_ nr nc now nc (a_free now m k a) := by
  intro m
  induction m with
  | zero => intro k a h C; have : k = nc := by omega
            subst this; exact C
  | succ m ih => intro k a h C; exact ih (k + 1) _ (by omega) (co_free1 C)
theorem ao_age {nr nl : Nat} {a : ra_T} (A : ao_ nr nl a) : ao_ nr nl (a_age a) := by
  obtain ⟨A1, A2, A3, A4, A5, A6⟩ := A
  have e14 : (a_age a).1 14 = a.1 14 := ag_o (by decide) (by decide)
  have e15 : (a_age a).1 15 = a.1 15 := ag_o (by decide) (by decide)
  have e13 : (a_age a).1 13 = a.1 13 := ag_o (by decide) (by decide)
  have e39 : (a_age a).1 39 = a.1 39 := ag_o (by decide) (by decide)
  have e40 : (a_age a).1 40 = a.1 40 := ag_o (by decide) (by decide)
  have el : ∀ r, ln_ (a_age a) r = ln_ a r := fun r => by unfold ln_; rw [e14]
  have mem : ∀ {x k}, x ∈ (a_age a).2 k ↔ x ∈ a.2 k ∧ ¬ su_ a x := by
    intro x k
    refine ag_mem.trans ⟨fun z => ⟨z.1, fun w => z.2 ⟨trivial, w⟩⟩, fun z => ⟨z.1, fun w => z.2 w.2⟩⟩
  have len : ∀ k, ((a_age a).2 k).length ≤ (a.2 k).length := fun k => List.length_filter_le _ _
  have f38 : ∀ x, ¬ su_ a x → (a_age a).1 38 x = a.1 38 x := fun x h => ag_38n (fun z => h z.2)
  refine ⟨fun r hr => ?_, fun k x hx => ?_, fun k => (A3 k).filter _, fun r c hr hc => ⟨?_, fun x hx => ?_⟩, fun r hr => ⟨?_, fun x hx => ?_⟩, fun x hx h38 => ?_⟩
  · rw [el, e15, e13]; exact A1 r hr
  · obtain ⟨z1, z2⟩ := A2 k x (mem.1 hx).1
    refine ⟨z1, ?_⟩
    unfold vk2_ at z2 ⊢
    simp only [el]
    exact z2
  · rw [el] at hc
    have := len (12 * r + c)
    have := (A4 r c hr hc).1
    rw [e15]
    omega
  · rw [el] at hc
    obtain ⟨m1, m2⟩ := mem.1 hx
    rw [f38 x m2, e39, e40]
    exact (A4 r c hr hc).2 x m1
  · have := len (120 + r)
    have := (A5 r hr).1
    omega
  · obtain ⟨m1, m2⟩ := mem.1 hx
    rw [f38 x m2, e39]
    exact (A5 r hr).2 x m1
  · by_cases hs : su_ a x
    · have e5 : (a_age a).1 38 x = 5 := ag_38y trivial hs
      rw [e5] at h38
      exact absurd h38 (by decide)
    · rw [f38 x hs] at h38
      obtain ⟨r, c, i1, i2, i3⟩ := A6 x hx h38
      exact ⟨r, c, i1, by rw [el]; exact i2, mem.2 ⟨i3, hs⟩⟩
theorem rsz_age {a : ra_T} (S : rsz_ a) : rsz_ (a_age a) := ⟨fun j hj => Nat.le_trans (List.length_filter_le _ _) (S.1 j hj), fun q hq => Nat.le_trans (List.length_filter_le _ _) (S.2 q hq)⟩
/-- who is sawn stays so -/
def p3_ (a b : ra_T) : Prop := (∀ y, a.1 38 y = 3 → b.1 38 y = 3) ∧ b.1 42 = a.1 42 ∧ b.1 36 = a.1 36 ∧ b.1 6 = a.1 6
theorem p3_refl {a : ra_T} : p3_ a a := ⟨fun _ h => h, rfl, rfl, rfl⟩
theorem p3_trans {a b c : ra_T} (h : p3_ a b) (k : p3_ b c) : p3_ a c := ⟨fun y z => k.1 y (h.1 y z), k.2.1.trans h.2.1, k.2.2.1.trans h.2.2.1, k.2.2.2.trans h.2.2.2⟩
theorem rB_p3 {nl : Nat} {a b : ra_T} {μ u : km_S} (h : rB_ nl a μ) (k : p3_ a b) (e : km_a u 43 = km_a μ 43) : rB_ nl b u := by
  obtain ⟨k1, k2, k3, k4⟩ := k
  obtain ⟨h1, h2, h3, h4⟩ := h
  unfold rB_
  rw [k2, k3, k4, e]
  exact ⟨fun x hx => ⟨(h1 x hx).1, fun q => (h1 x hx).2 (fun z => q (k1 x z))⟩, h2, h3, h4⟩
theorem p3_goE {a : ra_T} {r c x nr nl : Nat} (A : aq_ nr nl a) (hr : r < nr) (hc : c < ln_ a r) (hx : x ∈ a.2 (12 * r + c)) : p3_ a (a_goE a r c x) := by
  have x38 := ((A.1.2.2.2.1 r c hr hc).2 x hx).1
  unfold a_goE
  split
  · exact p3_refl
  · have k := qs_go (a := a) (r := r) (c := c) (sp := (a_speed a r).toNatClampNeg) (x := x)
    refine ⟨fun y hy => ?_, k 42 (by decide) (by decide) (by decide), k 36 (by decide) (by decide) (by decide), k 6 (by decide) (by decide) (by decide)⟩
    have ne : ¬ y = x := fun e => by rw [e, x38] at hy; exact absurd hy (by decide)
    unfold a_go
    split
    · next b e =>
      show b.1 38 y = 3
      rcases a_on_cases A.1 hr hc e with ⟨r1, c1, _, _, _, _, g5⟩ | ⟨_, _, g5⟩ | g5
      · rw [g5]; exact (w_updN ne).trans hy
      · rw [g5]; exact (w_updN ne).trans hy
      · rw [g5]; exact (w_updN ne).trans hy
    · exact hy
theorem p3_gosE {r c nr nl : Nat} (h10 : nr ≤ 10) (hr : r < nr) : ∀ (L : List Nat) (a : ra_T), L.Nodup → aq_ nr nl a → c < ln_ a r → (∀ y ∈ L, y ∈ a.2 (12 * r + c)) → p3_ a (a_gosE r c L a) ∧ aq_ nr nl (a_gosE r c L a) := by
  intro L
  induction L with
  | nil => intro a _ A _ _; exact ⟨p3_refl, A⟩
  | cons x L ih =>
    intro a nd A hc hm
    rw [List.nodup_cons] at nd
    have hx := hm x (List.mem_cons_self)
    obtain ⟨A1, k1, m1⟩ := aq_goE h10 A hr hc hx
    obtain ⟨i1, i2⟩ := ih (a_goE a r c x) nd.2 A1 (by rw [qs_ln k1]; exact hc) (fun y hy => m1 y (hm y (List.mem_cons_of_mem x hy)) (fun e => nd.1 (by rw [← e]; exact hy)))
    exact ⟨p3_trans (p3_goE A hr hc hx) i1, i2⟩
theorem p3_cells {r nr nl : Nat} (h10 : nr ≤ 10) (hr : r < nr) : ∀ (c : Nat) (a : ra_T), c ≤ ln_ a r → aq_ nr nl a → ¬ a_speed a r ≤ 0 → p3_ a (a_cells r (a_speed a r).toNatClampNeg c a) ∧ aq_ nr nl (a_cells r (a_speed a r).toNatClampNeg c a) := by
  intro c
  induction c with
  | zero => intro a _ A _; exact ⟨p3_refl, A⟩
  | succ c ih =>
    intro a hc A hs
    have e := a_gosE_cell (r := r) (c := c) (a := a)
    rw [if_neg hs] at e
    obtain ⟨i1, i2⟩ := p3_gosE h10 hr (c := c) (a.2 (12 * r + c)) a (A.1.2.2.1 _) A (by omega) (fun y hy => hy)
    rw [e] at i1 i2
    have k := qs_cell (a := a) (r := r) (c := c) (sp := (a_speed a r).toNatClampNeg)
    have es := qs_speed k r
    obtain ⟨j1, j2⟩ := ih (a_cell a r c (a_speed a r).toNatClampNeg) (by rw [qs_ln k]; omega) i2 (by rw [es]; exact hs)
    rw [es] at j1 j2
    exact ⟨p3_trans i1 j1, j2⟩
theorem p3_move {nr nl : Nat} (h10 : nr ≤ 10) : ∀ (k r : Nat) (a : ra_T), r + k = nr → aq_ nr nl a → p3_ a (a_move k r a) ∧ aq_ nr nl (a_move k r a) ∧ qs_ a (a_move k r a) := by
  intro k
  induction k with
  | zero => intro r a _ A; exact ⟨p3_refl, A, qs_refl⟩
  | succ k ih =>
    intro r a hk A
    have h1 : p3_ a (a_reach a r) ∧ aq_ nr nl (a_reach a r) := by
      unfold a_reach
      split
      · exact ⟨p3_refl, A⟩
      · next hs => exact p3_cells h10 (by omega) (ln_ a r) a (Nat.le_refl _) A hs
    obtain ⟨i1, i2, i3⟩ := ih (r + 1) (a_reach a r) (by omega) h1.2
    exact ⟨p3_trans h1.1 i1, i2, qs_trans qs_reach i3⟩
theorem p3_age {a : ra_T} : p3_ a (a_age a) := by
  refine ⟨fun y hy => ?_, ag_o (by decide) (by decide), ag_o (by decide) (by decide), ag_o (by decide) (by decide)⟩
  have ns : ¬ su_ a y := fun z => by have := z.1; rw [hy] at this; exact absurd this (by decide)
  show (a_age a).1 38 y = 3
  rw [show (a_age a).1 38 y = a.1 38 y from ag_38n (fun z => ns z.2)]
  exact hy
theorem qm_mills {no : Nat} : ∀ (k r : Nat) (a : ra_T), qm_ a (a_mills no k r a) := by
  intro k
  induction k with
  | zero => intro r a; exact qm_refl
  | succ k ih => intro r a; exact qm_trans (qm_millL _ _ _) (ih _ _)
/-- logs that are not there are not afloat -/
theorem hz_go {a : ra_T} {nl : Nat} (hz : ∀ x, nl ≤ x → ¬ a.1 38 x = 1) {b : ra_T} (h : ∀ x, nl ≤ x → b.1 38 x = a.1 38 x) : ∀ x, nl ≤ x → ¬ b.1 38 x = 1 := fun x hx => by rw [h x hx]; exact hz x hx
/-- what an hour asks of the abstract river -/
def aK_ (nr nl nc : Nat) (now : Int32) (k0 : Nat) (a : ra_T) : Prop := aq_ nr nl a ∧ (∀ x, nl ≤ x → ¬ a.1 38 x = 1) ∧ co_ nr nc now k0 a
/-- the water's part of it -/
def aw_ (a : ra_T) (w : wt_T) : ra_T := ff_ (ff_ a 18 w.2.2.2.1) 19 w.2.2.2.2.1
noncomputable def a_hour (nr nc no : Nat) (now : Int32) (w : wt_T) (a : ra_T) : ra_T := a_mills no nr 0 (a_age (a_known nr nc (a_free now nc 0 (a_jam nr (a_move nr 0 (aw_ a w))))))
theorem n38_go {a : ra_T} {r c sp x y nr nl : Nat} (A : ao_ nr nl a) (hr : r < nr) (hc : c < ln_ a r) (hx : x ∈ a.2 (12 * r + c)) (hy : nl ≤ y) : (a_go a r c sp x).1 38 y = a.1 38 y := by
  have hxl := (A.2.1 _ x hx).1
  have ne : ¬ y = x := by omega
  unfold a_go
  split
  · next b e =>
    show b.1 38 y = _
    rcases a_on_cases A hr hc e with ⟨r1, c1, _, _, _, _, g5⟩ | ⟨_, _, g5⟩ | g5
    · rw [g5]; exact w_updN ne
    · rw [g5]; exact w_updN ne
    · rw [g5]; exact w_updN ne
  · rfl
theorem n38_gosE {r c y nr nl : Nat} (h10 : nr ≤ 10) (hr : r < nr) (hy : nl ≤ y) : ∀ (L : List Nat) (a : ra_T), L.Nodup → aq_ nr nl a → c < ln_ a r → (∀ y ∈ L, y ∈ a.2 (12 * r + c)) → (a_gosE r c L a).1 38 y = a.1 38 y := by
  intro L
  induction L with
  | nil => intro a _ _ _ _; rfl
  | cons x L ih =>
    intro a nd A hc hm
    rw [List.nodup_cons] at nd
    have hx := hm x (List.mem_cons_self)
    obtain ⟨A1, k1, m1⟩ := aq_goE h10 A hr hc hx
    refine (ih (a_goE a r c x) nd.2 A1 (by rw [qs_ln k1]; exact hc) (fun y hy => m1 y (hm y (List.mem_cons_of_mem x hy)) (fun e => nd.1 (by rw [← e]; exact hy)))).trans ?_
    unfold a_goE
    split
    · rfl
    · exact n38_go A.1 hr hc hx hy
theorem n38_cells {r y nr nl : Nat} (h10 : nr ≤ 10) (hr : r < nr) (hy : nl ≤ y) : ∀ (c : Nat) (a : ra_T), c ≤ ln_ a r → aq_ nr nl a → ¬ a_speed a r ≤ 0 → (a_cells r (a_speed a r).toNatClampNeg c a).1 38 y = a.1 38 y := by
  intro c
  induction c with
  | zero => intro a _ _ _; rfl
  | succ c ih =>
    intro a hc A hs
    have e := a_gosE_cell (r := r) (c := c) (a := a)
    rw [if_neg hs] at e
    have i2 := (p3_gosE h10 hr (c := c) (a.2 (12 * r + c)) a (A.1.2.2.1 _) A (by omega) (fun y hy => hy)).2
    have i3 := n38_gosE h10 hr hy (c := c) (a.2 (12 * r + c)) a (A.1.2.2.1 _) A (by omega) (fun y hy => hy)
    rw [e] at i2 i3
    have k := qs_cell (a := a) (r := r) (c := c) (sp := (a_speed a r).toNatClampNeg)
    have es := qs_speed k r
    have j1 := ih (a_cell a r c (a_speed a r).toNatClampNeg) (by rw [qs_ln k]; omega) i2 (by rw [es]; exact hs)
    rw [es] at j1
    exact j1.trans i3
theorem n38_move {y nr nl : Nat} (h10 : nr ≤ 10) (hy : nl ≤ y) : ∀ (k r : Nat) (a : ra_T), r + k = nr → aq_ nr nl a → (a_move k r a).1 38 y = a.1 38 y := by
  intro k
  induction k with
  | zero => intro r a _ _; rfl
  | succ k ih =>
    intro r a hk A
    have h1 : aq_ nr nl (a_reach a r) ∧ (a_reach a r).1 38 y = a.1 38 y := by
      unfold a_reach
      split
      · exact ⟨A, rfl⟩
      · next hs => exact ⟨(p3_cells h10 (by omega) (ln_ a r) a (Nat.le_refl _) A hs).2, n38_cells h10 (by omega) hy (ln_ a r) a (Nat.le_refl _) A hs⟩
    exact (ih (r + 1) (a_reach a r) (by omega) h1.1).trans h1.2
end
