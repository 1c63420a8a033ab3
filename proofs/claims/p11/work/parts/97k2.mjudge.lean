/-! the reference's judge -/
theorem l_getD_r2 {L M : List Int32} {i : Nat} : (L ++ M).getD (L.length + i) 0 = M.getD i 0 := by
  rw [List.getD_eq_getElem?_getD, List.getElem?_append_right (by omega), List.getD_eq_getElem?_getD]
  congr 2
  omega
def md_ (μ u : km_S) : Prop := (∀ j, j ≠ 68 → km_i u j = km_i μ j) ∧ (∀ g, g ≠ 57 → km_a u g = km_a μ g) ∧ u.2.2 = μ.2.2
theorem md_refl {μ : km_S} : md_ μ μ := ⟨fun _ _ => rfl, fun _ _ => rfl, rfl⟩
theorem md_trans {a b c : km_S} (h : md_ a b) (k : md_ b c) : md_ a c := ⟨fun j hj => (k.1 j hj).trans (h.1 j hj), fun g hg => (k.2.1 g hg).trans (h.2.1 g hg), k.2.2.trans h.2.2⟩
theorem md_si {μ u : km_S} {w : Int32} (h : md_ μ u) : md_ μ (km_si u 68 w) := by
  refine ⟨fun j hj => ?_, h.2.1, h.2.2⟩
  refine Eq.trans ?_ (h.1 j hj)
  show upd u.1 68 w j = u.1 j
  exact w_updN hj
theorem md_sa {μ u : km_S} {i : Nat} {w : Int32} (h : md_ μ u) : md_ μ (km_sa u 57 i w) := by
  refine ⟨h.1, fun g hg => ?_, h.2.2⟩
  refine Eq.trans ?_ (h.2.1 g hg)
  show (if g = 57 then _ else u.2.1 g) = u.2.1 g
  exact if_neg hg
def ms_ (μ : km_S) (s : e_T) (u : km_S) : Prop := md_ μ u ∧ (km_i u 68).toInt = (s.1 : Int) ∧ ∀ i, i < s.1 → km_a u 57 i = s.2 i
def e_mn (g : Nat) (r : Int32) (μ : km_S) (k : Nat) : Int32 := match k with
  | 0 => km_a μ 35 g
  | 1 => km_a μ 36 g
  | 2 => km_a μ 37 g
  | 3 => km_i μ 2 - km_i μ 2 / 24 * 24
  | 4 => km_i μ 2 / 24
  | 5 => r
  | _ => km_a μ 41 g
theorem ki_rsub {k c : Int32} {z : Int} (hk : k.toInt = z) (h1 : -2147483648 ≤ z - c.toInt) (h2 : z - c.toInt < 2147483648) : ∃ w, w = k - c ∧ w.toInt = z - c.toInt := ⟨k - c, rfl, by rw [ki_sub (by rw [hk]; exact h1) (by rw [hk]; exact h2), hk]⟩
theorem vt_value {μ u : km_S} {v gI r : Int32} {g : Nat} {Q : Int32 → km_S → Prop} (h : md_ μ u) (eg : gI.toNatClampNeg = g) (h0 : 0 ≤ v.toInt) (h7 : v.toInt < 7) (kk : Q (e_mn g r μ v.toNatClampNeg) u) : vX12_value v gI r u Q := by
  unfold vX12_value
  intro v1 e1
  rw [e1, eg, h.2.1 35 (by decide), h.2.1 36 (by decide), h.2.1 37 (by decide), h.2.1 41 (by decide), h.1 2 (by decide)]
  refine ⟨fun e _ => ?_, fun e _ => ?_, fun e _ => ?_, fun e => ?_, fun e => ?_, fun e => ?_, fun n0 n1 n2 n3 n4 n5 _ => ?_⟩
  · rw [e, show (0 : Int32).toNatClampNeg = 0 by decide] at kk; exact kk
  · rw [e, show (1 : Int32).toNatClampNeg = 1 by decide] at kk; exact kk
  · rw [e, show (2 : Int32).toNatClampNeg = 2 by decide] at kk; exact kk
  · rw [e, show (3 : Int32).toNatClampNeg = 3 by decide] at kk; exact kk
  · rw [e, show (4 : Int32).toNatClampNeg = 4 by decide] at kk; exact kk
  · rw [e, show (5 : Int32).toNatClampNeg = 5 by decide] at kk; exact kk
  · have e6 : v.toNatClampNeg = 6 := by
      rw [ki_eq, show (0 : Int32).toInt = 0 by decide] at n0
      rw [ki_eq, show (1 : Int32).toInt = 1 by decide] at n1
      rw [ki_eq, show (2 : Int32).toInt = 2 by decide] at n2
      rw [ki_eq, show (3 : Int32).toInt = 3 by decide] at n3
      rw [ki_eq, show (4 : Int32).toInt = 4 by decide] at n4
      rw [ki_eq, show (5 : Int32).toInt = 5 by decide] at n5
      rw [ki_nat]
      omega
    rw [e6] at kk
    exact kk
theorem vt_two {c a b : Int32} {u : km_S} {Q : Int32 → km_S → Prop} (h1 : ¬ -8 < c.toInt) (h2 : -16 < c.toInt) (kk : Q (e_join c a b) u) : vX12_two (-7 - c) a b u Q := by
  rcases e_cases h1 h2 with rfl | rfl | rfl | rfl | rfl | rfl | rfl | rfl
  · rw [e_j8] at kk
    rw [show (-7 - -8 : Int32) = 1 by decide]
    unfold vX12_two
    rintro _ rfl
    exact ⟨fun _ => kk, fun q => absurd q (by decide), fun q => absurd q (by decide), fun q => absurd q (by decide), fun q => absurd q (by decide), fun q => absurd q (by decide), fun q => absurd q (by decide), fun m1 m2 m3 m4 m5 m6 m7 => absurd rfl m1⟩
  · rw [e_j9] at kk
    rw [show (-7 - -9 : Int32) = 2 by decide]
    unfold vX12_two
    rintro _ rfl
    exact ⟨fun q => absurd q (by decide), fun _ => kk, fun q => absurd q (by decide), fun q => absurd q (by decide), fun q => absurd q (by decide), fun q => absurd q (by decide), fun q => absurd q (by decide), fun m1 m2 m3 m4 m5 m6 m7 => absurd rfl m2⟩
  · rw [e_j10] at kk
    rw [show (-7 - -10 : Int32) = 3 by decide]
    unfold vX12_two
    rintro _ rfl
    exact ⟨fun q => absurd q (by decide), fun q => absurd q (by decide), fun _ => kk, fun q => absurd q (by decide), fun q => absurd q (by decide), fun q => absurd q (by decide), fun q => absurd q (by decide), fun m1 m2 m3 m4 m5 m6 m7 => absurd rfl m3⟩
  · rw [e_j11] at kk
    rw [show (-7 - -11 : Int32) = 4 by decide]
    unfold vX12_two
    rintro _ rfl
    exact ⟨fun q => absurd q (by decide), fun q => absurd q (by decide), fun q => absurd q (by decide), fun _ => ⟨fun q => ⟨fun q2 _ => by rw [if_neg q] at kk; exact kk, fun q2 => by rw [if_neg q, q2, e_div] at kk; exact kk⟩, fun q => by rw [if_pos q] at kk; exact kk⟩, fun q => absurd q (by decide), fun q => absurd q (by decide), fun q => absurd q (by decide), fun m1 m2 m3 m4 m5 m6 m7 => absurd rfl m4⟩
  · rw [e_j12] at kk
    rw [show (-7 - -12 : Int32) = 5 by decide]
    unfold vX12_two
    rintro _ rfl
    exact ⟨fun q => absurd q (by decide), fun q => absurd q (by decide), fun q => absurd q (by decide), fun q => absurd q (by decide), fun _ => ⟨fun q => by rw [if_pos q] at kk; exact kk, fun q => by rw [if_neg q] at kk; exact kk⟩, fun q => absurd q (by decide), fun q => absurd q (by decide), fun m1 m2 m3 m4 m5 m6 m7 => absurd rfl m5⟩
  · rw [e_j13] at kk
    rw [show (-7 - -13 : Int32) = 6 by decide]
    unfold vX12_two
    rintro _ rfl
    exact ⟨fun q => absurd q (by decide), fun q => absurd q (by decide), fun q => absurd q (by decide), fun q => absurd q (by decide), fun q => absurd q (by decide), fun _ => ⟨fun q => by rw [if_neg q] at kk; exact kk, fun q => by rw [if_pos q] at kk; exact kk⟩, fun q => absurd q (by decide), fun m1 m2 m3 m4 m5 m6 m7 => absurd rfl m6⟩
  · rw [e_j14] at kk
    rw [show (-7 - -14 : Int32) = 7 by decide]
    unfold vX12_two
    rintro _ rfl
    exact ⟨fun q => absurd q (by decide), fun q => absurd q (by decide), fun q => absurd q (by decide), fun q => absurd q (by decide), fun q => absurd q (by decide), fun q => absurd q (by decide), fun _ => ⟨fun q => by rw [if_pos q] at kk; exact kk, fun q => ⟨fun r => by rw [if_neg q, if_pos r] at kk; exact kk, fun r => by rw [if_neg q, if_neg r] at kk; exact kk⟩⟩, fun m1 m2 m3 m4 m5 m6 m7 => absurd rfl m7⟩
  · rw [e_j15] at kk
    rw [show (-7 - -15 : Int32) = 8 by decide]
    unfold vX12_two
    rintro _ rfl
    exact ⟨fun q => absurd q (by decide), fun q => absurd q (by decide), fun q => absurd q (by decide), fun q => absurd q (by decide), fun q => absurd q (by decide), fun q => absurd q (by decide), fun q => absurd q (by decide), fun _ _ _ _ _ _ _ => ⟨fun q => by rw [if_neg q] at kk; exact kk, fun q => ⟨fun r => by rw [if_pos q, if_pos r] at kk; exact kk, fun r => by rw [if_pos q, if_neg r] at kk; exact kk⟩⟩⟩
section
variable {μ : km_S} {gI r : Int32} {g : Nat}
theorem vt_told8 {Q : Int32 → km_S → Prop} {L : List Int32} {a : Nat} {l2 : Int32} (eg : gI.toNatClampNeg = g) (ha : a ≤ 6000) (hlen : L.length ≤ 500) (hto : l2.toInt = ((a + (enc L).length : Nat) : Int)) (hcode : ∀ i, i < (enc L).length → km_a μ 56 (a + i) = (enc L).getD i 0) : ∀ (j : Nat) (R P : List Int32) (s : e_T) (l5 : Int32) (u : km_S), L = P ++ R → l5.toInt = ((a + (enc P).length : Nat) : Int) → s.1 ≤ 33 → ed_ 33 R s.1 1 → ms_ μ s u → (∀ u', ms_ μ (e_run (e_mn g r μ) R s) u' → Q ((e_run (e_mn g r μ) R s).2 0) u') → vX12_told_8 (vX12_told_193 Q) Q j l2 gI r l5 u := by
  have m7 : (-7 : Int32).toInt = -7 := by decide
  have m8 : (-8 : Int32).toInt = -8 := by decide
  have p19 : (19 : Int32).toInt = 19 := by decide
  have p20 : (20 : Int32).toInt = 20 := by decide
  have eL := enc_len L
  intro j
  induction j with
  | zero => intro _ _ _ _ _ _ _ _ _ _ _; exact trivial
  | succ j ih =>
    intro R P s l5 u hL hl h33 hed h kk
    obtain ⟨h1, h2, h3⟩ := h
    unfold vX12_told_8
    rw [ki_le, hto, hl]
    have nx : ∀ (v1 w : Int32) (q : Nat), v1 = w + 1 → w.toInt = (q : Int) → q ≤ 10000 → v1.toInt = ((q + 1 : Nat) : Int) := by
      intro v1 w q e hw hq
      rw [e, ki_add (by rw [hw, ki_z1]; omega) (by rw [hw, ki_z1]; omega), hw, ki_z1]
      omega
    cases R with
    | nil =>
      rw [List.append_nil] at hL
      subst hL
      refine ⟨fun _ => ?_, fun c => absurd (Int.le_refl _) c⟩
      have hs : s.1 = 1 := hed
      unfold vX12_told_193
      have e0 : km_a u 57 (Int32.toNatClampNeg 0) = s.2 0 := h3 0 (by omega)
      rw [e0]
      exact kk u ⟨h1, h2, h3⟩
    | cons c R =>
      have eLs : enc L = enc P ++ (enc1 c ++ enc R) := by
        rw [hL, enc_app]
        show enc P ++ enc (c :: R) = _
        rw [show enc (c :: R) = enc1 c ++ enc R from List.flatMap_cons]
      have eLl : (enc L).length = (enc P).length + ((enc1 c).length + (enc R).length) := by rw [eLs, List.length_append, List.length_append]
      have hP : L = (P ++ [c]) ++ R := by rw [hL, List.append_assoc]; rfl
      have eP : (enc (P ++ [c])).length = (enc P).length + (enc1 c).length := by rw [enc_app, enc_one, List.length_append]
      have pos1 : 1 ≤ (enc1 c).length := by
        unfold enc1
        split
        · exact Nat.le_succ 1
        · split <;> exact Nat.le_refl 1
      have code : ∀ i, i < (enc1 c).length → km_a u 56 (a + ((enc P).length + i)) = (enc1 c).getD i 0 := by
        intro i hi
        rw [h1.2.1 56 (by decide), hcode _ (by omega), eLs, l_getD_r2, l_getD_l hi]
      have ei : l5.toNatClampNeg = a + ((enc P).length + 0) := by rw [ki_nat, hl]; omega
      refine ⟨fun x => absurd x (by omega), fun _ _ => ?_⟩
      rw [ei, code 0 (by omega)]
      rintro v6 rfl
      unfold ed_ at hed
      have kk : ∀ u', ms_ μ (e_run (e_mn g r μ) R (e_st (e_mn g r μ) s c)) u' → Q ((e_run (e_mn g r μ) R (e_st (e_mn g r μ) s c)).2 0) u' := kk
      by_cases ps : -8 < c.toInt
      · rw [if_pos ps] at hed
        have es : e_st (e_mn g r μ) s c = (s.1 + 1, upd s.2 s.1 (if 0 ≤ c.toInt then c else e_mn g r μ (-1 - c).toNatClampNeg)) := if_pos ps
        rw [es] at kk
        have e68 : (km_i u 68).toNatClampNeg = s.1 := by rw [ki_nat, h2]; omega
        have push : ∀ (v : Int32), ms_ μ (s.1 + 1, upd s.2 s.1 v) (km_si (km_sa u 57 s.1 v) 68 (km_i u 68 + 1)) := by
          intro v
          refine ⟨md_si (md_sa h1), ?_, fun i hi => ?_⟩
          · show (upd u.1 68 (km_i u 68 + 1) 68).toInt = ((s.1 + 1 : Nat) : Int)
            rw [w_updS, ki_add (by rw [h2, ki_z1]; omega) (by rw [h2, ki_z1]; omega), h2, ki_z1]
            omega
          · have hi : i < s.1 + 1 := hi
            show upd (u.2.1 57) s.1 v i = upd s.2 s.1 v i
            by_cases q : i = s.1
            · rw [q, w_updS, w_updS]
            · rw [w_updN q, w_updN q]
              exact h3 i (by omega)
        by_cases c0 : 0 ≤ c.toInt
        · have en : enc1 c = [0, c] := if_pos (by rw [ki_le, ki_z0]; exact c0)
          rw [if_pos c0] at kk
          have e2 : (enc (P ++ [c])).length = (enc P).length + 2 := by rw [eP, en]; rfl
          have c1 := code 1 (by rw [en]; show 1 < 2; omega)
          rw [en] at c1
          rw [en]
          refine ⟨fun x => absurd rfl x, fun _ => ?_⟩
          rintro v24 e24 _ _ μ27 rfl μ28 rfl
          have hv24 := nx v24 l5 _ e24 hl (by rw [eLl] at eL; omega)
          have ev : v24.toNatClampNeg = a + ((enc P).length + 1) := by rw [ki_nat, hv24]; omega
          rw [ev, c1, e68]
          unfold vX12_told_187
          intro v1 e1
          have hv1 := nx v1 v24 _ e1 hv24 (by rw [eLl] at eL; omega)
          refine ih R (P ++ [c]) (s.1 + 1, upd s.2 s.1 c) v1 _ hP ?_ (by show s.1 + 1 ≤ 33; omega) hed.2 (push c) (fun u' h' => kk u' h')
          rw [hv1, e2]
          omega
        · have n0 : ¬ (0 : Int32) ≤ c := by rw [ki_le, ki_z0]; exact c0
          obtain ⟨w, ew, hw⟩ := ki_rsub (c := c) p19 (by omega) (by omega)
          have en : enc1 c = [w] := by
            rw [ew]
            exact (if_neg n0).trans (if_pos (by rw [ki_lt, m8]; exact ps))
          rw [if_neg c0] at kk
          have e2 : (enc (P ++ [c])).length = (enc P).length + 1 := by rw [eP, en]; rfl
          rw [en]
          show (¬ w = 0 → _) ∧ _
          obtain ⟨y, ey, hy⟩ := ki_rsub (c := c) ki_zm (by omega) (by omega)
          rw [← ey] at kk
          refine ⟨fun _ => ⟨fun x => ?_, fun _ => ?_⟩, fun x => ?_⟩
          · have x : w < 20 := x
            rw [ki_lt, hw, p20] at x
            omega
          · have ev : w - 20 = y := by
              rw [ki_eq, ki_sub (by rw [hw, p20]; omega) (by rw [hw, p20]; omega), hw, p20, hy]
              omega
            show vX12_value (w - 20) gI r u _
            rw [ev]
            refine vt_value h1 eg (by rw [hy]; omega) (by rw [hy]; omega) ?_
            rintro _ μ22 rfl μ23 rfl
            rw [e68]
            unfold vX12_told_187
            intro v1 e1
            have hv1 := nx v1 l5 _ e1 hl (by rw [eLl] at eL; omega)
            refine ih R (P ++ [c]) (s.1 + 1, upd s.2 s.1 (e_mn g r μ y.toNatClampNeg)) v1 _ hP ?_ (by show s.1 + 1 ≤ 33; omega) hed.2 (push _) (fun u' h' => kk u' h')
            rw [hv1, e2]
            omega
          · have x : w = 0 := x
            rw [ki_eq, hw, ki_z0] at x
            omega
      · rw [if_neg ps] at hed
        have n0 : ¬ (0 : Int32) ≤ c := by rw [ki_le, ki_z0]; omega
        have n8 : ¬ (-8 : Int32) < c := by rw [ki_lt, m8]; exact ps
        have lo : -16 ≤ c.toInt := by
          split at hed
          · omega
          · omega
        obtain ⟨w, ew, hw⟩ := ki_rsub (c := c) m7 (by omega) (by omega)
        have en : enc1 c = [w] := by
          rw [ew]
          exact (if_neg n0).trans (if_neg n8)
        have e2 : (enc (P ++ [c])).length = (enc P).length + 1 := by rw [eP, en]; rfl
        rw [en]
        show (¬ w = 0 → _) ∧ _
        refine ⟨fun _ => ⟨fun _ => ?_, fun x => ?_⟩, fun x => ?_⟩
        · by_cases c16 : c.toInt = -16
          · rw [if_pos c16] at hed
            have es : e_st (e_mn g r μ) s c = (s.1, upd s.2 (s.1 - 1) (if s.2 (s.1 - 1) = 0 then 1 else 0)) := (if_neg ps).trans (if_pos c16)
            rw [es] at kk
            have e9 : w = 9 := ki_eq.2 (by rw [hw, c16]; decide)
            refine ⟨fun x => absurd e9 x, fun _ _ => ?_⟩
            have h1' := hed.1
            obtain ⟨t, et, ht⟩ : ∃ t, t = km_i u 68 - 1 ∧ t.toInt = ((s.1 - 1 : Nat) : Int) := ⟨_, rfl, by
              rw [ki_sub (by rw [h2, ki_z1]; omega) (by rw [h2, ki_z1]; omega), h2, ki_z1]
              omega⟩
            rw [← et]
            have e68 : t.toNatClampNeg = s.1 - 1 := by rw [ki_nat, ht]; omega
            have fin : ∀ v : Int32, v = (if s.2 (s.1 - 1) = 0 then 1 else 0) → vX12_told_137 (vX12_told_187 (vX12_told_8 (vX12_told_193 Q) Q j) Q) Q l2 gI r l5 v t u := by
              intro v ev
              unfold vX12_told_137 vX12_told_187
              rw [e68]
              rintro _ μ3 rfl v1 e1
              have hv1 := nx v1 l5 _ e1 hl (by rw [eLl] at eL; omega)
              refine ih R (P ++ [c]) (s.1, upd s.2 (s.1 - 1) (if s.2 (s.1 - 1) = 0 then 1 else 0)) v1 _ hP ?_ h33 hed.2 ⟨md_sa h1, h2, fun i hi => ?_⟩ (fun u' h' => kk u' h')
              · rw [hv1, e2]
                omega
              · have hi : i < s.1 := hi
                show upd (u.2.1 57) (s.1 - 1) v i = upd s.2 (s.1 - 1) (if s.2 (s.1 - 1) = 0 then 1 else 0) i
                rw [← ev]
                by_cases q : i = s.1 - 1
                · rw [q, w_updS, w_updS]
                · rw [w_updN q, w_updN q]
                  exact h3 i hi
            rw [e68, h3 (s.1 - 1) (by omega)]
            exact ⟨fun q => fin 0 (if_neg q).symm, fun q => fin 1 (if_pos q).symm⟩
          · rw [if_neg c16] at hed
            obtain ⟨g1, g2, g3⟩ := hed
            have es : e_st (e_mn g r μ) s c = (s.1 - 1, upd s.2 (s.1 - 2) (e_join c (s.2 (s.1 - 2)) (s.2 (s.1 - 1)))) := (if_neg ps).trans (if_neg c16)
            rw [es] at kk
            have n9 : ¬ w = 9 := by
              rw [ki_eq, hw, show (9 : Int32).toInt = 9 by decide]
              omega
            refine ⟨fun _ => ?_, fun x => absurd x n9⟩
            rintro μ10 rfl _ _
            obtain ⟨t, et, ht⟩ : ∃ t, t = km_i u 68 - 1 ∧ t.toInt = ((s.1 - 1 : Nat) : Int) := ⟨_, rfl, by
              rw [ki_sub (by rw [h2, ki_z1]; omega) (by rw [h2, ki_z1]; omega), h2, ki_z1]
              omega⟩
            rw [← et]
            have x68 : km_i (km_si u 68 t) 68 = t := by
              show upd u.1 68 t 68 = t
              exact w_updS
            obtain ⟨t2, et2, ht2⟩ : ∃ t2, t2 = t - 1 ∧ t2.toInt = ((s.1 - 2 : Nat) : Int) := ⟨_, rfl, by
              rw [ki_sub (by rw [ht, ki_z1]; omega) (by rw [ht, ki_z1]; omega), ht, ki_z1]
              omega⟩
            have i1 : t.toNatClampNeg = s.1 - 1 := by rw [ki_nat, ht]; omega
            have i2 : t2.toNatClampNeg = s.1 - 2 := by rw [ki_nat, ht2]; omega
            rw [x68, ← et2, i1, i2]
            have a1 : km_a (km_si u 68 t) 57 (s.1 - 1) = s.2 (s.1 - 1) := h3 _ (by omega)
            have a2 : km_a (km_si u 68 t) 57 (s.1 - 2) = s.2 (s.1 - 2) := h3 _ (by omega)
            rw [a1, a2]
            show vX12_two w _ _ _ _
            rw [ew]
            refine vt_two ps g1 ?_
            rintro _ μ16 rfl
            unfold vX12_told_187
            intro v1 e1
            have hv1 := nx v1 l5 _ e1 hl (by rw [eLl] at eL; omega)
            refine ih R (P ++ [c]) (s.1 - 1, upd s.2 (s.1 - 2) (e_join c (s.2 (s.1 - 2)) (s.2 (s.1 - 1)))) v1 _ hP ?_ (by show s.1 - 1 ≤ 33; omega) g3 ⟨md_sa (md_si h1), ?_, fun i hi => ?_⟩ (fun u' h' => kk u' h')
            · rw [hv1, e2]
              omega
            · show (km_i (km_si u 68 t) 68).toInt = ((s.1 - 1 : Nat) : Int)
              rw [x68]
              exact ht
            · have hi : i < s.1 - 1 := hi
              show upd (u.2.1 57) (s.1 - 2) _ i = upd s.2 (s.1 - 2) _ i
              by_cases q : i = s.1 - 2
              · rw [q, w_updS, w_updS]
              · rw [w_updN q, w_updN q]
                exact h3 i (by omega)
        · exfalso
          apply x
          show w < 20
          rw [ki_lt, hw, p20]
          omega
        · have x : w = 0 := x
          rw [ki_eq, hw, ki_z0] at x
          omega
theorem vt_told {Q : Int32 → km_S → Prop} {L : List Int32} {a : Nat} {l1 l2 : Int32} {u : km_S} (eg : gI.toNatClampNeg = g) (ha : a ≤ 6000) (hlen : L.length ≤ 500) (hfr : l1.toInt = (a : Int)) (hto : l2.toInt = ((a + (enc L).length : Nat) : Int)) (hcode : ∀ i, i < (enc L).length → km_a μ 56 (a + i) = (enc L).getD i 0) (hed : ed_ 33 L 0 1) (hu : md_ μ u) (kk : ∀ u', md_ μ u' → Q (e_val (e_mn g r μ) L) u') : vX12_told l1 l2 gI r u Q := by
  unfold vX12_told
  rintro μ29 rfl j
  refine vt_told8 eg ha hlen hto hcode j L [] (0, fun _ => 0) l1 _ rfl ?_ (by decide) hed ⟨md_si hu, ?_, fun i hi => absurd hi (Nat.not_lt_zero i)⟩ (fun u' h' => kk u' h'.1)
  · rw [hfr]
    rfl
  · show (upd u.1 68 0 68).toInt = _
    rw [w_updS]
    rfl
/-- a law in the reference -/
def mL_ (l : Nat) (R : List (Bool × List Int32)) (μ : km_S) : Prop := (km_a μ 54 l).toInt = (R.length : Int) ∧ R.length ≤ 12 ∧ mR_ l R μ ∧ (km_a μ 55 (13 * l + R.length)).toInt = ((enc (p_ops R)).length : Int) ∧ (∀ i, i < (enc (p_ops R)).length → km_a μ 56 (900 * l + i) = (enc (p_ops R)).getD i 0) ∧ (∀ x ∈ R, ed_ 33 x.2 0 1) ∧ (p_ops R).length ≤ 500
theorem vt_71 {Q : Int32 → km_S → Prop} {R : List (Bool × List Int32)} {l : Nat} {l4 : Int32} (eg : gI.toNatClampNeg = g) (hl6 : l < 6) (hl4 : l4.toInt = (l : Int)) (hL : mL_ l R μ) : ∀ (j q : Nat) (l5 l6 : Int32) (u : km_S), l6.toInt = (q : Int) → q ≤ R.length → (l5 = 0 ∨ l5 = 1) → md_ μ u → (∀ u', md_ μ u' → Q (if l5 = 1 ∨ e_bar (e_mn g r μ) (R.drop q) = true then 1 else 0) u') → vX12_ruled_71 Q j 0 gI r l4 l5 l6 u := by
  obtain ⟨b1, b2, b3, b4, b5, b6, b7⟩ := hL
  have z12 : (12 : Int32).toInt = 12 := by decide
  have z13 : (13 : Int32).toInt = 13 := by decide
  have z900 : (900 : Int32).toInt = 900 := by decide
  have el : l4.toNatClampNeg = l := by rw [ki_nat, hl4]; omega
  have nm1 : ¬ l4 = -1 := by rw [ki_eq, ki_zm]; omega
  have eE := enc_len (p_ops R)
  intro j
  induction j with
  | zero => intro _ _ _ _ _ _ _ _ _; exact trivial
  | succ j ih =>
    intro q l5 l6 u hq hqR h5 hu kk
    unfold vX12_ruled_71
    refine ⟨fun x => absurd x nm1, fun _ _ => ?_⟩
    rw [el, hu.2.1 54 (by decide), ki_le, b1, hq]
    refine ⟨fun c => ?_, fun c _ => ?_⟩
    · have : q = R.length := by omega
      rw [this, List.drop_length] at kk
      have e : (if l5 = 1 ∨ e_bar (e_mn g r μ) [] = true then (1 : Int32) else 0) = l5 := by
        rcases h5 with e | e
        · rw [e, if_neg]
          rintro (x | x)
          · exact absurd x (by decide)
          · exact absurd x (by unfold e_bar; simp)
        · rw [e, if_pos (.inl rfl)]
      rw [e] at kk
      exact kk u hu
    · have hlt : q < R.length := by omega
      obtain ⟨x, hx⟩ : ∃ x, R[q]? = some x := ⟨R[q], List.getElem?_eq_getElem hlt⟩
      obtain ⟨r1, r2⟩ := b3 q x hx
      have ed : R.drop q = x :: R.drop (q + 1) := by
        rw [List.drop_eq_getElem_cons hlt]
        rw [List.getElem?_eq_getElem hlt] at hx
        rw [Option.some.inj hx]
      have hxm : x ∈ R := List.mem_of_getElem? hx
      have e12 : (12 * l4).toInt = 12 * (l : Int) := by rw [ki_mul (by rw [z12, hl4]; omega) (by rw [z12, hl4]; omega), z12, hl4]
      have i58 : (12 * l4 + l6).toNatClampNeg = 12 * l + q := by
        rw [ki_nat, ki_add (by rw [e12, hq]; omega) (by rw [e12, hq]; omega), e12, hq]
        omega
      have e13 : (13 * l4).toInt = 13 * (l : Int) := by rw [ki_mul (by rw [z13, hl4]; omega) (by rw [z13, hl4]; omega), z13, hl4]
      have t55 : (13 * l4 + l6).toInt = ((13 * l + q : Nat) : Int) := by
        rw [ki_add (by rw [e13, hq]; omega) (by rw [e13, hq]; omega), e13, hq]
        omega
      have i55 : (13 * l4 + l6).toNatClampNeg = 13 * l + q := by rw [ki_nat, t55]; omega
      have i56 : (13 * l4 + l6 + 1).toNatClampNeg = 13 * l + (q + 1) := by
        rw [ki_nat, ki_add (by rw [t55, ki_z1]; omega) (by rw [t55, ki_z1]; omega), t55, ki_z1]
        omega
      have nx : ∀ v1 : Int32, v1 = l6 + 1 → v1.toInt = ((q + 1 : Nat) : Int) := by
        intro v1 e
        rw [e, ki_add (by rw [hq, ki_z1]; omega) (by rw [hq, ki_z1]; omega), hq, ki_z1]
        omega
      have eb : e_bar (e_mn g r μ) (R.drop q) = ((!x.1 && decide (¬ e_val (e_mn g r μ) x.2 = 0)) || e_bar (e_mn g r μ) (R.drop (q + 1))) := by
        rw [ed]
        unfold e_bar
        rw [List.any_cons]
      rw [i58, hu.2.1 58 (by decide), r1]
      refine ⟨fun c2 => ?_, fun c2 => ?_⟩
      · have hx1 : x.1 = false := by
          cases y : x.1 with
          | false => rfl
          | true => rw [y, if_pos rfl] at c2; exact absurd c2 (by decide)
        rintro v15 rfl _ _
        rw [i55, i56, hu.2.1 55 (by decide)]
        have sp : p_ops R = p_ops (R.take q) ++ (x.2 ++ p_ops (R.drop (q + 1))) := by
          conv => lhs; rw [← List.take_append_drop q R, ed]
          rw [p_ops_app]
          rfl
        have spE : enc (p_ops R) = enc (p_ops (R.take q)) ++ (enc x.2 ++ enc (p_ops (R.drop (q + 1)))) := by rw [sp, enc_app, enc_app]
        have spL : (enc (p_ops R)).length = (enc (p_ops (R.take q))).length + ((enc x.2).length + (enc (p_ops (R.drop (q + 1)))).length) := by rw [spE, List.length_append, List.length_append]
        have xl : x.2.length ≤ 500 := by
          have : (p_ops R).length = (p_ops (R.take q)).length + (x.2.length + (p_ops (R.drop (q + 1))).length) := by rw [sp, List.length_append, List.length_append]
          omega
        have r3 : (km_a μ 55 (13 * l + (q + 1))).toInt = (((enc (p_ops (R.take q))).length + (enc x.2).length : Nat) : Int) := by
          have tk : p_ops (R.take (q + 1)) = p_ops (R.take q) ++ x.2 := by
            rw [List.take_add_one, hx, p_ops_app]
            show p_ops (R.take q) ++ p_ops [x] = _
            rw [p_ops_one]
          by_cases c3 : q + 1 < R.length
          · obtain ⟨y, hy⟩ : ∃ y, R[q + 1]? = some y := ⟨R[q + 1], List.getElem?_eq_getElem c3⟩
            rw [(b3 (q + 1) y hy).2, tk, enc_app, List.length_append]
          · have e : q + 1 = R.length := by omega
            rw [e, b4]
            rw [e, List.take_length] at tk
            rw [tk, enc_app, List.length_append]
        have e900 : (900 * l4).toInt = 900 * (l : Int) := by rw [ki_mul (by rw [z900, hl4]; omega) (by rw [z900, hl4]; omega), z900, hl4]
        refine vt_told (a := 900 * l + (enc (p_ops (R.take q))).length) (L := x.2) eg (by omega) xl ?_ ?_ (fun i hi => ?_) (b6 x hxm) hu (fun u' h' => ?_)
        · rw [ki_add (by rw [e900, r2]; omega) (by rw [e900, r2]; omega), e900, r2]
          omega
        · rw [ki_add (by rw [e900, r3]; omega) (by rw [e900, r3]; omega), e900, r3]
          omega
        · rw [Nat.add_assoc, b5 _ (by omega), spE, l_getD_r2, l_getD_l hi]
        · refine ⟨fun _ => ?_, fun y => absurd rfl y⟩
          rw [eb, hx1] at kk
          unfold vX12_ruled_180 vX12_ruled_182
          refine ⟨fun z v1 e1 => ih (q + 1) l5 v1 u' (nx v1 e1) (by omega) h5 h' (fun u2 h2 => ?_), fun z v1 e1 => ih (q + 1) 1 v1 u' (nx v1 e1) (by omega) (.inr rfl) h' (fun u2 h2 => ?_)⟩
          · have := kk u2 h2
            simp [z] at this
            exact this
          · have := kk u2 h2
            simp [z] at this
            simp
            exact this
      · have hx1 : x.1 = true := by
          cases y : x.1 with
          | true => rfl
          | false => rw [y, if_neg (by decide)] at c2; exact absurd rfl c2
        rw [eb, hx1] at kk
        unfold vX12_ruled_182
        intro v1 e1
        refine ih (q + 1) l5 v1 u (nx v1 e1) (by omega) h5 hu (fun u2 h2 => ?_)
        have := kk u2 h2
        simp at this
        exact this
def lI_ : Option Nat → Int32
  | none => -1
  | some q => nI q
theorem vt_ruled {Q : Int32 → km_S → Prop} {m : Nat} {day : Nat → Int32} {RL : Nat → List (Bool × List Int32)} (eg : gI.toNatClampNeg = g) (h5 : (km_i μ 5).toInt = (m : Int)) (hm : m ≤ 6) (hday : ∀ i, i < m → km_a μ 53 i = day i) (hL : ∀ l, l < m → mL_ l (RL l) μ) (kk : ∀ u', md_ μ u' → Q (if e_barO (e_mn g r μ) ((lf_ day (km_i μ 2 / 24) m 0 none).map RL) = true then 1 else 0) u') : vX12_ruled 0 gI r μ Q := by
  unfold vX12_ruled
  have fin : ∀ l : Option Nat, (∀ q, l = some q → q < m) → (∀ u', md_ μ u' → Q (if e_barO (e_mn g r μ) (l.map RL) = true then 1 else 0) u') → vX12_ruled_65 Q 0 gI r (lI_ l) μ := by
    intro l hl kl
    unfold vX12_ruled_65
    intro j
    cases l with
    | none =>
      cases j with
      | zero => exact trivial
      | succ j =>
        unfold vX12_ruled_71
        exact ⟨fun _ => kl μ md_refl, fun x => absurd rfl x⟩
    | some q =>
      have hq := hl q rfl
      refine vt_71 (l := q) eg (by omega) (t_nI (by omega)) (hL q hq) j 0 0 0 μ (by decide) (Nat.zero_le _) (.inl rfl) md_refl (fun u' h' => ?_)
      have := kl u' h'
      have e : (if e_barO (e_mn g r μ) ((some q).map RL) = true then (1 : Int32) else 0) = if (0 : Int32) = 1 ∨ e_bar (e_mn g r μ) ((RL q).drop 0) = true then 1 else 0 := by
        show (if e_bar (e_mn g r μ) (RL q) = true then (1 : Int32) else 0) = if (0 : Int32) = 1 ∨ e_bar (e_mn g r μ) (RL q) = true then 1 else 0
        by_cases z : e_bar (e_mn g r μ) (RL q) = true
        · rw [if_pos z, if_pos (.inr z)]
        · rw [if_neg z, if_neg]
          rintro (y | y)
          · exact absurd y (by decide)
          · exact z y
      rw [← e]
      exact this
  have loop : ∀ (j k p : Nat) (i : Int32) (l : Option Nat), i.toInt = (p : Int) → p + k = m → (∀ q, l = some q → q < m) → (∀ u', md_ μ u' → Q (if e_barO (e_mn g r μ) ((lf_ day (km_i μ 2 / 24) k p l).map RL) = true then 1 else 0) u') → vX12_ruled_6 (vX12_ruled_65 Q) Q j 0 gI r (lI_ l) i μ := by
    intro j
    induction j with
    | zero => intro _ _ _ _ _ _ _ _; exact trivial
    | succ j ih =>
      intro k p i l hi hp hl kq
      unfold vX12_ruled_6
      rw [ki_le, h5, hi]
      refine ⟨fun c => ?_, fun c _ => ?_⟩
      · have : k = 0 := by omega
        subst this
        exact fin l hl kq
      · obtain ⟨k, rfl⟩ : ∃ q, k = q + 1 := ⟨k - 1, by omega⟩
        have ei : i.toNatClampNeg = p := by rw [ki_nat, hi]; omega
        rw [ei, hday p (by omega)]
        have nx : ∀ v1 : Int32, v1 = i + 1 → v1.toInt = ((p + 1 : Nat) : Int) := by
          intro v1 e
          rw [e, ki_add (by rw [hi, ki_z1]; omega) (by rw [hi, ki_z1]; omega), hi, ki_z1]
          omega
        have ip : i = lI_ (some p) := ki_eq.2 (by rw [hi]; exact (t_nI (by omega)).symm)
        rw [lf_succ] at kq
        refine ⟨fun d => ?_, fun d => ?_⟩
        · rw [lf_n1 d] at kq
          unfold vX12_ruled_59
          intro v2 e2
          exact ih k (p + 1) v2 l (nx v2 e2) (by omega) hl kq
        · have new : (∀ u', md_ μ u' → Q (if e_barO (e_mn g r μ) ((lf_ day (km_i μ 2 / 24) k (p + 1) (some p)).map RL) = true then 1 else 0) u') → vX12_ruled_55 (vX12_ruled_59 (vX12_ruled_6 (vX12_ruled_65 Q) Q j) Q) Q 0 gI r i μ := by
            intro kn
            unfold vX12_ruled_55 vX12_ruled_59
            intro v2 e2
            have := ih k (p + 1) v2 (some p) (nx v2 e2) (by omega) (fun q e => by rw [← Option.some.inj e]; omega) kn
            rw [← ip] at this
            exact this
          cases l with
          | none =>
            rw [lf_n2 d] at kq
            exact ⟨fun _ => new kq, fun x => absurd rfl x⟩
          | some q =>
            have hq := hl q rfl
            have tq : (lI_ (some q)).toInt = (q : Int) := t_nI (by omega)
            have eq : (lI_ (some q)).toNatClampNeg = q := by rw [ki_nat, tq]; omega
            refine ⟨fun x => ?_, fun _ _ _ => ?_⟩
            · rw [ki_eq, tq, ki_zm] at x
              omega
            · rw [eq, hday q hq]
              rw [lf_n3 d] at kq
              refine ⟨fun e => ?_, fun e => ?_⟩
              · rw [if_pos e] at kq
                unfold vX12_ruled_59
                intro v2 e2
                exact ih k (p + 1) v2 (some q) (nx v2 e2) (by omega) hl kq
              · rw [if_neg e] at kq
                exact new kq
  intro j
  exact loop j m 0 0 none (by decide) (by omega) (fun q e => absurd e (by simp)) kk
end

