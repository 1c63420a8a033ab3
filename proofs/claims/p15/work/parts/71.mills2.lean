theorem rz_mills {σ : sz_T × Int32} {μ : km_S} {Q : km_S → Prop} (H : ih_ σ μ) (kk : ∀ μ', ih_ σ μ' → Q μ') : wX12_mills μ Q := by
  have L38 : ∀ (K : Int32 → Int32 → Int32 → km_S → Prop) (r o : Int32), vp_in r 10 → vp_in o 60 → (∀ d μ', ih_ σ μ' → K r d o μ') → ∀ (n : Nat) (d p : Int32) (μ2 : km_S), 0 ≤ p.toInt → p.toInt ≤ 100 → (km_a μ2 29 r.toNatClampNeg).toInt - p.toInt < (n : Int) → 0 < n → ih_ σ μ2 → wX12_mills_38 K Q n r d o p μ2 := by
    intro K r o hr ho hK n
    have hr4 := ki_in.1 hr
    obtain ⟨rn, ern⟩ : ∃ rn, rn = r.toNatClampNeg := ⟨_, rfl⟩
    have hrn : (rn : Int) = r.toInt := by rw [ern, ki_nat]; omega
    induction n with
    | zero => intro d p μ2 h1 h2 h3 h0; omega
    | succ n ih =>
      intro d p μ2 h1 h2 h3 h0 H2
      rw [← ern] at h3
      have oh := H2.1.2.2.2.1 rn (by omega)
      refine ⟨hr, fun _ => hK _ _ H2, fun c => ⟨ho, fun _ => hK _ _ H2, fun _ => ⟨fun _ => hK _ _ H2, fun _ => ?_⟩⟩⟩
      rw [ki_le, ← ern] at c
      have pi := ki_inc (a := p) (by omega) (by omega)
      have h100 := ki_100 (r := r) (i := p) (by omega) (by omega) (by omega) (by omega)
      obtain ⟨x, ex⟩ : ∃ x, x = p.toNatClampNeg := ⟨_, rfl⟩
      have hx : (x : Int) = p.toInt := by rw [ex, ki_nat]; omega
      have pt : (100 * r + p).toNatClampNeg = 100 * rn + x := by rw [ki_nat, h100]; omega
      refine ⟨by rw [ki_in]; omega, fun v ev => ?_⟩
      rw [pt] at ev
      have og := oh.2 x (by omega)
      rw [← ev] at og
      have hv : vp_in v 400 := by rw [ki_in]; omega
      have next : ∀ d', wX12_mills_109 (wX12_mills_38 K Q n) Q r d' o p μ2 := fun d' w ew => by
        rw [ew]
        exact ih d' (p + 1) μ2 (by omega) (by omega) (by rw [← ern]; omega) (by omega) H2
      refine ⟨hv, ho, fun _ => next d, fun _ => ⟨hv, ho, fun _ => ⟨101, ?_⟩, fun _ => next d⟩⟩
      have hlog := H2.1.2.2.2.2.1 v.toNatClampNeg (by rw [ki_nat]; omega)
      have L119 : ∀ (m : Nat) (q : Int32) (M : km_S), p.toInt ≤ q.toInt → q.toInt + 1 ≤ (km_a μ2 29 rn).toInt → (km_a μ2 29 rn).toInt - q.toInt ≤ (m : Int) → ke_ [] [30] μ2 M →
          (∀ y : Nat, (y : Int) < 100 * r.toInt + p.toInt ∨ 100 * r.toInt + q.toInt ≤ (y : Int) → km_a M 30 y = km_a μ2 30 y) → (∀ y : Nat, 100 * r.toInt + p.toInt ≤ (y : Int) → (y : Int) < 100 * r.toInt + q.toInt → km_a M 30 y = km_a μ2 30 (y + 1)) →
          wX12_mills_119 (wX12_mills_164 (wX12_mills_38 K Q n) Q) Q m r d o p v q M := by
        intro m
        induction m with
        | zero => intro q M g1 g2 g3; omega
        | succ m ihm =>
          intro q M g1 g2 g3 KM f1 f2
          have qi := ki_inc (a := q) (by omega) (by omega)
          have e29 : km_a M 29 = km_a μ2 29 := KM.2 29 (by decide)
          refine ⟨hr, fun cc => ?_, fun cc => ?_⟩
          · rw [← ern, e29, ki_le, qi] at cc
            refine ⟨hr, hr, fun μ6 e6 => ?_⟩
            rw [← ern] at e6
            have hun := im_un_saw (f := km_a μ2 38) (g := v.toNatClampNeg) (by rw [og.2.1]; decide) 400 (by rw [ki_nat]; omega)
            have hs := H2.1.2.2.2.2.2.1
            have i6 : km_i μ6 6 = km_i μ2 6 := by rw [e6]; exact KM.1 6 (by decide)
            have a36 : km_a μ6 36 = km_a μ2 36 := by rw [e6]; exact KM.2 36 (by decide)
            have hs1 := hs.1
            have hs2 := hs.2
            refine rz_saw hv (by rw [a36]; omega) (by rw [i6]; omega) (by rw [i6]; omega) (fun M2 K2 e38 b0 b1 => ⟨ho, ho, fun μ10 e10 w ew => ?_⟩)
            have K6 : ke_ [6] [29, 30, 38, 42, 43, 50] μ2 μ6 := by rw [e6]; exact ke_sa (by decide) (ke_mono (by simp) (by simp) KM)
            have K10 : ke_ [6] [29, 30, 38, 42, 43, 50] μ2 μ10 := by rw [e10]; exact ke_sa (by decide) (ke_trans K6 (ke_mono (by simp) (by simp) K2))
            have m29 : km_a μ10 29 = upd (km_a μ2 29) rn (km_a μ2 29 rn - 1) := by
              rw [e10]
              refine Eq.trans (K2.2 29 (by decide)) ?_
              rw [e6, ← e29]
              rfl
            have m30 : km_a μ10 30 = km_a M 30 := by
              rw [e10]
              refine Eq.trans (K2.2 30 (by decide)) ?_
              rw [e6]
              rfl
            have m38 : km_a μ10 38 = upd (km_a μ2 38) v.toNatClampNeg 3 := by
              rw [e10]
              refine Eq.trans e38 ?_
              rw [e6]
              exact congrArg (fun f => upd f v.toNatClampNeg 3) (KM.2 38 (by decide))
            have m6 : km_i μ10 6 = km_i M2 6 := by rw [e10]; rfl
            have H10 : ih_ σ μ10 := by
              refine ih_mill (r := rn) (p := x) H2 (by omega) (by omega) K10 m29 ?_ ?_ ?_ ?_ (by rw [m6]; omega) (by rw [m6, ← i6]; omega)
              · intro t ht tr y hy
                rw [m30]
                refine f1 _ ?_
                rcases Nat.lt_or_gt_of_ne tr with u | u
                · left; omega
                · right; omega
              · intro y hy
                rw [m30]
                exact f1 _ (.inl (by omega))
              · intro y hy1 hy2
                rw [m30]
                exact f2 _ (by omega) (by omega)
              · rw [← ev]; exact m38
            have h29 := congrFun m29 rn
            rw [ku_self] at h29
            have dec := ki_dec2 (a := km_a μ2 29 rn) (by omega)
            have hh := H10.1.2.2.2.1 rn (by omega)
            exact ih w p μ10 (by omega) (by omega) (by rw [← ern, h29]; omega) (by omega) H10
          · rw [← ern, e29, ki_le, qi] at cc
            have q100 := ki_100 (r := r) (i := q) (by omega) (by omega) (by omega) (by omega)
            have q101 := ki_inc (a := 100 * r + q) (by omega) (by omega)
            refine ⟨by rw [ki_in]; omega, by rw [ki_in]; omega, fun μ16 e16 w ew => ?_⟩
            rw [ew]
            have m30 : km_a μ16 30 = upd (km_a M 30) (100 * r + q).toNatClampNeg (km_a M 30 (100 * r + q + 1).toNatClampNeg) := by rw [e16]; rfl
            refine ihm (q + 1) μ16 (by omega) (by omega) (by omega) (by rw [e16]; exact ke_sa (by decide) KM) ?_ ?_
            · intro y hy
              rw [m30, ku_ne (by rw [ki_nat]; omega)]
              exact f1 y (by omega)
            · intro y hy1 hy2
              by_cases e : y = (100 * r + q).toNatClampNeg
              · rw [m30, e, ku_self]
                rw [ki_nat] at e
                have u : (100 * r + q + 1).toNatClampNeg = (100 * r + q).toNatClampNeg + 1 := by rw [ki_nat, ki_nat]; omega
                rw [u]
                exact f1 _ (.inr (by rw [ki_nat]; omega))
              · rw [m30, ku_ne e]
                rw [ki_nat] at e
                exact f2 y hy1 (by omega)
      exact L119 101 p μ2 (by omega) (by omega) (by omega) ke_refl (fun _ _ => rfl) (fun y a b => by omega)
  have L14 : ∀ (K : Int32 → km_S → Prop) (r : Int32), vp_in r 10 → (∀ μ', ih_ σ μ' → K r μ') → ∀ (n : Nat) (d o : Int32) (μ2 : km_S), 0 ≤ o.toInt → o.toInt ≤ 60 → 60 - o.toInt < (n : Int) → ih_ σ μ2 → wX12_mills_14 K Q n r d o μ2 := by
    intro K r hr hK n
    induction n with
    | zero => intro d o μ2 h1 h2 h3; omega
    | succ n ih =>
      intro d o μ2 h1 h2 h3 H2
      have b := H2.1.1.2.2.2.2.1
      refine ⟨fun _ => hK _ H2, fun c => ?_⟩
      rw [ki_le] at c
      have ho : vp_in o 60 := by rw [ki_in]; omega
      have oi := ki_inc (a := o) (by omega) (by omega)
      have next : ∀ d' μ', ih_ σ μ' → wX12_mills_196 (wX12_mills_14 K Q n) Q r d' o μ' := fun d' μ' H' w ew => by
        rw [ew]
        exact ih d' (o + 1) μ' (by omega) (by omega) (by omega) H'
      have hh := (H2.1.2.2.2.1 r.toNatClampNeg (by have := ki_in.1 hr; rw [ki_nat]; omega)).1
      refine ⟨ho, fun _ => ⟨101, ?_⟩, fun _ => next _ _ H2⟩
      exact L38 _ r o hr ho next 101 d 0 μ2 (by decide) (by decide) (by rw [ki_z0]; omega) (by decide) H2
  have L2 : ∀ (n : Nat) (r : Int32) (μ2 : km_S), 0 ≤ r.toInt → r.toInt ≤ 10 → 10 - r.toInt < (n : Int) → ih_ σ μ2 → wX12_mills_2 Q n r μ2 := by
    intro n
    induction n with
    | zero => intro r μ2 h1 h2 h3; omega
    | succ n ih =>
      intro r μ2 h1 h2 h3 H2
      have b := H2.1.1.1
      refine ⟨fun _ => kk _ H2, fun c => ⟨61, ?_⟩⟩
      rw [ki_le] at c
      have ri := ki_inc (a := r) (by omega) (by omega)
      refine L14 _ r (by rw [ki_in]; omega) (fun μ' H' w ew => ?_) 61 0 0 μ2 (by decide) (by decide) (by decide) H2
      rw [ew]
      exact ih (r + 1) μ' (by omega) (by omega) (by omega) H'
  exact ⟨20, L2 20 0 μ (by decide) (by decide) (by decide) H⟩
/-! hours -/
def z_hours (n : Int32) (σ : sz_T) : Int32 × Int32 × sz_T := if n < 0 ∨ 200 < n ∨ ¬ (σ.1.2.2.2.2.2 + n ≤ 20000) then (1, 0, σ) else (0, σ.1.2.2.2.2.2 + n, ((σ.1.1, σ.1.2.1, σ.1.2.2.1, σ.1.2.2.2.1, σ.1.2.2.2.2.1, σ.1.2.2.2.2.2 + n), σ.2))
abbrev zn_ (σ : sz_T) (v : Int32) : sz_T := ((σ.1.1, σ.1.2.1, σ.1.2.2.1, σ.1.2.2.2.1, σ.1.2.2.2.2.1, v), σ.2)
theorem rz_hours {n : Int32} {μ : km_S} (I : im_ μ) : wX12_hours n μ (pz_ (z_hours n (sm_ μ))) := by
  intro μ1 e1
  have I1 : im_ μ1 := by rw [e1]; exact im_code 0 I
  have s1 : sm_ μ1 = sm_ μ := by rw [e1]; rfl
  have k1 : km_i μ1 1 = 0 := by rw [e1]; rfl
  rw [← s1]
  have no : (n < 0 ∨ 200 < n ∨ ¬ (km_i μ1 2 + n ≤ 20000)) → wX12_hours_28 (pz_ (z_hours n (sm_ μ1))) μ1 := fun c μ2 e2 => by
    subst e2
    refine ⟨im_code 1 I1, ?_⟩
    unfold z_hours
    rw [if_pos (show n < 0 ∨ 200 < n ∨ ¬ ((sm_ μ1).1.2.2.2.2.2 + n ≤ 20000) from c)]
    rfl
  refine ⟨fun c => no (.inl c), fun c => ⟨fun d => no (.inr (.inl d)), fun d => ⟨fun e => ⟨202, ?_⟩, fun e => no (.inr (.inr e))⟩⟩⟩
  rw [show z_hours n (sm_ μ1) = (0, km_i μ1 2 + n, zn_ (sm_ μ1) (km_i μ1 2 + n)) from if_neg (show ¬ (n < 0 ∨ 200 < n ∨ ¬ (km_i μ1 2 + n ≤ 20000)) from fun h => h.elim c (fun h => h.elim d (fun h => h e)))]
  rw [ki_lt, ki_z0] at c
  have z200 : (200 : Int32).toInt = 200 := by decide
  rw [ki_lt, z200] at d
  have L : ∀ (k : Nat) (i : Int32) (M : km_S), 0 ≤ i.toInt → i.toInt ≤ n.toInt → n.toInt - i.toInt < (k : Int) → ih_ (zn_ (sm_ μ1) (km_i μ1 2 + i), 0) M → wX12_hours_35 (wX12_hours_76 (pz_ (0, km_i μ1 2 + n, zn_ (sm_ μ1) (km_i μ1 2 + n)))) (pz_ (0, km_i μ1 2 + n, zn_ (sm_ μ1) (km_i μ1 2 + n))) k n i M := by
    intro k
    induction k with
    | zero => intro i M h1 h2 h3; omega
    | succ k ih =>
      intro i M h1 h2 h3 H
      refine ⟨fun q => ?_, fun q => ?_⟩
      · rw [ki_le] at q
        have en : i = n := ki_eq.2 (by omega)
        rw [en] at H
        refine ⟨H.1, ?_⟩
        have h1 := congrArg Prod.fst H.2
        have h2 := congrArg Prod.snd H.2
        have h3 : km_i M 2 = km_i μ1 2 + n := congrArg (fun s : sz_T => s.1.2.2.2.2.2) h1
        exact Prod.ext h2 (Prod.ext h3 h1)
      · rw [ki_le] at q
        have ii := ki_inc (a := i) (by omega) (by omega)
        refine rz_waterGoes H (fun μ4 H4 => rz_move H4 (fun μ5 H5 => rz_jams H5 (fun μ6 H6 => rz_older H6 (fun μ7 H7 => rz_mills H7 (fun μ8 H8 μ9 e9 w ew => ?_)))))
        rw [ew]
        refine ih (i + 1) μ9 (by omega) (by omega) (by omega) ?_
        rw [e9]
        refine ⟨H8.1, ?_⟩
        have h1 := congrArg Prod.fst H8.2
        have h2 := congrArg Prod.snd H8.2
        have h3 : km_i μ8 2 = km_i μ1 2 + i := congrArg (fun s : sz_T => s.1.2.2.2.2.2) h1
        refine Prod.ext ?_ h2
        show zn_ (sm_ μ8) (km_i μ8 2 + 1) = _
        rw [h3, Int32.add_assoc]
        have h4 : sm_ μ8 = zn_ (sm_ μ1) (km_i μ1 2 + i) := h1
        exact Eq.trans (congrArg (fun s : sz_T => zn_ s (km_i μ1 2 + (i + 1))) h4) rfl
  refine L 202 0 μ1 (by decide) (by rw [ki_z0]; omega) (by rw [ki_z0]; omega) ⟨I1, Prod.ext ?_ k1⟩
  show sm_ μ1 = zn_ (sm_ μ1) (km_i μ1 2 + 0)
  rw [Int32.add_zero]
  rfl
