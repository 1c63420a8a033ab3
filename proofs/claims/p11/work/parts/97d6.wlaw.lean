/-! water among the reference's calls -/
abbrev mw_ (μ u : km_S) : Prop := wm_ u = wm_ μ ∧ km_i u 3 = km_i μ 3
theorem wm_gw {μ : km_S} {W : List Nat} (hW : ∀ f ∈ W, f ≠ 3 ∧ f ≠ 11 ∧ f ≠ 12 ∧ f ≠ 13 ∧ f ≠ 18 ∧ f ≠ 19 ∧ f ≠ 24 ∧ f ≠ 25) : gw_ (mw_ μ) W := by
  intro u h f hf
  obtain ⟨n3, n11, n12, n13, n18, n19, n24, n25⟩ := hW f hf
  refine ⟨fun v => ⟨h.1, ?_⟩, fun i v => ⟨?_, h.2⟩, fun v => ⟨?_, h.2⟩, fun i v => h⟩
  · show upd u.1 f v 3 = _
    exact (w_updN (Ne.symm n3)).trans h.2
  · rw [← h.1]
    have e : ∀ g, g ≠ f → km_a (km_sa u f i v) g = km_a u g := fun g hg => by
      show (if g = f then upd (u.2.1 f) i v else u.2.1 g) = u.2.1 g
      exact if_neg hg
    unfold wm_
    rw [e 13 (Ne.symm n13), e 24 (Ne.symm n24), e 25 (Ne.symm n25), e 18 (Ne.symm n18), e 19 (Ne.symm n19)]
    rfl
  · rw [← h.1]
    unfold wm_
    have e : ∀ g, g ≠ f → km_l (km_sl u f v) g = km_l u g := fun g hg => pk_uLn hg
    rw [e 11 (Ne.symm n11), e 12 (Ne.symm n12)]
    rfl
theorem vm_isReach {r : Int32} {μ : km_S} {Q : Int32 → km_S → Prop} (h0 : ¬ (0 ≤ r.toInt ∧ r.toInt < (km_i μ 3).toInt) → Q 0 μ) (h1 : 0 ≤ r.toInt → r.toInt < (km_i μ 3).toInt → Q 1 μ) : vX12_isReach r μ Q := by
  have z : (0 : Int32).toInt = 0 := by decide
  refine ⟨fun c => h0 ?_, fun c => ⟨fun d => h0 ?_, fun d => h1 ?_ ?_⟩⟩
  all_goals (simp only [ki_lt, ki_le, z] at *; omega)
theorem rm_dam {r v : Int32} {μ : km_S} (I : im_ μ) : wX12_dam r v μ (fun x u => pz_ (z_dam r v (sm_ μ)) x u ∧ wm_ u = wz_dam r v (sm_ μ) (wm_ μ) ∧ km_i u 3 = km_i μ 3) := by
  refine jcX12_dam (Q' := fun _ u => wm_ u = wz_dam r v (sm_ μ) (wm_ μ) ∧ km_i u 3 = km_i μ 3) (fun _ _ a b => ⟨a, b⟩) _ _ _ (rz_dam I) ?_
  unfold vX12_dam
  rintro μ1 rfl
  refine vm_isReach (fun c => ⟨fun x => absurd rfl x, fun _ => ?_⟩) (fun c1 c2 => ⟨fun _ => ⟨fun d => ?_, fun d => ⟨fun e => ?_, fun e => ?_⟩⟩, fun x => absurd x (by decide)⟩)
  · rintro μ2 rfl
    refine ⟨?_, rfl⟩
    rw [show wz_dam r v (sm_ μ) (wm_ μ) = wm_ μ from if_neg c]
    rfl
  · refine ⟨?_, rfl⟩
    rw [show wz_dam r v (sm_ μ) (wm_ μ) = wm_ μ from (if_pos (show z_is r (sm_ μ) from ⟨c1, c2⟩)).trans (if_pos (.inl d))]
    rfl
  · rintro - μ8 rfl - μ10 rfl
    refine ⟨?_, rfl⟩
    rw [show wz_dam r v (sm_ μ) (wm_ μ) = ((wm_ μ).1, upd (wm_ μ).2.1 r.toNatClampNeg v, (wm_ μ).2.2) from (if_pos (show z_is r (sm_ μ) from ⟨c1, c2⟩)).trans (if_neg (fun h => h.elim d (fun h => h e)))]
    rfl
  · refine ⟨?_, rfl⟩
    rw [show wz_dam r v (sm_ μ) (wm_ μ) = wm_ μ from (if_pos (show z_is r (sm_ μ) from ⟨c1, c2⟩)).trans (if_pos (.inr e))]
    rfl
theorem rm_reach {n l c j : Int32} {μ : km_S} (I : im_ μ) : wX12_reach n l c j μ (fun x u => pz_ (z_reach n l c j (sm_ μ)) x u ∧ wm_ u = wz_reach n l c j (sm_ μ) (wm_ μ)) := by
  refine jcX12_reach (Q' := fun _ u => wm_ u = wz_reach n l c j (sm_ μ) (wm_ μ)) (fun _ _ a b => ⟨a, b⟩) _ _ _ _ _ (rz_reach I) ?_
  unfold vX12_reach
  rintro μ1 rfl
  have no : ((sm_ μ).1.1 = 10 ∨ n < -1 ∨ (sm_ μ).1.1 ≤ n ∨ l < 1 ∨ 12 < l ∨ c < 1 ∨ 20 < c ∨ j < 0 ∨ ¬ j ≤ 1000) → wm_ (km_si μ 1 0) = wz_reach n l c j (sm_ μ) (wm_ μ) := fun h => (if_pos h).symm
  refine ⟨fun h => no (.inl h), fun h1 => ⟨fun h => no (.inr (.inl h)), fun h2 => ⟨fun h => no (.inr (.inr (.inl h))), fun h3 => ⟨fun h => no (.inr (.inr (.inr (.inl h)))), fun h4 => ⟨fun h => no (.inr (.inr (.inr (.inr (.inl h))))), fun h5 => ⟨fun h => no (.inr (.inr (.inr (.inr (.inr (.inl h)))))), fun h6 => ⟨fun h => no (.inr (.inr (.inr (.inr (.inr (.inr (.inl h))))))), fun h7 => ⟨fun h => no (.inr (.inr (.inr (.inr (.inr (.inr (.inr (.inl h)))))))), fun h8 => ⟨fun h => ?_, fun h => no (.inr (.inr (.inr (.inr (.inr (.inr (.inr (.inr h)))))))) ⟩⟩⟩⟩⟩⟩⟩⟩⟩
  rintro - μ12 rfl - μ14 rfl - μ16 rfl - μ18 rfl μ19 rfl
  have hz : ¬ ((sm_ μ).1.1 = 10 ∨ n < -1 ∨ (sm_ μ).1.1 ≤ n ∨ l < 1 ∨ 12 < l ∨ c < 1 ∨ 20 < c ∨ j < 0 ∨ ¬ j ≤ 1000) := by
    rintro (a | a | a | a | a | a | a | a | a)
    · exact h1 a
    · exact h2 a
    · exact h3 a
    · exact h4 a
    · exact h5 a
    · exact h6 a
    · exact h7 a
    · exact h8 a
    · exact a h
  rw [show wz_reach n l c j (sm_ μ) (wm_ μ) = (upd (wm_ μ).1 (sm_ μ).1.1.toNatClampNeg n, (wm_ μ).2) from if_neg hz]
  rfl
theorem rm_waters {a : Int32} {μ : km_S} (I : im_ μ) : wX12_waters a μ (fun x u => pl_ (sm_ μ) x u ∧ mw_ μ u ∧ km_i u 1 = zq_waters a ∧ (zq_waters a = 0 → x = zv_waters a (wm_ μ))) := by
  refine jcX12_waters (Q' := fun x u => mw_ μ u ∧ km_i u 1 = zq_waters a ∧ (zq_waters a = 0 → x = zv_waters a (wm_ μ))) (fun _ _ a b => ⟨a, b⟩) _ _ (rz_waters I) ?_
  unfold vX12_waters
  rintro μ1 rfl
  refine ⟨fun c => ⟨fun d => ?_, fun d => ⟨⟨rfl, rfl⟩, ?_, fun _ => ?_⟩⟩, fun c => ⟨⟨rfl, rfl⟩, ?_, fun _ => ?_⟩⟩
  · rintro μ2 rfl
    have e : zq_waters a = 1 := (if_neg c).trans (if_neg d)
    refine ⟨⟨rfl, rfl⟩, e.symm, fun h => ?_⟩
    rw [e] at h
    exact absurd h (by decide)
  · exact ((if_neg c).trans (if_pos d)).symm
  · exact (if_neg c).symm
  · exact (if_pos c).symm
  · exact (if_pos c).symm
theorem rm_hours {n : Int32} {μ : km_S} {nr : Nat} (I : im_ μ) (hnr : (km_i μ 3).toInt = (nr : Int)) (ok : w_ok nr (wm_ μ)) : wX12_hours n μ (fun x u => pz_ (z_hours n (sm_ μ)) x u ∧ wm_ u = wz_hours n (sm_ μ) nr (wm_ μ) ∧ km_i u 3 = km_i μ 3) := by
  intro μ1 e1
  have I1 : im_ μ1 := by rw [e1]; exact im_code 0 I
  have s1 : sm_ μ1 = sm_ μ := by rw [e1]; rfl
  have k1 : km_i μ1 1 = 0 := by rw [e1]; rfl
  have w1 : wm_ μ1 = wm_ μ := by rw [e1]; rfl
  have j1 : km_i μ1 3 = km_i μ 3 := by rw [e1]; rfl
  rw [← s1, ← w1, ← j1]
  rw [← w1] at ok
  rw [← j1] at hnr
  have no : (n < 0 ∨ 200 < n ∨ ¬ (km_i μ1 2 + n ≤ 20000)) → wX12_hours_28 (fun x u => pz_ (z_hours n (sm_ μ1)) x u ∧ wm_ u = wz_hours n (sm_ μ1) nr (wm_ μ1) ∧ km_i u 3 = km_i μ1 3) μ1 := fun c μ2 e2 => by
    subst e2
    refine ⟨⟨im_code 1 I1, ?_⟩, ?_, rfl⟩
    · unfold z_hours
      rw [if_pos (show n < 0 ∨ 200 < n ∨ ¬ ((sm_ μ1).1.2.2.2.2.2 + n ≤ 20000) from c)]
      rfl
    · rw [show wz_hours n (sm_ μ1) nr (wm_ μ1) = wm_ μ1 from if_pos c]
      rfl
  refine ⟨fun c => no (.inl c), fun c => ⟨fun d => no (.inr (.inl d)), fun d => ⟨fun e => ⟨202, ?_⟩, fun e => no (.inr (.inr e))⟩⟩⟩
  have hno : ¬ (n < 0 ∨ 200 < n ∨ ¬ (km_i μ1 2 + n ≤ 20000)) := fun h => h.elim c (fun h => h.elim d (fun h => h e))
  rw [show z_hours n (sm_ μ1) = (0, km_i μ1 2 + n, zn_ (sm_ μ1) (km_i μ1 2 + n)) from if_neg hno, show wz_hours n (sm_ μ1) nr (wm_ μ1) = w_hours nr (sm_ μ1).2.1 (sm_ μ1).2.2.1 (sm_ μ1).2.2.2.1 n.toNatClampNeg (wm_ μ1) from if_neg hno]
  clear no hno
  generalize hq : (fun (x : Int32) (u : km_S) => pz_ (0, km_i μ1 2 + n, zn_ (sm_ μ1) (km_i μ1 2 + n)) x u ∧ wm_ u = w_hours nr (sm_ μ1).2.1 (sm_ μ1).2.2.1 (sm_ μ1).2.2.2.1 n.toNatClampNeg (wm_ μ1) ∧ km_i u 3 = km_i μ1 3) = QQ
  rw [ki_lt, ki_z0] at c
  have z200 : (200 : Int32).toInt = 200 := by decide
  rw [ki_lt, z200] at d
  have h10 : nr ≤ 10 := by have := I1.1.1; omega
  have L : ∀ (k : Nat) (i : Int32) (M : km_S), 0 ≤ i.toInt → i.toInt ≤ n.toInt → n.toInt - i.toInt < (k : Int) → ih_ (zn_ (sm_ μ1) (km_i μ1 2 + i), 0) M → wm_ M = w_hours nr (sm_ μ1).2.1 (sm_ μ1).2.2.1 (sm_ μ1).2.2.2.1 i.toNatClampNeg (wm_ μ1) → km_i M 3 = km_i μ1 3 → wX12_hours_35 (wX12_hours_76 QQ) QQ k n i M := by
    intro k
    induction k with
    | zero => intro i M h1 h2 h3; omega
    | succ k ih =>
      intro i M h1 h2 h3 H HW H3
      refine ⟨fun q => ?_, fun q => ?_⟩
      · rw [ki_le] at q
        have en : i = n := ki_eq.2 (by omega)
        rw [en] at H HW
        show QQ (km_i M 2) M
        rw [← hq]
        refine ⟨⟨H.1, ?_⟩, HW, H3⟩
        have h1 := congrArg Prod.fst H.2
        have h2 := congrArg Prod.snd H.2
        have h3 : km_i M 2 = km_i μ1 2 + n := congrArg (fun s : sz_T => s.1.2.2.2.2.2) h1
        exact Prod.ext h2 (Prod.ext h3 h1)
      · rw [ki_le] at q
        have ii := ki_inc (a := i) (by omega) (by omega)
        have hs : sm_ M = zn_ (sm_ μ1) (km_i μ1 2 + i) := congrArg Prod.fst H.2
        have d21 : km_a M 21 = (sm_ μ1).2.1 := congrArg (fun s : sz_T => s.2.1) hs
        have d26 : km_a M 26 = (sm_ μ1).2.2.1 := congrArg (fun s : sz_T => s.2.2.1) hs
        have d17 : km_a M 17 = (sm_ μ1).2.2.2.1 := congrArg (fun s : sz_T => s.2.2.2.1) hs
        have okM : w_ok nr (wm_ M) := by rw [HW]; exact w_hours_ok _ _ ok
        refine jcX12_waterGoes (Q := fun u => ih_ (zn_ (sm_ μ1) (km_i μ1 2 + i), 0) u) (Q' := fun u => wm_ u = w_hour nr (sm_ μ1).2.1 (sm_ μ1).2.2.1 (sm_ μ1).2.2.2.1 (wm_ M)) (fun μ4 H4 W4 => ?_) _ (rz_waterGoes H (fun _ h => h)) (vm_water (by rw [H3]; exact hnr) h10 okM (fun u h => by rw [h, d21, d26, d17]))
        have e4 : km_i μ4 3 = km_i μ1 3 := congrArg (fun s : sz_T × Int32 => s.1.1.1) H4.2
        refine jcX12_move (Q := fun u => ih_ (zn_ (sm_ μ1) (km_i μ1 2 + i), 0) u) (Q' := mw_ μ4) (fun μ5 H5 W5 => ?_) _ (rz_move H4 (fun _ h => h)) (jfX12_move (wm_gw (by decide)) (fun _ h => h) _ ⟨rfl, rfl⟩)
        refine jcX12_jams (Q := fun u => ih_ (zn_ (sm_ μ1) (km_i μ1 2 + i), 0) u) (Q' := mw_ μ5) (fun μ6 H6 W6 => ?_) _ (rz_jams H5 (fun _ h => h)) (jfX12_jams (wm_gw (by decide)) (fun _ h => h) _ ⟨rfl, rfl⟩)
        refine jcX12_older (Q := fun u => ih_ (zn_ (sm_ μ1) (km_i μ1 2 + i), 0) u) (Q' := mw_ μ6) (fun μ7 H7 W7 => ?_) _ (rz_older H6 (fun _ h => h)) (jfX12_older (wm_gw (by decide)) (fun _ h => h) _ ⟨rfl, rfl⟩)
        refine jcX12_mills (Q := fun u => ih_ (zn_ (sm_ μ1) (km_i μ1 2 + i), 0) u) (Q' := mw_ μ7) (fun μ8 H8 W8 μ9 e9 w ew => ?_) _ (rz_mills H7 (fun _ h => h)) (jfX12_mills (wm_gw (by decide)) (fun _ h => h) _ ⟨rfl, rfl⟩)
        rw [ew]
        have et : (i + 1).toNatClampNeg = i.toNatClampNeg + 1 := by rw [ki_nat, ki_nat]; omega
        refine ih (i + 1) μ9 (by omega) (by omega) (by omega) ?_ ?_ ?_
        · rw [e9]
          refine ⟨H8.1, ?_⟩
          have h1 := congrArg Prod.fst H8.2
          have h2 := congrArg Prod.snd H8.2
          have h3 : km_i μ8 2 = km_i μ1 2 + i := congrArg (fun s : sz_T => s.1.2.2.2.2.2) h1
          refine Prod.ext ?_ h2
          show zn_ (sm_ μ8) (km_i μ8 2 + 1) = _
          rw [h3, Int32.add_assoc]
          have h4 : sm_ μ8 = zn_ (sm_ μ1) (km_i μ1 2 + i) := h1
          exact Eq.trans (congrArg (fun s : sz_T => zn_ s (km_i μ1 2 + (i + 1))) h4) rfl
        · rw [e9, et, w_hours_snoc, ← HW, ← W4]
          exact W8.1.trans (W7.1.trans (W6.1.trans W5.1))
        · rw [e9]
          exact W8.2.trans (W7.2.trans (W6.2.trans (W5.2.trans e4)))
  refine L 202 0 μ1 (by decide) (by rw [ki_z0]; omega) (by rw [ki_z0]; omega) ⟨I1, Prod.ext ?_ k1⟩ rfl rfl
  show sm_ μ1 = zn_ (sm_ μ1) (km_i μ1 2 + 0)
  rw [Int32.add_zero]
  rfl
