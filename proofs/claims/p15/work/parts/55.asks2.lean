theorem rz_cell {r c w : Int32} {μ : km_S} (I : im_ μ) : wX12_cell r c w μ (pu_ (sm_ μ)) := by
  intro μ1 e; subst e
  have H : im_ (km_si μ 1 0) ∧ sm_ (km_si μ 1 0) = sm_ μ := ⟨im_code 0 I, rfl⟩
  refine rz_isCell H.1 ⟨fun _ => rz_fail H, fun n => absurd rfl n⟩ (fun a b d e => ⟨fun n => absurd n (by decide), fun _ => ⟨fun _ => rz_fail H, fun _ => ⟨fun _ => ?_, fun _ => rz_fail H⟩⟩⟩)
  have h10 := H.1.1.1
  have hin : vp_in (12 * r + c) 120 := by rw [ki_in, im_at a (by omega) d e]; omega
  exact ⟨fun _ => ⟨fun _ => ⟨hin, fun _ => H, fun _ => H⟩, fun _ => ⟨hin, fun _ => H, fun _ => H⟩⟩, fun _ => ⟨hin, H⟩⟩
theorem rz_inCell {r c i : Int32} {μ : km_S} (I : im_ μ) : wX12_inCell r c i μ (pu_ (sm_ μ)) := by
  intro μ1 e; subst e
  have H : im_ (km_si μ 1 0) ∧ sm_ (km_si μ 1 0) = sm_ μ := ⟨im_code 0 I, rfl⟩
  have z : (0 : Int32).toInt = 0 := by decide
  have z20 : (20 : Int32).toInt = 20 := by decide
  refine rz_isCell H.1 ⟨fun n => absurd rfl n, fun _ => rz_fail H⟩ (fun a b d e => ⟨fun _ => ⟨fun _ => H, fun q => ?_⟩, fun n => absurd n (by decide)⟩)
  have h10 := H.1.1.1
  have hat := im_at a (by omega) d e
  have hin : vp_in (12 * r + c) 120 := by rw [ki_in, hat]; omega
  refine ⟨hin, fun p => ⟨?_, H⟩, fun _ => H⟩
  have h1 := (H.1.2.2.1 (12 * r + c).toNatClampNeg (by rw [ki_nat, hat]; omega)).1
  rw [ki_lt] at p q
  rw [z] at q
  have m : (20 * (12 * r + c)).toInt = 20 * (12 * r + c).toInt := by rw [ki_mul (by rw [z20, hat]; omega) (by rw [z20, hat]; omega), z20]
  rw [ki_in, ki_add (by rw [m, hat]; omega) (by rw [m, hat]; omega), m, hat]
  omega
theorem rz_count {w : Int32} {μ : km_S} (I : im_ μ) : wX12_count w μ (pu_ (sm_ μ)) := by
  intro μ1 e; subst e
  have H : im_ (km_si μ 1 0) ∧ sm_ (km_si μ 1 0) = sm_ μ := ⟨im_code 0 I, rfl⟩
  generalize km_si μ 1 0 = μ1 at H
  have z120 : (120 : Int32).toInt = 120 := by decide
  have z1 : (1 : Int32).toInt = 1 := by decide
  have E : ∀ a b c : Int32, wX12_count_61 (pu_ (sm_ μ)) a b c μ1 := fun a b c v _ => ⟨fun _ => H, fun _ => H, fun _ => H, fun _ => H, fun _ => H, fun _ => H, fun _ => H, fun _ => H, fun _ => H, fun _ => H, fun _ _ _ _ _ _ _ _ _ _ => rz_fail H⟩
  have L : ∀ (n : Nat) (a b c k : Int32), 0 ≤ k.toInt → k.toInt ≤ 120 → 120 - k.toInt < (n : Int) → wX12_count_12 (wX12_count_61 (pu_ (sm_ μ))) (pu_ (sm_ μ)) n a b c k μ1 := by
    intro n
    induction n with
    | zero => intro a b c k h1 h2 h3; omega
    | succ n ih =>
      intro a b c k h1 h2 h3
      refine ⟨fun _ => E _ _ _, fun q => ?_⟩
      rw [ki_le, z120] at q
      have hin : vp_in k 120 := by rw [ki_in]; omega
      have hk : (k + 1).toInt = k.toInt + 1 := by rw [ki_add (by rw [z1]; omega) (by rw [z1]; omega), z1]
      have N : ∀ a b c : Int32, wX12_count_12 (wX12_count_61 (pu_ (sm_ μ))) (pu_ (sm_ μ)) n a b c (k + 1) μ1 := fun a b c => ih a b c (k + 1) (by rw [hk]; omega) (by rw [hk]; omega) (by rw [hk]; omega)
      have N1 : ∀ a b c d : Int32, wX12_count_53 (wX12_count_12 (wX12_count_61 (pu_ (sm_ μ))) (pu_ (sm_ μ)) n) (pu_ (sm_ μ)) a b k c d μ1 := by
        intro a b c d v1 e1 v2 e2
        rw [e2]; exact N _ _ _
      have N2 : ∀ a b c d : Int32, wX12_count_35 (wX12_count_12 (wX12_count_61 (pu_ (sm_ μ))) (pu_ (sm_ μ)) n) (pu_ (sm_ μ)) a b k c d μ1 := fun a b c d v3 _ => ⟨hin, fun _ => N1 _ _ _ _, fun _ => N1 _ _ _ _⟩
      exact ⟨hin, fun _ => N2 _ _ _ _, fun _ => N2 _ _ _ _⟩
  exact ⟨200, L 200 w 0 0 0 (by decide) (by decide) (by decide)⟩
def z_reach (n l c j : Int32) (σ : sz_T) : Int32 × Int32 × sz_T := if σ.1.1 = 10 ∨ n < -1 ∨ σ.1.1 ≤ n ∨ l < 1 ∨ 12 < l ∨ c < 1 ∨ 20 < c ∨ j < 0 ∨ ¬ j ≤ 1000 then (0, -1, σ) else (0, σ.1.1, ((σ.1.1 + 1, σ.1.2), σ.2))
theorem rz_reach {n l c j : Int32} {μ : km_S} (I : im_ μ) : wX12_reach n l c j μ (pz_ (z_reach n l c j (sm_ μ))) := by
  intro μ1 e1
  have I1 : im_ μ1 := by rw [e1]; exact im_code 0 I
  have s1 : sm_ μ1 = sm_ μ := by rw [e1]; rfl
  have k1 : km_i μ1 1 = 0 := by rw [e1]; rfl
  rw [← s1]
  have no : (km_i μ1 3 = 10 ∨ n < -1 ∨ km_i μ1 3 ≤ n ∨ l < 1 ∨ 12 < l ∨ c < 1 ∨ 20 < c ∨ j < 0 ∨ ¬ j ≤ 1000) → pz_ (z_reach n l c j (sm_ μ1)) (-1) μ1 := by
    intro h
    refine ⟨I1, ?_⟩
    unfold z_reach
    rw [if_pos (show (sm_ μ1).1.1 = 10 ∨ n < -1 ∨ (sm_ μ1).1.1 ≤ n ∨ _ from h), k1]
  refine ⟨fun q => no (.inl q), fun c1 => ⟨fun q => no (.inr (.inl q)), fun c2 => ⟨fun q => no (.inr (.inr (.inl q))), fun c3 => ⟨fun q => no (.inr (.inr (.inr (.inl q)))), fun c4 => ⟨fun q => no (.inr (.inr (.inr (.inr (.inl q))))), fun c5 => ⟨fun q => no (.inr (.inr (.inr (.inr (.inr (.inl q)))))), fun c6 => ⟨fun q => no (.inr (.inr (.inr (.inr (.inr (.inr (.inl q))))))), fun c7 => ⟨fun q => no (.inr (.inr (.inr (.inr (.inr (.inr (.inr (.inl q)))))))), fun c8 => ⟨fun c9 => ?_, fun q => no (.inr (.inr (.inr (.inr (.inr (.inr (.inr (.inr q)))))))) ⟩⟩⟩⟩⟩⟩⟩⟩⟩
  obtain ⟨n1, n2, n3, n4, n5, n6, n7, n8⟩ := I1
  have z0 : (0 : Int32).toInt = 0 := by decide
  have z1 : (1 : Int32).toInt = 1 := by decide
  have zm : (-1 : Int32).toInt = -1 := by decide
  have z10 : (10 : Int32).toInt = 10 := by decide
  have z12 : (12 : Int32).toInt = 12 := by decide
  have z20 : (20 : Int32).toInt = 20 := by decide
  have b := n1.1
  have c1' : (km_i μ1 3).toInt ≠ 10 := fun h => c1 (ki_eq.2 (h.trans z10.symm))
  have hin : vp_in (km_i μ1 3) 10 := by rw [ki_in]; omega
  refine ⟨hin, fun μ2 e2 => ?_⟩
  subst e2
  refine ⟨hin, fun μ3 e3 => ?_⟩
  subst e3
  refine ⟨hin, fun μ4 e4 => ?_⟩
  subst e4
  refine ⟨hin, fun μ5 e5 => ?_⟩
  subst e5
  intro μ9 e9
  subst e9
  have hadd : (km_i μ1 3 + 1).toInt = (km_i μ1 3).toInt + 1 := by
    rw [ki_add (by rw [z1]; omega) (by rw [z1]; omega), z1]
  refine ⟨⟨?_, ?_, n3, n4, n5, n6, n7, n8⟩, ?_⟩
  · refine ⟨?_, n1.2⟩
    show 0 ≤ (km_i μ1 3 + 1).toInt ∧ (km_i μ1 3 + 1).toInt ≤ 10
    rw [hadd]; omega
  · intro r hr
    have h := n2 r hr
    refine ⟨?_, ?_, ?_, h.2.2.2⟩
    · refine ku_r (P := fun x => -1 ≤ x.toInt ∧ x.toInt ≤ 9) ?_ h.1
      simp only [ki_lt, ki_le, zm] at c2 c3; omega
    · refine ku_r (P := fun x => 0 ≤ x.toInt ∧ x.toInt ≤ 12) ?_ h.2.1
      simp only [ki_lt, z1, z12] at c4 c5; omega
    · refine ku_r (P := fun x => 0 ≤ x.toInt ∧ x.toInt ≤ 20) ?_ h.2.2.1
      simp only [ki_lt, z1, z20] at c6 c7; omega
  · unfold z_reach
    rw [if_neg (show ¬ ((sm_ μ1).1.1 = 10 ∨ n < -1 ∨ (sm_ μ1).1.1 ≤ n ∨ _) from fun h => h.elim c1 (fun h => h.elim c2 (fun h => h.elim c3 (fun h => h.elim c4 (fun h => h.elim c5 (fun h => h.elim c6 (fun h => h.elim c7 (fun h => h.elim c8 (fun h => h c9)))))))))]
    exact Prod.ext k1 (Prod.ext (ki_pm _) rfl)
