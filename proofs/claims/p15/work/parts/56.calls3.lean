def z_order (r m s n : Int32) (σ : sz_T) : Int32 × Int32 × sz_T := if z_is r σ then (if σ.2.2.2.2.2 r.toNatClampNeg = 0 ∨ m < 0 ∨ 15 < m ∨ s < 1 ∨ 9 < s ∨ n < 1 ∨ 100 < n ∨ σ.1.2.2.2.1 = 60 then (0, -1, σ) else (0, σ.1.2.2.2.1, ((σ.1.1, σ.1.2.1, σ.1.2.2.1, σ.1.2.2.2.1 + 1, σ.1.2.2.2.2), σ.2))) else (1, 0, σ)
theorem rz_order {r m s n : Int32} {μ : km_S} (I : im_ μ) : wX12_order r m s n μ (pz_ (z_order r m s n (sm_ μ))) := by
  intro μ1 e1
  have I1 : im_ μ1 := by rw [e1]; exact im_code 0 I
  have s1 : sm_ μ1 = sm_ μ := by rw [e1]; rfl
  have k1 : km_i μ1 1 = 0 := by rw [e1]; rfl
  rw [← s1]
  refine rz_isReach (fun c => ⟨fun n => absurd rfl n, fun _ => ?_⟩) (fun a b => ⟨fun _ => ?_, fun n => absurd n (by decide)⟩)
  · intro μ2 e2
    subst e2
    refine ⟨im_code 1 I1, ?_⟩
    unfold z_order
    rw [if_neg (show ¬ z_is r (sm_ μ1) from c)]
    rfl
  · have hin := im_in I1 a b
    have hz : z_is r (sm_ μ1) := ⟨a, b⟩
    have no : (km_a μ1 22 r.toNatClampNeg = 0 ∨ m < 0 ∨ 15 < m ∨ s < 1 ∨ 9 < s ∨ n < 1 ∨ 100 < n ∨ km_i μ1 8 = 60) → pz_ (z_order r m s n (sm_ μ1)) (-1) μ1 := by
      intro h
      refine ⟨I1, ?_⟩
      unfold z_order
      rw [if_pos hz, if_pos (show (sm_ μ1).2.2.2.2.2 r.toNatClampNeg = 0 ∨ m < 0 ∨ 15 < m ∨ s < 1 ∨ 9 < s ∨ n < 1 ∨ 100 < n ∨ (sm_ μ1).1.2.2.2.1 = 60 from h), k1]
    refine ⟨hin, fun q => no (.inl q), fun c1 => ⟨fun q => no (.inr (.inl q)), fun c2 => ⟨fun q => no (.inr (.inr (.inl q))), fun c3 => ⟨fun q => no (.inr (.inr (.inr (.inl q)))), fun c4 => ⟨fun q => no (.inr (.inr (.inr (.inr (.inl q))))), fun c5 => ⟨fun q => no (.inr (.inr (.inr (.inr (.inr (.inl q)))))), fun c6 => ⟨fun q => no (.inr (.inr (.inr (.inr (.inr (.inr (.inl q))))))), fun c7 => ⟨fun c8 => ?_, fun q => no (.inr (.inr (.inr (.inr (.inr (.inr (.inr q)))))))⟩⟩⟩⟩⟩⟩⟩⟩
    obtain ⟨n1, n2, n3, n4, n5, n6, n7, n8⟩ := I1
    have z1 : (1 : Int32).toInt = 1 := by decide
    have z60 : (60 : Int32).toInt = 60 := by decide
    have b8 := n1.2.2.2.2.1
    have c8' : (km_i μ1 8).toInt ≠ 60 := fun h => c8 (ki_eq.2 (h.trans z60.symm))
    have hin8 : vp_in (km_i μ1 8) 60 := by rw [ki_in]; omega
    refine ⟨hin8, fun μ2 e2 => ?_⟩
    subst e2
    refine ⟨hin8, fun μ3 e3 => ?_⟩
    subst e3
    refine ⟨hin8, fun μ4 e4 => ?_⟩
    subst e4
    refine ⟨hin8, fun μ5 e5 => ?_⟩
    subst e5
    intro μ9 e9
    subst e9
    have hadd : (km_i μ1 8 + 1).toInt = (km_i μ1 8).toInt + 1 := by
      rw [ki_add (by rw [z1]; omega) (by rw [z1]; omega), z1]
    refine ⟨⟨⟨n1.1, n1.2.1, n1.2.2.1, n1.2.2.2.1, ?_, n1.2.2.2.2.2⟩, n2, n3, n4, n5, n6, n7, n8⟩, ?_⟩
    · show 0 ≤ (km_i μ1 8 + 1).toInt ∧ (km_i μ1 8 + 1).toInt ≤ 60
      rw [hadd]; omega
    · unfold z_order
      rw [if_pos hz, if_neg (show ¬ ((sm_ μ1).2.2.2.2.2 r.toNatClampNeg = 0 ∨ m < 0 ∨ 15 < m ∨ s < 1 ∨ 9 < s ∨ n < 1 ∨ 100 < n ∨ (sm_ μ1).1.2.2.2.1 = 60) from fun h => h.elim c1 (fun h => h.elim c2 (fun h => h.elim c3 (fun h => h.elim c4 (fun h => h.elim c5 (fun h => h.elim c6 (fun h => h.elim c7 c8)))))))]
      exact Prod.ext k1 (Prod.ext (ki_pm _) rfl)
def z_crew (k r : Int32) (σ : sz_T) : Int32 × Int32 × sz_T := if z_is r σ then (if k = -1 then (if σ.1.2.2.1 = 6 then (0, -1, σ) else (0, σ.1.2.2.1, ((σ.1.1, σ.1.2.1, σ.1.2.2.1 + 1, σ.1.2.2.2), σ.2))) else if k < -1 ∨ σ.1.2.2.1 ≤ k then (0, -1, σ) else (0, k, σ)) else (1, 0, σ)
/-- crew's end: the crew's reach is a reach -/
theorem rz_crew84 {r k : Int32} {μ : km_S} {Q : Int32 → km_S → Prop} (hk : vp_in k 6) (h : ∀ v : Nat → Int32, Q k (μ.1, fun j => if j = 44 then upd (km_a μ 44) k.toNatClampNeg r else if j = 45 then v else μ.2.1 j, μ.2.2)) : wX12_crew_84 Q r k μ := by
  have e0 : (μ.1, fun j => if j = 44 then upd (km_a μ 44) k.toNatClampNeg r else if j = 45 then (μ.2.1 45) else μ.2.1 j, μ.2.2) = km_sa μ 44 k.toNatClampNeg r := by
    refine Prod.ext rfl (Prod.ext ?_ rfl)
    funext j
    show (if j = 44 then _ else if j = 45 then _ else _) = (if j = 44 then _ else _)
    by_cases a : j = 44
    · rw [if_pos a, if_pos a]; rfl
    · rw [if_neg a, if_neg a]
      by_cases b : j = 45
      · rw [if_pos b, b]
      · rw [if_neg b]
  have e1 : ∀ w : Int32, (μ.1, fun j => if j = 44 then upd (km_a μ 44) k.toNatClampNeg r else if j = 45 then upd (μ.2.1 45) k.toNatClampNeg w else μ.2.1 j, μ.2.2) = km_sa (km_sa μ 45 k.toNatClampNeg w) 44 k.toNatClampNeg r := by
    intro w
    refine Prod.ext rfl (Prod.ext ?_ rfl)
    funext j
    show (if j = 44 then _ else if j = 45 then _ else _) = (if j = 44 then _ else if j = 45 then _ else _)
    by_cases a : j = 44
    · rw [if_pos a, if_pos a]; rfl
    · rw [if_neg a, if_neg a]
  refine ⟨hk, fun _ => ⟨hk, fun μ2 e2 => ?_⟩, fun _ => ⟨hk, fun μ6 e6 => ⟨hk, fun μ2 e2 => ?_⟩⟩⟩
  · rw [e2, ← e0]; exact h _
  · rw [e2, e6, ← e1]; exact h _
