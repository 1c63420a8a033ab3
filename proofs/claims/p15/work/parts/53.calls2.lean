theorem ku_self {f : Nat → Int32} {k : Nat} {v : Int32} : upd f k v k = v := by simp [upd]
theorem ku_ne {f : Nat → Int32} {k j : Nat} {v : Int32} (h : j ≠ k) : upd f k v j = f j := by simp [upd, h]
theorem ku_same {f : Nat → Int32} {k : Nat} {v : Int32} (h : f k = v) : upd f k v = f := by
  funext j
  by_cases e : j = k
  · rw [e, ku_self, h]
  · rw [ku_ne e]
theorem ku_r {f : Nat → Int32} {k j : Nat} {v : Int32} {P : Int32 → Prop} (h : P v) (h2 : P (f j)) : P (upd f k v j) := by
  by_cases e : j = k
  · rw [e, ku_self]; exact h
  · rw [ku_ne e]; exact h2
def z_cut (m s t : Int32) (σ : sz_T) : Int32 × Int32 × sz_T := if σ.1.2.1 = 400 ∨ m < 0 ∨ 15 < m ∨ s < 1 ∨ 9 < s ∨ t < 0 ∨ ¬ t ≤ 1000000 then (0, -1, σ) else (0, σ.1.2.1, ((σ.1.1, σ.1.2.1 + 1, σ.1.2.2), σ.2))
theorem ki_pm (a : Int32) : a + 1 - 1 = a := Int32.add_sub_cancel a 1
theorem rz_cut {m s t : Int32} {μ : km_S} (I : im_ μ) : wX12_cut m s t μ (pz_ (z_cut m s t (sm_ μ))) := by
  intro μ1 e1
  have I1 : im_ μ1 := by rw [e1]; exact im_code 0 I
  have s1 : sm_ μ1 = sm_ μ := by rw [e1]; rfl
  have k1 : km_i μ1 1 = 0 := by rw [e1]; rfl
  rw [← s1]
  have no : (km_i μ1 4 = 400 ∨ m < 0 ∨ 15 < m ∨ s < 1 ∨ 9 < s ∨ t < 0 ∨ ¬ t ≤ 1000000) → pz_ (z_cut m s t (sm_ μ1)) (-1) μ1 := by
    intro h
    refine ⟨I1, ?_⟩
    unfold z_cut
    rw [if_pos (show (sm_ μ1).1.2.1 = 400 ∨ _ from h), k1]
  refine ⟨fun c => no (.inl c), fun c1 => ⟨fun c => no (.inr (.inl c)), fun c2 => ⟨fun c => no (.inr (.inr (.inl c))), fun c3 => ⟨fun c => no (.inr (.inr (.inr (.inl c)))), fun c4 => ⟨fun c => no (.inr (.inr (.inr (.inr (.inl c))))), fun c5 => ⟨fun c => no (.inr (.inr (.inr (.inr (.inr (.inl c)))))), fun c6 => ⟨fun c7 => ?_, fun c => no (.inr (.inr (.inr (.inr (.inr (.inr c))))))⟩⟩⟩⟩⟩⟩⟩
  obtain ⟨n1, n2, n3, n4, n5, n6, n7, n8⟩ := I1
  have z0 : (0 : Int32).toInt = 0 := by decide
  have z1 : (1 : Int32).toInt = 1 := by decide
  have z15 : (15 : Int32).toInt = 15 := by decide
  have z9 : (9 : Int32).toInt = 9 := by decide
  have z400 : (400 : Int32).toInt = 400 := by decide
  have b := n1.2.1
  have c1' : (km_i μ1 4).toInt ≠ 400 := fun h => c1 (ki_eq.2 (h.trans z400.symm))
  have hin : vp_in (km_i μ1 4) 400 := by rw [ki_in]; omega
  refine ⟨hin, fun μ2 e2 => ?_⟩
  subst e2
  refine ⟨hin, fun μ3 e3 => ?_⟩
  subst e3
  refine ⟨hin, fun μ4 e4 => ?_⟩
  subst e4
  refine ⟨hin, fun μ5 e5 => ?_⟩
  subst e5
  refine ⟨hin, fun μ6 e6 => ?_⟩
  subst e6
  refine ⟨hin, fun μ7 e7 => ?_⟩
  subst e7
  refine ⟨hin, fun μ8 e8 => ?_⟩
  subst e8
  intro μ9 e9
  subst e9
  obtain ⟨L, eL⟩ : ∃ L, L = (km_i μ1 4).toNatClampNeg := ⟨_, rfl⟩
  have hL : (L : Int) = (km_i μ1 4).toInt := by rw [eL, ki_nat]; omega
  have hL4 : L < 400 := by omega
  have p0 : km_a μ1 38 L = 0 := (n5 L hL4).2.2.2 (by omega)
  have hp : upd (km_a μ1 38) L 0 = km_a μ1 38 := ku_same p0
  have hadd : (km_i μ1 4 + 1).toInt = (km_i μ1 4).toInt + 1 := by
    have := ki_add (a := km_i μ1 4) (b := 1) (by rw [z1]; omega) (by rw [z1]; omega)
    rw [this, z1]
  refine ⟨⟨?_, n2, ?_, ?_, ?_, ?_, n7, n8⟩, ?_⟩
  · refine ⟨n1.1, ?_, n1.2.2⟩
    show 0 ≤ (km_i μ1 4 + 1).toInt ∧ (km_i μ1 4 + 1).toInt ≤ 400
    rw [hadd]; omega
  · intro k hk
    refine ⟨(n3 k hk).1, fun i hi => ?_⟩
    have h := (n3 k hk).2 i hi
    have hne : (km_a μ1 32 (20 * k + i)).toNatClampNeg ≠ L := by
      intro e
      have := h.2.1
      rw [e, p0] at this
      exact absurd this (by decide)
    refine ⟨h.1, ?_, ?_, h.2.2.2⟩
    · show upd (km_a μ1 38) (km_i μ1 4).toNatClampNeg 0 (km_a μ1 32 (20 * k + i)).toNatClampNeg = 1
      rw [← eL, hp]; exact h.2.1
    · show 12 * (upd (km_a μ1 39) (km_i μ1 4).toNatClampNeg (-1) (km_a μ1 32 (20 * k + i)).toNatClampNeg).toInt + (upd (km_a μ1 40) (km_i μ1 4).toNatClampNeg (-1) (km_a μ1 32 (20 * k + i)).toNatClampNeg).toInt = (k : Int)
      rw [← eL, ku_ne hne, ku_ne hne]; exact h.2.2.1
  · intro k hk
    refine ⟨(n4 k hk).1, fun i hi => ?_⟩
    have h := (n4 k hk).2 i hi
    have hne : (km_a μ1 30 (100 * k + i)).toNatClampNeg ≠ L := by
      intro e
      have := h.2.1
      rw [e, p0] at this
      exact absurd this (by decide)
    refine ⟨h.1, ?_, ?_, h.2.2.2⟩
    · show upd (km_a μ1 38) (km_i μ1 4).toNatClampNeg 0 (km_a μ1 30 (100 * k + i)).toNatClampNeg = 2
      rw [← eL, hp]; exact h.2.1
    · show (upd (km_a μ1 39) (km_i μ1 4).toNatClampNeg (-1) (km_a μ1 30 (100 * k + i)).toNatClampNeg).toInt = (k : Int)
      rw [← eL, ku_ne hne]; exact h.2.2.1
  · intro g hg
    have h := n5 g hg
    refine ⟨?_, ?_, ?_, ?_⟩
    · refine ku_r (P := fun x => 0 ≤ x.toInt ∧ x.toInt ≤ 15) ?_ h.1
      simp only [ki_lt, z0, z15] at c2 c3; omega
    · refine ku_r (P := fun x => 0 ≤ x.toInt ∧ x.toInt ≤ 9) ?_ h.2.1
      simp only [ki_lt, z1, z9] at c4 c5; omega
    · show upd (km_a μ1 38) (km_i μ1 4).toNatClampNeg 0 g = 1 → (0 ≤ (upd (km_a μ1 39) (km_i μ1 4).toNatClampNeg (-1) g).toInt ∧ (upd (km_a μ1 39) (km_i μ1 4).toNatClampNeg (-1) g).toInt < 10) ∧ (0 ≤ (upd (km_a μ1 40) (km_i μ1 4).toNatClampNeg (-1) g).toInt ∧ (upd (km_a μ1 40) (km_i μ1 4).toNatClampNeg (-1) g).toInt < 12)
      rw [← eL, hp]
      intro hg1
      have hne : g ≠ L := by
        intro e
        rw [e, p0] at hg1
        exact absurd hg1 (by decide)
      rw [ku_ne hne, ku_ne hne]
      exact h.2.2.1 hg1
    · show (km_i μ1 4 + 1).toInt ≤ (g : Int) → upd (km_a μ1 38) (km_i μ1 4).toNatClampNeg 0 g = 0
      rw [← eL, hp, hadd]
      intro q
      exact h.2.2.2 (by omega)
  · show 0 ≤ (km_i μ1 6).toInt ∧ (km_i μ1 6).toInt + 9 * (im_un (upd (km_a μ1 38) (km_i μ1 4).toNatClampNeg 0) 400 : Int) ≤ 3600
    rw [← eL, hp]; exact n6
  · unfold z_cut
    rw [if_neg (show ¬ ((sm_ μ1).1.2.1 = 400 ∨ _) from fun h => h.elim c1 (fun h => h.elim c2 (fun h => h.elim c3 (fun h => h.elim c4 (fun h => h.elim c5 (fun h => h.elim c6 (fun h => h c7)))))))]
    exact Prod.ext k1 (Prod.ext (ki_pm _) rfl)
