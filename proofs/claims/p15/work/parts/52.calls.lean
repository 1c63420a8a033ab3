/-! the reference's plain calls: what they answer, what they leave -/
abbrev pz_ (z : Int32 × Int32 × sz_T) : Int32 → km_S → Prop := fun r μ => im_ μ ∧ (km_i μ 1, r, sm_ μ) = z
abbrev z_is (r : Int32) (σ : sz_T) : Prop := 0 ≤ r.toInt ∧ r.toInt < σ.1.1.toInt
def z_dam (r v : Int32) (σ : sz_T) : Int32 × Int32 × sz_T := if z_is r σ then (if v < 0 ∨ ¬ v ≤ 100000 then (0, 0, σ) else (0, 1, (σ.1, upd σ.2.1 r.toNatClampNeg 1, σ.2.2))) else (1, 0, σ)
def z_gate (r v : Int32) (σ : sz_T) : Int32 × Int32 × sz_T := if z_is r σ then (if σ.2.1 r.toNatClampNeg = 0 ∨ v < 0 ∨ ¬ v ≤ 1000 then (0, -1, σ) else (0, σ.2.2.1 r.toNatClampNeg, (σ.1, σ.2.1, upd σ.2.2.1 r.toNatClampNeg v, σ.2.2.2))) else (1, 0, σ)
def z_melt (r v : Int32) (σ : sz_T) : Int32 × Int32 × sz_T := if z_is r σ then (if v < 0 ∨ ¬ v ≤ 500 then (0, -1, σ) else (0, σ.2.2.2.1 r.toNatClampNeg, (σ.1, σ.2.1, σ.2.2.1, upd σ.2.2.2.1 r.toNatClampNeg v, σ.2.2.2.2))) else (1, 0, σ)
def z_boom (r v : Int32) (σ : sz_T) : Int32 × Int32 × sz_T := if z_is r σ then (if v < 1 ∨ ¬ v ≤ 100 then (0, 0, σ) else (0, 1, (σ.1, σ.2.1, σ.2.2.1, σ.2.2.2.1, σ.2.2.2.2.1, upd σ.2.2.2.2.2 r.toNatClampNeg 1))) else (1, 0, σ)
def z_watch (r v : Int32) (σ : sz_T) : Int32 × Int32 × sz_T := if z_is r σ then (0, σ.2.2.2.2.1 r.toNatClampNeg, (σ.1, σ.2.1, σ.2.2.1, σ.2.2.2.1, upd σ.2.2.2.2.1 r.toNatClampNeg v, σ.2.2.2.2.2)) else (1, 0, σ)
theorem im_in {r : Int32} {μ : km_S} (I : im_ μ) (a : 0 ≤ r.toInt) (b : r.toInt < (km_i μ 3).toInt) : vp_in r 10 := by
  have := I.1.1
  rw [ki_in]; omega
theorem rz_dam {r v : Int32} {μ : km_S} (I : im_ μ) : wX12_dam r v μ (pz_ (z_dam r v (sm_ μ))) := by
  intro μ1 e1
  have I1 : im_ μ1 := by rw [e1]; exact im_code 0 I
  have s1 : sm_ μ1 = sm_ μ := by rw [e1]; rfl
  have k1 : km_i μ1 1 = 0 := by rw [e1]; rfl
  refine rz_isReach (fun c => ⟨fun n => absurd rfl n, fun _ => ?_⟩) (fun a b => ⟨fun _ => ?_, fun n => absurd n (by decide)⟩)
  · intro μ2 e2
    subst e2
    refine ⟨im_code 1 I1, ?_⟩
    rw [← s1]
    unfold z_dam
    rw [if_neg (show ¬ z_is r (sm_ μ1) from c)]
    rfl
  · have hin := im_in I1 a b
    have hz : z_is r (sm_ μ1) := ⟨a, b⟩
    rw [← s1]
    unfold z_dam
    rw [if_pos hz]
    refine ⟨fun c => ⟨I1, ?_⟩, fun c => ⟨fun d => ⟨hin, fun μ3 e3 => ⟨hin, fun μ4 e4 => ?_⟩⟩, fun d => ⟨I1, ?_⟩⟩⟩
    · rw [if_pos (.inl c), k1]
    · subst e4; subst e3
      refine ⟨I1, ?_⟩
      rw [if_neg (fun h => h.elim c (fun h => h d))]
      exact Prod.ext k1 rfl
    · rw [if_pos (.inr d), k1]
theorem rz_gate {r v : Int32} {μ : km_S} (I : im_ μ) : wX12_gate r v μ (pz_ (z_gate r v (sm_ μ))) := by
  intro μ1 e1
  have I1 : im_ μ1 := by rw [e1]; exact im_code 0 I
  have s1 : sm_ μ1 = sm_ μ := by rw [e1]; rfl
  have k1 : km_i μ1 1 = 0 := by rw [e1]; rfl
  refine rz_isReach (fun c => ⟨fun n => absurd rfl n, fun _ => ?_⟩) (fun a b => ⟨fun _ => ?_, fun n => absurd n (by decide)⟩)
  · intro μ2 e2
    subst e2
    refine ⟨im_code 1 I1, ?_⟩
    rw [← s1]
    unfold z_gate
    rw [if_neg (show ¬ z_is r (sm_ μ1) from c)]
    rfl
  · have hin := im_in I1 a b
    have hz : z_is r (sm_ μ1) := ⟨a, b⟩
    rw [← s1]
    unfold z_gate
    rw [if_pos hz]
    refine ⟨hin, fun q => ⟨I1, ?_⟩, fun q => ⟨fun c => ⟨I1, ?_⟩, fun c => ⟨fun d => ⟨hin, fun v3 e3 => ⟨hin, fun μ4 e4 => ?_⟩⟩, fun d => ⟨I1, ?_⟩⟩⟩⟩
    · rw [if_pos (.inl q), k1]
    · rw [if_pos (.inr (.inl c)), k1]
    · subst e4; subst e3
      refine ⟨I1, ?_⟩
      rw [if_neg (fun h => h.elim q (fun h => h.elim c (fun h => h d)))]
      exact Prod.ext k1 rfl
    · rw [if_pos (.inr (.inr d)), k1]
theorem rz_melt {r v : Int32} {μ : km_S} (I : im_ μ) : wX12_melt r v μ (pz_ (z_melt r v (sm_ μ))) := by
  intro μ1 e1
  have I1 : im_ μ1 := by rw [e1]; exact im_code 0 I
  have s1 : sm_ μ1 = sm_ μ := by rw [e1]; rfl
  have k1 : km_i μ1 1 = 0 := by rw [e1]; rfl
  refine rz_isReach (fun c => ⟨fun n => absurd rfl n, fun _ => ?_⟩) (fun a b => ⟨fun _ => ?_, fun n => absurd n (by decide)⟩)
  · intro μ2 e2
    subst e2
    refine ⟨im_code 1 I1, ?_⟩
    rw [← s1]
    unfold z_melt
    rw [if_neg (show ¬ z_is r (sm_ μ1) from c)]
    rfl
  · have hin := im_in I1 a b
    have hz : z_is r (sm_ μ1) := ⟨a, b⟩
    rw [← s1]
    unfold z_melt
    rw [if_pos hz]
    refine ⟨fun c => ⟨I1, ?_⟩, fun c => ⟨fun d => ⟨hin, fun v3 e3 => ⟨hin, fun μ4 e4 => ?_⟩⟩, fun d => ⟨I1, ?_⟩⟩⟩
    · rw [if_pos (.inl c), k1]
    · subst e4; subst e3
      refine ⟨I1, ?_⟩
      rw [if_neg (fun h => h.elim c (fun h => h d))]
      exact Prod.ext k1 rfl
    · rw [if_pos (.inr d), k1]
theorem rz_boom {r w v : Int32} {μ : km_S} (I : im_ μ) : wX12_boom r w v μ (pz_ (z_boom r v (sm_ μ))) := by
  intro μ1 e1
  have I1 : im_ μ1 := by rw [e1]; exact im_code 0 I
  have s1 : sm_ μ1 = sm_ μ := by rw [e1]; rfl
  have k1 : km_i μ1 1 = 0 := by rw [e1]; rfl
  refine rz_isReach (fun c => ⟨fun n => absurd rfl n, fun _ => ?_⟩) (fun a b => ⟨fun _ => ?_, fun n => absurd n (by decide)⟩)
  · intro μ2 e2
    subst e2
    refine ⟨im_code 1 I1, ?_⟩
    rw [← s1]
    unfold z_boom
    rw [if_neg (show ¬ z_is r (sm_ μ1) from c)]
    rfl
  · have hin := im_in I1 a b
    have hz : z_is r (sm_ μ1) := ⟨a, b⟩
    rw [← s1]
    unfold z_boom
    rw [if_pos hz]
    refine ⟨fun c => ⟨I1, ?_⟩, fun c => ⟨fun d => ⟨hin, fun μ3 e3 => ⟨hin, fun μ4 e4 => ⟨hin, fun μ5 e5 => ?_⟩⟩⟩, fun d => ⟨I1, ?_⟩⟩⟩
    · rw [if_pos (.inl c), k1]
    · subst e5; subst e4; subst e3
      obtain ⟨n1, n2, n3, n4, n5, n6, n7, n8⟩ := I1
      refine ⟨⟨n1, fun q hq => ?_, n3, n4, n5, n6, n7, n8⟩, ?_⟩
      · have h := n2 q hq
        refine ⟨h.1, h.2.1, h.2.2.1, ?_, h.2.2.2.2⟩
        show (upd (km_a μ1 28) r.toNatClampNeg v q).toInt ≤ 100
        unfold upd
        split
        · rw [ki_le] at d; exact d
        · exact h.2.2.2.1
      · rw [if_neg (fun h => h.elim c (fun h => h d))]
        exact Prod.ext k1 rfl
    · rw [if_pos (.inr d), k1]
theorem rz_watch {r v : Int32} {μ : km_S} (hv : v = 0 ∨ v = 1) (I : im_ μ) : wX12_watch r v μ (pz_ (z_watch r v (sm_ μ))) := by
  intro μ1 e1
  have I1 : im_ μ1 := by rw [e1]; exact im_code 0 I
  have s1 : sm_ μ1 = sm_ μ := by rw [e1]; rfl
  have k1 : km_i μ1 1 = 0 := by rw [e1]; rfl
  refine rz_isReach (fun c => ⟨fun n => absurd rfl n, fun _ => ?_⟩) (fun a b => ⟨fun _ => ?_, fun n => absurd n (by decide)⟩)
  · intro μ2 e2
    subst e2
    refine ⟨im_code 1 I1, ?_⟩
    rw [← s1]
    unfold z_watch
    rw [if_neg (show ¬ z_is r (sm_ μ1) from c)]
    rfl
  · have hin := im_in I1 a b
    have hz : z_is r (sm_ μ1) := ⟨a, b⟩
    rw [← s1]
    unfold z_watch
    rw [if_pos hz]
    have hn : vp_nar .boolean v = v := by rcases hv with h | h <;> rw [h] <;> rfl
    refine ⟨hin, fun v3 e3 => ⟨hin, fun μ4 e4 => ⟨?_, ?_⟩⟩⟩
    · have h := (I1.2.1 r.toNatClampNeg (by have := ki_in.1 hin; rw [ki_nat]; omega)).2.2.2.2
      subst e3
      rcases h with h | h <;> rw [h] <;> rfl
    · subst e4; subst e3
      rw [hn]
      obtain ⟨n1, n2, n3, n4, n5, n6, n7, n8⟩ := I1
      refine ⟨⟨n1, fun q hq => ?_, n3, n4, n5, n6, n7, n8⟩, Prod.ext k1 rfl⟩
      have h := n2 q hq
      refine ⟨h.1, h.2.1, h.2.2.1, h.2.2.2.1, ?_⟩
      show upd (km_a μ1 23) r.toNatClampNeg v q = 0 ∨ upd (km_a μ1 23) r.toNatClampNeg v q = 1
      unfold upd
      split
      · exact hv
      · exact h.2.2.2.2
