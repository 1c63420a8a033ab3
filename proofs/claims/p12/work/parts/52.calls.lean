/-! the reference's plain calls: what they answer, what they leave -/
abbrev pz_ (z : Int32 × Int32 × sz_T) : Int32 → km_S → Prop := fun r μ => im_ μ ∧ (km_i μ 1, r, sm_ μ) = z
abbrev z_is (r : Int32) (σ : sz_T) : Prop := 0 ≤ r.toInt ∧ r.toInt < σ.1.1.toInt
def z_dam (r v : Int32) (σ : sz_T) : Int32 × Int32 × sz_T := if z_is r σ then (if v < 0 ∨ ¬ v ≤ 100000 then (0, 0, σ) else (0, 1, (σ.1, upd σ.2.1 r.toNatClampNeg 1, σ.2.2))) else (1, 0, σ)
def z_gate (r v : Int32) (σ : sz_T) : Int32 × Int32 × sz_T := if z_is r σ then (if σ.2.1 r.toNatClampNeg = 0 ∨ v < 0 ∨ ¬ v ≤ 1000 then (0, -1, σ) else (0, σ.2.2.1 r.toNatClampNeg, (σ.1, σ.2.1, upd σ.2.2.1 r.toNatClampNeg v, σ.2.2.2))) else (1, 0, σ)
def z_melt (r v : Int32) (σ : sz_T) : Int32 × Int32 × sz_T := if z_is r σ then (if v < 0 ∨ ¬ v ≤ 500 then (0, -1, σ) else (0, σ.2.2.2.1 r.toNatClampNeg, (σ.1, σ.2.1, σ.2.2.1, upd σ.2.2.2.1 r.toNatClampNeg v, σ.2.2.2.2))) else (1, 0, σ)
def z_boom (r v : Int32) (σ : sz_T) : Int32 × Int32 × sz_T := if z_is r σ then (if v < 1 ∨ ¬ v ≤ 100 then (0, 0, σ) else (0, 1, (σ.1, σ.2.1, σ.2.2.1, σ.2.2.2.1, σ.2.2.2.2.1, upd σ.2.2.2.2.2 r.toNatClampNeg 1))) else (1, 0, σ)
def z_watch (r v : Int32) (σ : sz_T) : Int32 × Int32 × sz_T := if z_is r σ then (0, σ.2.2.2.2.1 r.toNatClampNeg, (σ.1, σ.2.1, σ.2.2.1, σ.2.2.2.1, upd σ.2.2.2.2.1 r.toNatClampNeg v, σ.2.2.2.2.2)) else (1, 0, σ)
theorem im_in {r : Int32} {μ : km_S} (I : im_ μ) (a : 0 ≤ r.toInt) (b : r.toInt < (km_i μ 3).toInt) : vp_in r 10 := by
  have := I.1.1
  rw [ki_in]; omega
theorem rz_dam {r v : Int32} {μ : km_S} (I : im_ μ) : wX12_dam r v μ (pz_ (z_dam r v (sm_ μ))) := by
  intro μ1 e1
  have I1 : im_ μ1 := by rw [e1]; exact im_code 0 I
  have s1 : sm_ μ1 = sm_ μ := by rw [e1]; rfl
  have k1 : km_i μ1 1 = 0 := by rw [e1]; rfl
  refine rz_isReach (fun c => ⟨fun n => absurd rfl n, fun _ => ?_⟩) (fun a b => ⟨fun _ => ?_, fun n => absurd n (by decide)⟩)
  · intro μ2 e2
    subst e2
    refine ⟨im_code 1 I1, ?_⟩
    rw [← s1]
    unfold z_dam
    rw [if_neg (show ¬ z_is r (sm_ μ1) from c)]
    rfl
  · have hin := im_in I1 a b
    have hz : z_is r (sm_ μ1) := ⟨a, b⟩
    rw [← s1]
    unfold z_dam
    rw [if_pos hz]
    refine ⟨fun c => ⟨I1, ?_⟩, fun c => ⟨fun d => ⟨hin, fun μ3 e3 => ⟨hin, fun μ4 e4 => ?_⟩⟩, fun d => ⟨I1, ?_⟩⟩⟩
    · rw [if_pos (.inl c), k1]
    · subst e4; subst e3
      refine ⟨I1, ?_⟩
      rw [if_neg (fun h => h.elim c (fun h => h d))]
      exact Prod.ext k1 rfl
    · rw [if_pos (.inr d), k1]
