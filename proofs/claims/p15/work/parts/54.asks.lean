/-! the reference's asks: they leave all as it is -/
abbrev pu_ (σ : sz_T) : Int32 → km_S → Prop := fun _ μ => im_ μ ∧ sm_ μ = σ
abbrev pl_ (σ : sz_T) : Int64 → km_S → Prop := fun _ μ => im_ μ ∧ sm_ μ = σ
theorem rz_fail {μ : km_S} {σ : sz_T} (h : im_ μ ∧ sm_ μ = σ) : wX12_fail μ (pu_ σ) := by
  intro μ1 e; subst e; exact h
theorem rz_isLog {r : Int32} {μ : km_S} {Q : Int32 → km_S → Prop} (h0 : ¬ (0 ≤ r.toInt ∧ r.toInt < (km_i μ 4).toInt) → Q 0 μ) (h1 : 0 ≤ r.toInt → r.toInt < (km_i μ 4).toInt → Q 1 μ) : wX12_isLog r μ Q := by
  have z : (0 : Int32).toInt = 0 := by decide
  refine ⟨fun c => h0 ?_, fun c => ⟨fun d => h0 ?_, fun d => h1 ?_ ?_⟩⟩
  all_goals (simp only [ki_lt, ki_le, z] at *; omega)
/-- a cell that is there: its number is one of 120 -/
theorem rz_isCell {r c : Int32} {μ : km_S} {Q : Int32 → km_S → Prop} (I : im_ μ) (h0 : Q 0 μ) (h1 : 0 ≤ r.toInt → r.toInt < (km_i μ 3).toInt → 0 ≤ c.toInt → c.toInt < 12 → Q 1 μ) : wX12_isCell r c μ Q := by
  have z : (0 : Int32).toInt = 0 := by decide
  refine rz_isReach (fun _ => ⟨fun _ => h0, fun n => absurd rfl n⟩) (fun a b => ⟨fun n => absurd n (by decide), fun _ => ⟨fun _ => h0, fun d => ⟨im_in I a b, fun _ => h0, fun e => h1 a b ?_ ?_⟩⟩⟩)
  · rw [ki_lt, z] at d; omega
  · have := (I.2.1 r.toNatClampNeg (by have := I.1.1; rw [ki_nat]; omega)).2.1
    rw [ki_le] at e; omega
theorem im_at {r c : Int32} (a : 0 ≤ r.toInt) (b : r.toInt < 10) (d : 0 ≤ c.toInt) (e : c.toInt < 12) : (12 * r + c).toInt = 12 * r.toInt + c.toInt := by
  have z : (12 : Int32).toInt = 12 := by decide
  have h : (12 * r).toInt = 12 * r.toInt := by rw [ki_mul (by rw [z]; omega) (by rw [z]; omega), z]
  rw [ki_add (by rw [h]; omega) (by rw [h]; omega), h]
theorem rz_fault {μ : km_S} (I : im_ μ) : wX12_fault μ (pu_ (sm_ μ)) := by
  intro μ1 e; subst e; exact ⟨im_code 0 I, rfl⟩
theorem rz_wants {o : Int32} {μ : km_S} (I : im_ μ) : wX12_wants o μ (pu_ (sm_ μ)) := by
  intro μ1 e; subst e
  have H : im_ (km_si μ 1 0) ∧ sm_ (km_si μ 1 0) = sm_ μ := ⟨im_code 0 I, rfl⟩
  have z : (0 : Int32).toInt = 0 := by decide
  refine ⟨fun _ => rz_fail H, fun c => ⟨fun d => ⟨?_, H⟩, fun _ => rz_fail H⟩⟩
  have := H.1.1.2.2.2.2.1
  rw [ki_lt] at c d; rw [z] at c; rw [ki_in]; omega
theorem rz_board {o : Int32} {μ : km_S} (I : im_ μ) : wX12_board o μ (pu_ (sm_ μ)) := by
  intro μ1 e; subst e
  have H : im_ (km_si μ 1 0) ∧ sm_ (km_si μ 1 0) = sm_ μ := ⟨im_code 0 I, rfl⟩
  have z : (0 : Int32).toInt = 0 := by decide
  refine ⟨fun _ => rz_fail H, fun c => ⟨fun d => ⟨?_, H⟩, fun _ => rz_fail H⟩⟩
  have := H.1.2.2.2.2.2.1.2
  rw [ki_lt] at c d; rw [z] at c; rw [ki_in]; omega
theorem rz_paid {o : Int32} {μ : km_S} (I : im_ μ) : wX12_paid o μ (pl_ (sm_ μ)) := by
  intro μ1 e; subst e
  have H : im_ (km_si μ 1 0) ∧ sm_ (km_si μ 1 0) = sm_ μ := ⟨im_code 0 I, rfl⟩
  have z : (0 : Int32).toInt = 0 := by decide
  have z15 : (15 : Int32).toInt = 15 := by decide
  have F : wX12_paid_15 (pl_ (sm_ μ)) (km_si μ 1 0) := by intro μ2 e2; subst e2; exact H
  refine ⟨fun _ => F, fun c => ⟨fun d => ⟨?_, H⟩, fun _ => F⟩⟩
  rw [ki_lt] at c; rw [ki_le, z15] at d; rw [z] at c; rw [ki_in]; omega
theorem rz_waters {o : Int32} {μ : km_S} (I : im_ μ) : wX12_waters o μ (pl_ (sm_ μ)) := by
  intro μ1 e; subst e
  have H : im_ (km_si μ 1 0) ∧ sm_ (km_si μ 1 0) = sm_ μ := ⟨im_code 0 I, rfl⟩
  exact ⟨fun _ => ⟨fun _ => by intro μ2 e2; subst e2; exact H, fun _ => H⟩, fun _ => H⟩
theorem rz_log {g w : Int32} {μ : km_S} (I : im_ μ) : wX12_log g w μ (pu_ (sm_ μ)) := by
  intro μ1 e; subst e
  have H : im_ (km_si μ 1 0) ∧ sm_ (km_si μ 1 0) = sm_ μ := ⟨im_code 0 I, rfl⟩
  refine rz_isLog (fun _ => ⟨fun n => absurd rfl n, fun _ => rz_fail H⟩) (fun a b => ⟨fun _ => ?_, fun n => absurd n (by decide)⟩)
  have hin : vp_in g 400 := by have := H.1.1.2.1; rw [ki_in]; omega
  exact fun v _ => ⟨fun _ => ⟨hin, H⟩, fun _ => ⟨hin, H⟩, fun _ => ⟨hin, H⟩, fun _ => ⟨hin, H⟩, fun _ => ⟨hin, H⟩, fun _ => ⟨hin, H⟩, fun _ => ⟨hin, H⟩, fun _ => ⟨hin, H⟩, fun _ _ _ _ _ _ _ _ => rz_fail H⟩
theorem rz_water {r w : Int32} {μ : km_S} (I : im_ μ) : wX12_water r w μ (pu_ (sm_ μ)) := by
  intro μ1 e; subst e
  have H : im_ (km_si μ 1 0) ∧ sm_ (km_si μ 1 0) = sm_ μ := ⟨im_code 0 I, rfl⟩
  refine rz_isReach (fun _ => ⟨fun n => absurd rfl n, fun _ => rz_fail H⟩) (fun a b => ⟨fun _ => ?_, fun n => absurd n (by decide)⟩)
  have hin := im_in H.1 a b
  exact fun v _ => ⟨fun _ => ⟨hin, H⟩, fun _ => ⟨hin, H⟩, fun _ => ⟨hin, fun _ => H, fun _ => ⟨hin, H⟩⟩, fun _ => ⟨hin, H⟩, fun _ => ⟨hin, H⟩, fun _ _ _ _ _ => rz_fail H⟩
theorem rz_heap {r i : Int32} {μ : km_S} (I : im_ μ) : wX12_heap r i μ (pu_ (sm_ μ)) := by
  intro μ1 e; subst e
  have H : im_ (km_si μ 1 0) ∧ sm_ (km_si μ 1 0) = sm_ μ := ⟨im_code 0 I, rfl⟩
  have z : (0 : Int32).toInt = 0 := by decide
  have z100 : (100 : Int32).toInt = 100 := by decide
  refine rz_isReach (fun _ => ⟨fun n => absurd rfl n, fun _ => rz_fail H⟩) (fun a b => ⟨fun _ => ?_, fun n => absurd n (by decide)⟩)
  have hin := im_in H.1 a b
  refine ⟨hin, fun _ => ⟨fun _ => ⟨fun _ => H, fun c => ⟨hin, fun d => ⟨?_, H⟩, fun _ => H⟩⟩, fun _ => ⟨hin, H⟩⟩, fun _ => H⟩
  have h10 := ki_in.1 hin
  have h1 := (H.1.2.2.2.1 r.toNatClampNeg (by rw [ki_nat]; omega)).1
  rw [ki_lt] at c d
  rw [z] at c
  have m : (100 * r).toInt = 100 * r.toInt := by rw [ki_mul (by rw [z100]; omega) (by rw [z100]; omega), z100]
  rw [ki_in, ki_add (by rw [m]; omega) (by rw [m]; omega), m]
  omega
