/-! the water's hour -/
abbrev ih_ (σ : sz_T × Int32) (μ : km_S) : Prop := im_ μ ∧ (sm_ μ, km_i μ 1) = σ
theorem ih_u {s : sz_T} {c : Int32} {μ : km_S} (h : ih_ (s, c) μ) : im_ μ ∧ sm_ μ = s := ⟨h.1, congrArg Prod.fst h.2⟩
theorem ih_sa20 {σ : sz_T × Int32} {μ : km_S} {i : Nat} {v : Int32} (h : ih_ σ μ) : ih_ σ (km_sa μ 20 i v) := h
theorem ih_sa18 {σ : sz_T × Int32} {μ : km_S} {i : Nat} {v : Int32} (h : ih_ σ μ) : ih_ σ (km_sa μ 18 i v) := h
theorem ih_sa19 {σ : sz_T × Int32} {μ : km_S} {i : Nat} {v : Int32} (h : ih_ σ μ) : ih_ σ (km_sa μ 19 i v) := h
theorem ih_sa25 {σ : sz_T × Int32} {μ : km_S} {i : Nat} {v : Int32} (h : ih_ σ μ) : ih_ σ (km_sa μ 25 i v) := h
theorem ih_sl {σ : sz_T × Int32} {μ : km_S} {i : Nat} {v : Int64} (h : ih_ σ μ) : ih_ σ (km_sl μ i v) := h
theorem ih_sp {σ : sz_T × Int32} {μ : km_S} {i : Nat} {v : Int64} (h : ih_ σ μ) : ih_ σ (km_sp μ i v) := h
theorem ki_z0 : (0 : Int32).toInt = 0 := by decide
theorem ki_z1 : (1 : Int32).toInt = 1 := by decide
theorem ki_zm : (-1 : Int32).toInt = -1 := by decide
theorem ki_inc {a : Int32} (h1 : -2147483649 ≤ a.toInt) (h2 : a.toInt < 2147483647) : (a + 1).toInt = a.toInt + 1 := by
  have := ki_lo a
  rw [ki_add (by rw [ki_z1]; omega) (by rw [ki_z1]; omega), ki_z1]
theorem ki_dec {a : Int32} (h1 : -2147483648 < a.toInt) : (a + -1).toInt = a.toInt - 1 := by
  have := ki_hi a
  rw [ki_add (by rw [ki_zm]; omega) (by rw [ki_zm]; omega), ki_zm]; omega
theorem ki_dec2 {a : Int32} (h1 : -2147483648 < a.toInt) : (a - 1).toInt = a.toInt - 1 := by
  have := ki_hi a
  rw [ki_sub (by rw [ki_z1]; omega) (by rw [ki_z1]; omega), ki_z1]
theorem rz_water166 {σ : sz_T × Int32} {r : Int32} {μ : km_S} {k : Int32 → km_S → Prop} {Q : km_S → Prop} (hr : vp_in r 10) (H : ih_ σ μ) (kk : ∀ μ', ih_ σ μ' → k (r + -1) μ') : wX12_waterGoes_166 k Q r μ := by
  have h10 := ki_in.1 hr
  have hn := (H.1.2.1 r.toNatClampNeg (by rw [ki_nat]; omega)).1
  refine ⟨hr, fun c => ?_, fun c => ⟨hr, fun μ2 e2 v e => ?_⟩⟩
  · have c' : (km_a μ 13 r.toNatClampNeg).toInt ≠ -1 := fun h => c (ki_eq.2 (h.trans ki_zm.symm))
    have hin : vp_in (km_a μ 13 r.toNatClampNeg) 10 := by rw [ki_in]; omega
    refine ⟨hr, hin, hr, hin, fun μ2 e2 v e => ?_⟩
    rw [e, e2]
    exact kk _ (ih_sa20 H)
  · rw [e, e2]
    exact kk _ (ih_sl H)
theorem rz_waterGoes {σ : sz_T × Int32} {μ : km_S} {Q : km_S → Prop} (H : ih_ σ μ) (kk : ∀ μ', ih_ σ μ' → Q μ') : wX12_waterGoes μ Q := by
  have L2 : ∀ (n : Nat) (r : Int32) (μ2 : km_S), -1 ≤ r.toInt → r.toInt ≤ 9 → r.toInt + 1 < (n : Int) → ih_ σ μ2 → wX12_waterGoes_35 Q n r μ2 := by
    intro n
    induction n with
    | zero => intro r μ2 h1 h2 h3; omega
    | succ n ih =>
      intro r μ2 h1 h2 h3 H2
      refine ⟨fun _ => kk _ H2, fun c => ?_⟩
      rw [ki_lt, ki_z0] at c
      have hr : vp_in r 10 := by rw [ki_in]; omega
      have N : ∀ μ', ih_ σ μ' → wX12_waterGoes_35 Q n (r + -1) μ' := fun μ' H' => by
        have := ki_dec (a := r) (by omega)
        exact ih _ μ' (by omega) (by omega) (by omega) H'
      refine ⟨hr, fun μ3 e3 => ⟨hr, hr, fun μ4 e4 => ⟨hr, hr, fun μ5 e5 => ⟨hr, fun _ => ?_, fun _ => ⟨hr, hr, hr, fun μ6 e6 => ⟨hr, hr, fun v7 e7 => ⟨hr, hr, fun μ8 e8 => ⟨hr, hr, fun v9 e9 => ⟨hr, hr, fun μ10 e10 => ⟨hr, fun μ11 e11 => ?_⟩⟩⟩⟩⟩⟩⟩⟩⟩⟩
      · refine rz_water166 hr ?_ N
        rw [e5, e4, e3]
        exact ih_sa19 (ih_sa18 (ih_sl H2))
      · refine rz_water166 hr ?_ N
        rw [e11, e10, e8, e6, e5, e4, e3]
        exact ih_sa19 (ih_sa25 (ih_sa25 (ih_sa25 (ih_sa19 (ih_sa18 (ih_sl H2))))))
  have L1 : ∀ (n : Nat) (r : Int32) (μ2 : km_S), 0 ≤ r.toInt → r.toInt ≤ 10 → 10 - r.toInt < (n : Int) → ih_ σ μ2 → wX12_waterGoes_2 (wX12_waterGoes_28 Q) Q n r μ2 := by
    intro n
    induction n with
    | zero => intro r μ2 h1 h2 h3; omega
    | succ n ih =>
      intro r μ2 h1 h2 h3 H2
      have b := H2.1.1.1
      refine ⟨fun _ v e => ⟨20, ?_⟩, fun c => ?_⟩
      · have := ki_dec2 (a := km_i μ2 3) (by omega)
        rw [e]
        exact L2 20 _ μ2 (by omega) (by omega) (by omega) H2
      · rw [ki_le] at c
        have hr : vp_in r 10 := by rw [ki_in]; omega
        refine ⟨hr, hr, fun μ5 e5 v e => ?_⟩
        have := ki_inc (a := r) (by omega) (by omega)
        rw [e, e5]
        exact ih _ _ (by omega) (by omega) (by omega) (ih_sa20 H2)
  exact ⟨20, L1 20 0 μ (by decide) (by decide) (by decide) H⟩
