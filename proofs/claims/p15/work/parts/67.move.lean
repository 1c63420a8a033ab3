def kr_ (μ : km_S) (R : Nat → Int32) : km_S := (μ.1, fun j => if j = 69 then R else μ.2.1 j, μ.2.2)
theorem kr_69 {μ : km_S} {R : Nat → Int32} {v : Int32} {p : Nat} : km_sa (kr_ μ R) 69 p v = kr_ μ (upd R p v) := by
  refine Prod.ext rfl (Prod.ext ?_ rfl)
  funext j
  show (if j = 69 then _ else if j = 69 then R else μ.2.1 j) = (if j = 69 then _ else μ.2.1 j)
  by_cases a : j = 69
  · rw [if_pos a, if_pos a]; rfl
  · rw [if_neg a, if_neg a, if_neg a]
theorem kr_id (μ : km_S) : kr_ μ (km_a μ 69) = μ := by
  refine Prod.ext rfl (Prod.ext ?_ rfl)
  funext j
  show (if j = 69 then _ else _) = _
  by_cases a : j = 69
  · rw [if_pos a, a]; rfl
  · rw [if_neg a]
theorem ih_kr {σ : sz_T × Int32} {μ : km_S} {R : Nat → Int32} (h : ih_ σ μ) : ih_ σ (kr_ μ R) := h
theorem rz_move75 {σ : sz_T × Int32} {k99 : Int32 → Int32 → km_S → Prop} {Q : km_S → Prop} {l1 l2 h : Int32} {R : Nat → Int32} (hh : h.toInt ≤ 20) (hv : ∀ a : Nat, (a : Int) < h.toInt → 0 ≤ (R a).toInt ∧ (R a).toInt < 400) (hd : ∀ a b : Nat, (a : Int) < h.toInt → (b : Int) < h.toInt → R b = R a → b = a) (kk : ∀ μ', ih_ σ μ' → k99 l1 l2 μ') :
    ∀ (n : Nat) (i : Int32) (μ : km_S), 0 ≤ i.toInt → i.toInt ≤ 20 → 20 - i.toInt < (n : Int) → ih_ σ μ → km_a μ 69 = R → (∀ a : Nat, i.toInt ≤ (a : Int) → (a : Int) < h.toInt → km_a μ 38 (R a).toNatClampNeg = 1) → wX12_move_75 k99 Q n l1 l2 h i μ := by
  intro n
  induction n with
  | zero => intro i μ h1 h2 h3; omega
  | succ n ih =>
    intro i μ h1 h2 h3 H e hp
    refine ⟨fun _ => kk _ H, fun c => ?_⟩
    rw [ki_le] at c
    have ii := ki_inc (a := i) (by omega) (by omega)
    obtain ⟨x, ex⟩ : ∃ x, x = i.toNatClampNeg := ⟨_, rfl⟩
    have hx : (x : Int) = i.toInt := by rw [ex, ki_nat]; omega
    refine ⟨by rw [ki_in]; omega, ?_⟩
    rw [e, ← ex]
    have v := hv x (by omega)
    refine rz_go H (by rw [ki_in]; omega) (hp x (by omega) (by omega)) (fun μ' G w ew => ?_)
    rw [ew]
    refine ih (i + 1) μ' (by omega) (by omega) (by omega) G.1 (G.2.2.trans e) (fun a ha hb => ?_)
    rw [G.2.1 _ (fun q => ?_)]
    · exact hp a (by omega) hb
    · have va := hv a hb
      rw [ki_nat, ki_nat] at q
      have := hd x a (by omega) hb (ki_eq.2 (by omega))
      omega
theorem rz_move {σ : sz_T × Int32} {μ : km_S} {Q : km_S → Prop} (H : ih_ σ μ) (kk : ∀ μ', ih_ σ μ' → Q μ') : wX12_move μ Q := by
  have L19 : ∀ (K : Int32 → km_S → Prop) (r : Int32), vp_in r 10 → (∀ μ', ih_ σ μ' → K r μ') → ∀ (n : Nat) (c : Int32) (μ2 : km_S), -1 ≤ c.toInt → c.toInt < 12 → c.toInt + 1 < (n : Int) → ih_ σ μ2 → wX12_move_19 K Q n r c μ2 := by
    intro K r hr hK n
    have hr4 := ki_in.1 hr
    induction n with
    | zero => intro c μ2 h1 h2 h3; omega
    | succ n ih =>
      intro c μ2 h1 h2 h3 H2
      refine ⟨fun _ => hK _ H2, fun q => ?_⟩
      rw [ki_lt, ki_z0] at q
      have hat := im_at (r := r) (c := c) (by omega) (by omega) (by omega) (by omega)
      obtain ⟨X, eX⟩ : ∃ X, X = 12 * r + c := ⟨_, rfl⟩
      show vp_in (12 * r + c) 120 ∧ _
      rw [← eX] at hat
      rw [← eX]
      have hX : vp_in X 120 := by rw [ki_in]; omega
      refine ⟨hX, fun h eh => ⟨30, ?_⟩⟩
      obtain ⟨k, ek⟩ : ∃ k, k = X.toNatClampNeg := ⟨_, rfl⟩
      have hk : (k : Int) = X.toInt := by rw [ek, ki_nat]; omega
      have o := H2.1.2.2.1 k (by omega)
      rw [← ek] at eh
      rw [← eh] at o
      have cd := ki_dec (a := c) (by omega)
      have L40 : ∀ (m : Nat) (i : Int32) (R : Nat → Int32), 0 ≤ i.toInt → i.toInt ≤ h.toInt → h.toInt - i.toInt < (m : Int) → (∀ a : Nat, (a : Int) < i.toInt → R a = km_a μ2 32 (20 * k + a)) → wX12_move_40 (wX12_move_72 (wX12_move_19 K Q n) Q) Q m r c X h i (kr_ μ2 R) := by
        intro m
        induction m with
        | zero => intro i R g1 g2 g3; omega
        | succ m ihm =>
          intro i R g1 g2 g3 g4
          refine ⟨fun d => ⟨30, ?_⟩, fun d => ?_⟩
          · rw [ki_le] at d
            refine rz_move75 (σ := σ) (R := R) (by omega) (fun a ha => ?_) (fun a b ha hb e => ?_) (fun μ' H' v ev => ?_) 30 0 (kr_ μ2 R) (by decide) (by decide) (by decide) (ih_kr H2) rfl (fun a _ ha => ?_)
            · rw [g4 a (by omega)]; exact (o.2 a ha).1
            · rw [g4 a (by omega), g4 b (by omega)] at e
              exact (o.2 a ha).2.2.2 b hb e
            · rw [ev]
              exact ih (c + -1) μ' (by omega) (by omega) (by omega) H'
            · rw [g4 a (by omega)]; exact (o.2 a ha).2.1
          · rw [ki_le] at d
            have h20 := ki_20 (k := X) (i := i) (by omega) (by omega) (by omega) (by omega)
            obtain ⟨x, ex⟩ : ∃ x, x = i.toNatClampNeg := ⟨_, rfl⟩
            have hx : (x : Int) = i.toInt := by rw [ex, ki_nat]; omega
            have pi : (20 * X + i).toNatClampNeg = 20 * k + x := by rw [ki_nat, h20]; omega
            have ii := ki_inc (a := i) (by omega) (by omega)
            refine ⟨by rw [ki_in]; omega, by rw [ki_in]; omega, fun μ11 e11 v ev => ?_⟩
            rw [e11, ev, kr_69, pi, ← ex]
            refine ihm (i + 1) _ (by omega) (by omega) (by omega) (fun a ha => ?_)
            by_cases e : a = x
            · rw [e, ku_self]; rfl
            · rw [ku_ne e]; exact g4 a (by omega)
      have := L40 30 0 (km_a μ2 69) (by decide) (by rw [ki_z0]; omega) (by rw [ki_z0]; omega) (fun a ha => by rw [ki_z0] at ha; omega)
      rw [kr_id] at this
      exact this
  have L2 : ∀ (n : Nat) (r : Int32) (μ2 : km_S), 0 ≤ r.toInt → r.toInt ≤ 10 → 10 - r.toInt < (n : Int) → ih_ σ μ2 → wX12_move_2 Q n r μ2 := by
    intro n
    induction n with
    | zero => intro r μ2 h1 h2 h3; omega
    | succ n ih =>
      intro r μ2 h1 h2 h3 H2
      have b := H2.1.1.1
      refine ⟨fun _ => kk _ H2, fun c => ?_⟩
      rw [ki_le] at c
      have hr : vp_in r 10 := by rw [ki_in]; omega
      have ri := ki_inc (a := r) (by omega) (by omega)
      have hl := (H2.1.2.1 r.toNatClampNeg (by rw [ki_nat]; omega)).2.1
      have ld := ki_dec2 (a := km_a μ2 14 r.toNatClampNeg) (by omega)
      refine ⟨hr, fun v ev => ⟨20, ?_⟩⟩
      rw [ev]
      refine L19 _ r hr (fun μ' H' w ew => ?_) 20 _ μ2 (by omega) (by omega) (by omega) H2
      rw [ew]
      exact ih (r + 1) μ' (by omega) (by omega) (by omega) H'
  exact ⟨20, L2 20 0 μ (by decide) (by decide) (by decide) H⟩
