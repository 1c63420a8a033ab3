/-! the hour's jams: only what is jammed, what is known, and when crews freed -/
theorem ih_sa33 {σ : sz_T × Int32} {μ : km_S} {i : Nat} {v : Int32} (h : ih_ σ μ) : ih_ σ (km_sa μ 33 i v) := h
theorem ih_sa34 {σ : sz_T × Int32} {μ : km_S} {i : Nat} {v : Int32} (h : ih_ σ μ) : ih_ σ (km_sa μ 34 i v) := h
theorem ih_sa46 {σ : sz_T × Int32} {μ : km_S} {i : Nat} {v : Int32} (h : ih_ σ μ) : ih_ σ (km_sa μ 46 i v) := h
theorem im_len {σ : sz_T × Int32} {μ : km_S} {r : Int32} (hr : vp_in r 10) (H : ih_ σ μ) : (km_a μ 14 r.toNatClampNeg).toInt ≤ 12 := by
  have := ki_in.1 hr
  exact (H.1.2.1 r.toNatClampNeg (by rw [ki_nat]; omega)).2.1.2
theorem im_at0 {r c : Int32} (hr : vp_in r 10) (h1 : 0 ≤ c.toInt) (h2 : c.toInt < 12) : vp_in (12 * r + c) 120 := by
  have := ki_in.1 hr
  rw [ki_in, im_at (by omega) (by omega) h1 h2]; omega
theorem rz_jams12 {σ : sz_T × Int32} {K : Int32 → km_S → Prop} {Q : km_S → Prop} {r : Int32} (hr : vp_in r 10) (kk : ∀ μ', ih_ σ μ' → K r μ') :
    ∀ (n : Nat) (c : Int32) (μ : km_S), 0 ≤ c.toInt → c.toInt ≤ 12 → 12 - c.toInt < (n : Int) → ih_ σ μ → wX12_jams_12 K Q n r c μ := by
  intro n
  induction n with
  | zero => intro c μ h1 h2 h3; omega
  | succ n ih =>
    intro c μ h1 h2 h3 H
    have hl := im_len hr H
    refine ⟨hr, fun _ => kk _ H, fun d => ?_⟩
    rw [ki_le] at d
    have hX := im_at0 hr h1 (by omega)
    have ci := ki_inc (a := c) (by omega) (by omega)
    have N : ∀ μ', ih_ σ μ' → wX12_jams_67 (wX12_jams_12 K Q n) Q r c μ' := fun μ' H' v ev => by
      rw [ev]; exact ih (c + 1) μ' (by omega) (by omega) (by omega) H'
    exact ⟨hX, hr, fun _ => N _ H, fun _ => ⟨hr, hr, fun _ => N _ H, fun _ => ⟨hX, fun μ2 e2 => N _ (by rw [e2]; exact ih_sa33 H)⟩⟩⟩
theorem rz_jams101 {σ : sz_T × Int32} {K : Int32 → Int32 → Int32 → km_S → Prop} {Q : km_S → Prop} {l r : Int32} (hr : vp_in r 10) (kk : ∀ (w : Int32) μ', -1 ≤ w.toInt → w.toInt < 12 → ih_ σ μ' → K l r w μ') :
    ∀ (n : Nat) (w c : Int32) (μ : km_S), -1 ≤ w.toInt → w.toInt < 12 → 0 ≤ c.toInt → c.toInt ≤ 12 → 12 - c.toInt < (n : Int) → ih_ σ μ → wX12_jams_101 K Q n l r w c μ := by
  intro n
  induction n with
  | zero => intro w c μ g1 g2 h1 h2 h3; omega
  | succ n ih =>
    intro w c μ g1 g2 h1 h2 h3 H
    have hl := im_len hr H
    refine ⟨hr, fun _ => kk _ _ g1 g2 H, fun d => ?_⟩
    rw [ki_le] at d
    have hX := im_at0 hr h1 (by omega)
    have ci := ki_inc (a := c) (by omega) (by omega)
    have N : ∀ w' : Int32, -1 ≤ w'.toInt → w'.toInt < 12 → wX12_jams_129 (wX12_jams_101 K Q n) Q l r w' c μ := fun w' q1 q2 v ev => by
      rw [ev]; exact ih w' (c + 1) μ q1 q2 (by omega) (by omega) (by omega) H
    exact ⟨hX, fun _ => N _ g1 g2, fun _ => N _ (by omega) (by omega)⟩
theorem rz_jams258 {σ : sz_T × Int32} {K : Int32 → km_S → Prop} {Q : km_S → Prop} {r s : Int32} (hr : vp_in r 10) (kk : ∀ μ', ih_ σ μ' → K r μ') :
    ∀ (n : Nat) (c : Int32) (μ : km_S), 0 ≤ c.toInt → c.toInt ≤ 12 → 12 - c.toInt < (n : Int) → ih_ σ μ → wX12_jams_258 K Q n r s c μ := by
  intro n
  induction n with
  | zero => intro c μ h1 h2 h3; omega
  | succ n ih =>
    intro c μ h1 h2 h3 H
    have hl := im_len hr H
    refine ⟨hr, fun _ => kk _ H, fun d => ⟨fun _ => kk _ H, fun _ => ?_⟩⟩
    rw [ki_le] at d
    have hX := im_at0 hr h1 (by omega)
    have ci := ki_inc (a := c) (by omega) (by omega)
    have N : ∀ μ', ih_ σ μ' → wX12_jams_296 (wX12_jams_258 K Q n) Q r s c μ' := fun μ' H' v ev => by
      rw [ev]; exact ih (c + 1) μ' (by omega) (by omega) (by omega) H'
    exact ⟨hX, fun _ => N _ H, fun _ => ⟨hX, fun μ2 e2 => N _ (by rw [e2]; exact ih_sa34 H)⟩⟩
theorem rz_jams230 {σ : sz_T × Int32} {K : Int32 → Int32 → km_S → Prop} {Q : km_S → Prop} {r : Int32} {μ : km_S} (H : ih_ σ μ) (kk : ∀ s, K r s μ) :
    ∀ (n : Nat) (s k : Int32), 0 ≤ k.toInt → k.toInt ≤ 6 → 6 - k.toInt < (n : Int) → wX12_jams_230 K Q n r s k μ := by
  intro n
  induction n with
  | zero => intro s k h1 h2 h3; omega
  | succ n ih =>
    intro s k h1 h2 h3
    have b := H.1.1.2.2.2.1
    refine ⟨fun _ => kk _, fun d => ?_⟩
    rw [ki_le] at d
    have ci := ki_inc (a := k) (by omega) (by omega)
    have N : ∀ s', wX12_jams_250 (wX12_jams_230 K Q n) Q r s' k μ := fun s' v ev => by
      rw [ev]; exact ih s' (k + 1) (by omega) (by omega) (by omega)
    exact ⟨by rw [ki_in]; omega, fun _ => N _, fun _ => N _⟩
theorem rz_jams {σ : sz_T × Int32} {μ : km_S} {Q : km_S → Prop} (H : ih_ σ μ) (kk : ∀ μ', ih_ σ μ' → Q μ') : wX12_jams μ Q := by
  have L3 : ∀ (n : Nat) (r : Int32) (μ2 : km_S), 0 ≤ r.toInt → r.toInt ≤ 10 → 10 - r.toInt < (n : Int) → ih_ σ μ2 → wX12_jams_213 Q n r μ2 := by
    intro n
    induction n with
    | zero => intro r μ2 h1 h2 h3; omega
    | succ n ih =>
      intro r μ2 h1 h2 h3 H2
      have b := H2.1.1.1
      refine ⟨fun _ => kk _ H2, fun c => ?_⟩
      rw [ki_le] at c
      have hr : vp_in r 10 := by rw [ki_in]; omega
      have ri := ki_inc (a := r) (by omega) (by omega)
      refine ⟨hr, fun v ev => ⟨20, rz_jams230 H2 (fun s => ⟨20, rz_jams258 hr (fun μ' H' w ew => ?_) 20 0 μ2 (by decide) (by decide) (by decide) H2⟩) 20 v 0 (by decide) (by decide) (by decide)⟩⟩
      rw [ew]
      exact ih (r + 1) μ' (by omega) (by omega) (by omega) H'
  have L2 : ∀ (n : Nat) (k : Int32) (μ2 : km_S), 0 ≤ k.toInt → k.toInt ≤ 6 → 6 - k.toInt < (n : Int) → ih_ σ μ2 → wX12_jams_81 (wX12_jams_211 Q) Q n k μ2 := by
    intro n
    induction n with
    | zero => intro r μ2 h1 h2 h3; omega
    | succ n ih =>
      intro k μ2 h1 h2 h3 H2
      have b := H2.1.1.2.2.2.1
      refine ⟨fun _ => ⟨20, L3 20 0 μ2 (by decide) (by decide) (by decide) H2⟩, fun c => ?_⟩
      rw [ki_le] at c
      have hk : vp_in k 6 := by rw [ki_in]; omega
      have ri := ki_inc (a := k) (by omega) (by omega)
      refine ⟨hk, fun v ev => ⟨20, ?_⟩⟩
      have hw := H2.1.2.2.2.2.2.2.1 k.toNatClampNeg (by rw [ki_nat]; omega)
      rw [← ev] at hw
      have hr : vp_in v 10 := by rw [ki_in]; omega
      refine rz_jams101 hr (fun w μ' w1 w2 H' => ?_) 20 (-1) 0 μ2 (by decide) (by decide) (by decide) (by decide) (by decide) H2
      have N : ∀ μ', ih_ σ μ' → wX12_jams_205 (wX12_jams_81 (wX12_jams_211 Q) Q n) Q k μ' := fun μ' H' x ex => by
        rw [ex]; exact ih (k + 1) μ' (by omega) (by omega) (by omega) H'
      refine ⟨fun _ => N _ H', fun d => ⟨hk, fun _ => N _ H', fun _ => ⟨hk, fun _ => ?_, fun _ => N _ H'⟩⟩⟩
      have d' : w.toInt ≠ -1 := fun x => d (ki_eq.2 (x.trans ki_zm.symm))
      have hX := im_at0 (c := w) hr (by omega) w2
      refine ⟨hX, fun μ3 e3 => ⟨hX, fun μ4 e4 => ⟨hk, fun μ5 e5 => N _ ?_⟩⟩⟩
      rw [e5, e4, e3]
      exact ih_sa46 (ih_sa34 (ih_sa33 H'))
  have L1 : ∀ (n : Nat) (r : Int32) (μ2 : km_S), 0 ≤ r.toInt → r.toInt ≤ 10 → 10 - r.toInt < (n : Int) → ih_ σ μ2 → wX12_jams_2 (wX12_jams_79 Q) Q n r μ2 := by
    intro n
    induction n with
    | zero => intro r μ2 h1 h2 h3; omega
    | succ n ih =>
      intro r μ2 h1 h2 h3 H2
      have b := H2.1.1.1
      refine ⟨fun _ => ⟨20, L2 20 0 μ2 (by decide) (by decide) (by decide) H2⟩, fun c => ?_⟩
      rw [ki_le] at c
      have hr : vp_in r 10 := by rw [ki_in]; omega
      have ri := ki_inc (a := r) (by omega) (by omega)
      refine ⟨20, rz_jams12 hr (fun μ' H' w ew => ?_) 20 0 μ2 (by decide) (by decide) (by decide) H2⟩
      rw [ew]
      exact ih (r + 1) μ' (by omega) (by omega) (by omega) H'
  exact ⟨20, L1 20 0 μ (by decide) (by decide) (by decide) H⟩
