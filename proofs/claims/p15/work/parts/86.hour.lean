theorem rx_jamFullCells {s : sz_T} {g κ : Nat → Nat} {B n : Nat} {σ : kx_S} {R : Nat} {Q : kx_S → Prop} (J : yJ_ s g κ B n σ) (hR : xt σ R = 10) (kk : ∀ τ, yJ_ s g κ B n τ → fh_ g κ σ τ → Q τ) : wX8_jamFullCells R σ Q := by
  have L : ∀ (m : Nat) (c : Int32) (τ : kx_S), 0 ≤ c.toInt → c.toInt ≤ 400 → 400 - c.toInt < (m : Int) → yJ_ s g κ B n τ → fh_ g κ σ τ → wX8_jamFullCells_2 Q m R c τ := by
    intro m
    induction m with
    | zero => intro c τ h1 h2 h3; omega
    | succ m ih =>
      intro c τ h1 h2 h3 J1 F1
      have tR := fg_tag F1.1 hR (by decide)
      obtain ⟨_, ⟨l, l1, l2, l3⟩, _⟩ := yp10 J1 tR
      have sz := ry_size J1.1 l2
      refine ⟨tR, l, l1, l2, l2, fun _ => kk τ J1 F1, fun q => ⟨tR, l, l1, l2, ?_⟩⟩
      rw [ki_le] at q
      obtain ⟨c', ec, ii⟩ := ki_incE (a := c) (by omega) (by omega)
      have a1 : 0 ≤ c'.toInt := by omega
      have a2 : c'.toInt ≤ 400 := by omega
      have a3 : 400 - c'.toInt < (m : Int) := by omega
      refine ry_get J1.1 l2 h1 (by omega) (fun C _ tC => ?_)
      rw [l3] at tC
      have N : ∀ τ2, yJ_ s g κ B n τ2 → fh_ g κ σ τ2 → wX8_jamFullCells_50 (wX8_jamFullCells_2 Q m) Q R c τ2 := fun τ2 J2 F2 w ew => by
        rw [ew, ← ec]
        exact ih c' τ2 a1 a2 a3 J2 F2
      obtain ⟨y, y1, y2, y3, y4⟩ := yp3 J1 tC
      refine ⟨C, rfl, tC, y, y1, y2, y2, tC, fun _ => N τ J1 F1, fun _ τ2 e2 => ?_⟩
      rw [e2]
      exact N _ (yI_si (by decide) J1) (fh_trans F1 (fh_si (by decide)))
  have fin := L 401 0 σ (by decide) (by decide) (by decide) J fh_refl
  exact ⟨401, fin⟩
theorem rx_reachKnown {s : sz_T} {g κ : Nat → Nat} {B n : Nat} {σ : kx_S} {R : Nat} {Q : kx_S → Prop} (J : yJ_ s g κ B n σ) (hR : xt σ R = 10) (kk : ∀ τ, yJ_ s g κ B n τ → fh_ g κ σ τ → Q τ) : wX8_makeJamsKnown R σ Q := by
  have L : ∀ (m : Nat) (c : Int32) (τ : kx_S), 0 ≤ c.toInt → c.toInt ≤ 400 → 400 - c.toInt < (m : Int) → yJ_ s g κ B n τ → fh_ g κ σ τ → wX8_makeJamsKnown_2 Q m R c τ := by
    intro m
    induction m with
    | zero => intro c τ h1 h2 h3; omega
    | succ m ih =>
      intro c τ h1 h2 h3 J1 F1
      have tR := fg_tag F1.1 hR (by decide)
      obtain ⟨_, ⟨l, l1, l2, l3⟩, _⟩ := yp10 J1 tR
      have sz := ry_size J1.1 l2
      refine ⟨tR, l, l1, l2, l2, fun _ => kk τ J1 F1, fun q => ⟨tR, l, l1, l2, ?_⟩⟩
      rw [ki_le] at q
      obtain ⟨c', ec, ii⟩ := ki_incE (a := c) (by omega) (by omega)
      have a1 : 0 ≤ c'.toInt := by omega
      have a2 : c'.toInt ≤ 400 := by omega
      have a3 : 400 - c'.toInt < (m : Int) := by omega
      refine ry_get J1.1 l2 h1 (by omega) (fun C _ tC => ?_)
      rw [l3] at tC
      have N : ∀ τ2, yJ_ s g κ B n τ2 → fh_ g κ σ τ2 → wX8_makeJamsKnown_41 (wX8_makeJamsKnown_2 Q m) Q R c τ2 := fun τ2 J2 F2 w ew => by
        rw [ew, ← ec]
        exact ih c' τ2 a1 a2 a3 J2 F2
      refine ⟨C, rfl, tC, fun _ => N τ J1 F1, fun _ τ2 e2 => ?_⟩
      rw [e2]
      exact N _ (yI_si (by decide) J1) (fh_trans F1 (fh_si (by decide)))
  have fin := L 401 0 σ (by decide) (by decide) (by decide) J fh_refl
  exact ⟨401, fin⟩
theorem rx_freesLowestJam {s : sz_T} {g κ : Nat → Nat} {B n : Nat} {σ : kx_S} {R : Nat} {Q : Int32 → kx_S → Prop} (J : yJ_ s g κ B n σ) (hR : xt σ R = 10) (kk : ∀ r τ, yJ_ s g κ B n τ → fh_ g κ σ τ → Q r τ) : wX8_freesLowestJam R σ Q := by
  obtain ⟨_, ⟨l, l1, l2, l3⟩, _⟩ := yp10 J hR
  have sz := ry_size J.1 l2
  have L : ∀ (m : Nat) (c : Int32), -1 ≤ c.toInt → c.toInt < (xi σ 18 l).toInt → c.toInt + 1 < (m : Int) → wX8_freesLowestJam_12 (wX8_freesLowestJam_37 Q) Q m R c σ := by
    intro m
    induction m with
    | zero => intro c h1 h2 h3; omega
    | succ m ih =>
      intro c h1 h2 h3
      refine ⟨fun _ => kk 0 σ J fh_refl, fun q => ⟨hR, l, l1, l2, ?_⟩⟩
      rw [ki_lt, ki_z0] at q
      obtain ⟨c', ec, dd⟩ := ki_decE (a := c) (by omega)
      have a1 : -1 ≤ c'.toInt := by omega
      have a2 : c'.toInt < (xi σ 18 l).toInt := by omega
      have a3 : c'.toInt + 1 < (m : Int) := by omega
      refine ry_get J.1 l2 (by omega) h2 (fun C _ tC => ?_)
      rw [l3] at tC
      refine ⟨C, rfl, tC, fun _ w ew => ?_, fun _ => ⟨tC, fun τ2 e2 τ4 e4 => ?_⟩⟩
      · rw [ew, ← ec]
        exact ih c' a1 a2 a3
      · rw [e4, e2]
        exact kk 1 _ (yI_si (by decide) (yI_si (by decide) J)) (fh_trans (fh_si (by decide)) (fh_si (by decide)))
  obtain ⟨u, eu, dd⟩ := ki_dec2E (a := xi σ 18 l) (by omega)
  have b1 : -1 ≤ u.toInt := by omega
  have b2 : u.toInt < (xi σ 18 l).toInt := by omega
  have b3 : u.toInt + 1 < ((402 : Nat) : Int) := by omega
  have fin := L 402 u b1 b2 b3
  refine ⟨hR, l, l1, l2, l2, fun v ev => ⟨402, ?_⟩⟩
  rw [ev, ← eu]
  exact fin
theorem rx_jamCells {s : sz_T} {g κ : Nat → Nat} {B n : Nat} {σ : kx_S} {Q : kx_S → Prop} (J : yJ_ s g κ B n σ) (kk : ∀ τ, yJ_ s g κ B n τ → fh_ g κ σ τ → Q τ) : wX11_jamCells (g 0) σ Q := by
  have L : ∀ (m : Nat) (r : Int32) (τ : kx_S), 0 ≤ r.toInt → r.toInt ≤ 400 → 400 - r.toInt < (m : Int) → yJ_ s g κ B n τ → fh_ g κ σ τ → wX11_jamCells_2 Q m (g 0) r τ := by
    intro m
    induction m with
    | zero => intro r τ h1 h2 h3; omega
    | succ m ih =>
      intro r τ h1 h2 h3 J1 F1
      have G1 := yg1 J1
      have sz := ry_size J1.1 G1.2.1
      refine ⟨yg0 J1, g 1, G1.1, G1.2.1, G1.2.1, fun _ => kk τ J1 F1, fun q => ⟨yg0 J1, g 1, G1.1, G1.2.1, ?_⟩⟩
      rw [ki_le] at q
      obtain ⟨r', er, ii⟩ := ki_incE (a := r) (by omega) (by omega)
      have a1 : 0 ≤ r'.toInt := by omega
      have a2 : r'.toInt ≤ 400 := by omega
      have a3 : 400 - r'.toInt < (m : Int) := by omega
      have hr : r.toInt < (xi τ 18 (g 1)).toInt := by omega
      refine ry_get J1.1 G1.2.1 h1 hr (fun R eR tR => ?_)
      rw [G1.2.2] at tR
      have N : ∀ τ2, yJ_ s g κ B n τ2 → fh_ g κ σ τ2 → wX11_jamCells_44 (wX11_jamCells_2 Q m) Q (g 0) r τ2 := fun τ2 J2 F2 w ew => by
        rw [ew, ← er]
        exact ih r' τ2 a1 a2 a3 J2 F2
      refine ⟨R, rfl, tR, fun _ => N τ J1 F1, fun _ => ?_⟩
      exact rx_jamFullCells J1 tR (fun τ2 J2 F2 => N τ2 J2 (fh_trans F1 F2))
  have fin := L 401 0 σ (by decide) (by decide) (by decide) J fh_refl
  exact ⟨401, fin⟩
theorem rx_freeJams {s : sz_T} {g κ : Nat → Nat} {B n : Nat} {σ : kx_S} {Q : kx_S → Prop} (J : yJ_ s g κ B n σ) (kk : ∀ τ, yJ_ s g κ B n τ → fh_ g κ σ τ → Q τ) : wX11_freeJams (g 0) σ Q := by
  have L : ∀ (m : Nat) (r : Int32) (τ : kx_S), 0 ≤ r.toInt → r.toInt ≤ 400 → 400 - r.toInt < (m : Int) → yJ_ s g κ B n τ → fh_ g κ σ τ → wX11_freeJams_2 Q m (g 0) r τ := by
    intro m
    induction m with
    | zero => intro r τ h1 h2 h3; omega
    | succ m ih =>
      intro r τ h1 h2 h3 J1 F1
      have G1 := yg4 J1
      have sz := ry_size J1.1 G1.2.1
      refine ⟨yg0 J1, g 4, G1.1, G1.2.1, G1.2.1, fun _ => kk τ J1 F1, fun q => ⟨yg0 J1, g 4, G1.1, G1.2.1, ?_⟩⟩
      rw [ki_le] at q
      obtain ⟨r', er, ii⟩ := ki_incE (a := r) (by omega) (by omega)
      have a1 : 0 ≤ r'.toInt := by omega
      have a2 : r'.toInt ≤ 400 := by omega
      have a3 : 400 - r'.toInt < (m : Int) := by omega
      have hr : r.toInt < (xi τ 18 (g 4)).toInt := by omega
      refine ry_get J1.1 G1.2.1 h1 hr (fun R eR tR => ?_)
      rw [G1.2.2] at tR
      have N : ∀ τ2, yJ_ s g κ B n τ2 → fh_ g κ σ τ2 → wX11_freeJams_58 (wX11_freeJams_2 Q m) Q (g 0) r τ2 := fun τ2 J2 F2 w ew => by
        rw [ew, ← er]
        exact ih r' τ2 a1 a2 a3 J2 F2
      obtain ⟨h, h4, h5⟩ := yp4 J1 tR
      refine ⟨R, rfl, tR, yg0 J1, fun _ => N τ J1 F1, fun _ => ⟨h, h4, h5, ?_⟩⟩
      refine rx_freesLowestJam J1 h5 (fun v τ2 J2 F2 => ⟨fun _ => N τ2 J2 (fh_trans F1 F2), fun _ => ⟨yg0 J2, fg_tag F2.1 tR (by decide), fg_tag F2.1 tR (by decide), fun τ3 e3 => ?_⟩⟩)
      rw [e3]
      exact N _ (yI_si (by decide) J2) (fh_trans (fh_trans F1 F2) (fh_si (by decide)))
  have fin := L 401 0 σ (by decide) (by decide) (by decide) J fh_refl
  exact ⟨401, fin⟩
theorem rx_makeJamsKnown {s : sz_T} {g κ : Nat → Nat} {B n : Nat} {σ : kx_S} {Q : kx_S → Prop} (J : yJ_ s g κ B n σ) (kk : ∀ τ, yJ_ s g κ B n τ → fh_ g κ σ τ → Q τ) : wX11_makeJamsKnown (g 0) σ Q := by
  have L58 : ∀ (m : Nat) (r : Int32) (τ : kx_S), 0 ≤ r.toInt → r.toInt ≤ 400 → 400 - r.toInt < (m : Int) → yJ_ s g κ B n τ → fh_ g κ σ τ → wX11_makeJamsKnown_58 Q m (g 0) r τ := by
    intro m
    induction m with
    | zero => intro r τ h1 h2 h3; omega
    | succ m ih =>
      intro r τ h1 h2 h3 J1 F1
      have G1 := yg4 J1
      have sz := ry_size J1.1 G1.2.1
      refine ⟨yg0 J1, g 4, G1.1, G1.2.1, G1.2.1, fun _ => kk τ J1 F1, fun q => ⟨yg0 J1, g 4, G1.1, G1.2.1, ?_⟩⟩
      rw [ki_le] at q
      obtain ⟨r', er, ii⟩ := ki_incE (a := r) (by omega) (by omega)
      have a1 : 0 ≤ r'.toInt := by omega
      have a2 : r'.toInt ≤ 400 := by omega
      have a3 : 400 - r'.toInt < (m : Int) := by omega
      have hr : r.toInt < (xi τ 18 (g 4)).toInt := by omega
      refine ry_get J1.1 G1.2.1 h1 hr (fun R eR tR => ?_)
      rw [G1.2.2] at tR
      obtain ⟨h, h4, h5⟩ := yp4 J1 tR
      refine ⟨R, rfl, tR, h, h4, h5, ?_⟩
      refine rx_reachKnown J1 h5 (fun τ2 J2 F2 w ew => ?_)
      rw [ew, ← er]
      exact ih r' τ2 a1 a2 a3 J2 (fh_trans F1 F2)
  have D : ∀ τ, yJ_ s g κ B n τ → fh_ g κ σ τ → wX11_makeJamsKnown_56 Q (g 0) τ := fun τ J1 F1 => ⟨401, L58 401 0 τ (by decide) (by decide) (by decide) J1 F1⟩
  have L : ∀ (m : Nat) (r : Int32) (τ : kx_S), 0 ≤ r.toInt → r.toInt ≤ 400 → 400 - r.toInt < (m : Int) → yJ_ s g κ B n τ → fh_ g κ σ τ → wX11_makeJamsKnown_2 (wX11_makeJamsKnown_56 Q) Q m (g 0) r τ := by
    intro m
    induction m with
    | zero => intro r τ h1 h2 h3; omega
    | succ m ih =>
      intro r τ h1 h2 h3 J1 F1
      have G1 := yg1 J1
      have sz := ry_size J1.1 G1.2.1
      refine ⟨yg0 J1, g 1, G1.1, G1.2.1, G1.2.1, fun _ => D τ J1 F1, fun q => ⟨yg0 J1, g 1, G1.1, G1.2.1, ?_⟩⟩
      rw [ki_le] at q
      obtain ⟨r', er, ii⟩ := ki_incE (a := r) (by omega) (by omega)
      have a1 : 0 ≤ r'.toInt := by omega
      have a2 : r'.toInt ≤ 400 := by omega
      have a3 : 400 - r'.toInt < (m : Int) := by omega
      have hr : r.toInt < (xi τ 18 (g 1)).toInt := by omega
      refine ry_get J1.1 G1.2.1 h1 hr (fun R eR tR => ?_)
      rw [G1.2.2] at tR
      have N : ∀ τ2, yJ_ s g κ B n τ2 → fh_ g κ σ τ2 → wX11_makeJamsKnown_50 (wX11_makeJamsKnown_2 (wX11_makeJamsKnown_56 Q) Q m) Q (g 0) r τ2 := fun τ2 J2 F2 w ew => by
        rw [ew, ← er]
        exact ih r' τ2 a1 a2 a3 J2 F2
      refine ⟨R, rfl, tR, fun _ => N τ J1 F1, fun _ => ⟨yg0 J1, g 1, G1.1, G1.2.1, ?_⟩⟩
      refine ry_get J1.1 G1.2.1 h1 hr (fun R2 _ tR2 => ?_)
      rw [G1.2.2] at tR2
      refine ⟨R2, rfl, tR2, ?_⟩
      exact rx_reachKnown J1 tR2 (fun τ2 J2 F2 => N τ2 J2 (fh_trans F1 F2))
  have fin := L 401 0 σ (by decide) (by decide) (by decide) J fh_refl
  exact ⟨401, fin⟩
theorem rx_cellAge {s : sz_T} {g κ : Nat → Nat} {B n : Nat} {σ : kx_S} {C : Nat} {Q : kx_S → Prop} (J : yJ_ s g κ B n σ) (hC : xt σ C = 3) (kk : ∀ τ, yJ_ s g κ B n τ → fh_ g κ σ τ → Q τ) : wX1_ageLogs C σ Q := by
  obtain ⟨y, y1, y2, y3, y4⟩ := yp3 J hC
  have sz := ry_size J.1 y2
  have L : ∀ (m : Nat) (c : Int32) (τ : kx_S), -1 ≤ c.toInt → c.toInt < (xi τ 18 y).toInt → c.toInt + 1 < (m : Int) → yJ_ s g κ B n τ → fh_ g κ σ τ → wX1_ageLogs_12 Q m C c τ := by
    intro m
    induction m with
    | zero => intro c τ h1 h2 h3; omega
    | succ m ih =>
      intro c τ h1 h2 h3 J1 F1
      have tC := fg_tag F1.1 hC (by decide)
      have e1 : xr τ 49 C = some y := fg_ref F1.1 hC (by decide) (by decide) y1
      have t1 : xt τ y = 1 := fg_tag F1.1 y2 (by decide)
      refine ⟨fun _ => kk τ J1 F1, fun q => ⟨tC, y, e1, t1, ?_⟩⟩
      rw [ki_lt, ki_z0] at q
      obtain ⟨c', ec, dd⟩ := ki_decE (a := c) (by omega)
      have szy := ry_size J1.1 t1
      obtain ⟨z, ez⟩ : ∃ z, z = xi τ 18 y := ⟨_, rfl⟩
      rw [← ez] at h2 szy
      have a1 : -1 ≤ c'.toInt := by omega
      have a2 : c'.toInt < z.toInt := by omega
      have a3 : c'.toInt + 1 < (m : Int) := by omega
      obtain ⟨z', ez', dz⟩ := ki_dec2E (a := z) (by omega)
      have a4 : c'.toInt < z'.toInt := by omega
      have a5 : 0 ≤ c.toInt := by omega
      refine ry_get J1.1 t1 a5 (by rw [← ez]; exact h2) (fun a _ ta => ?_)
      rw [y3] at ta
      refine ⟨a, rfl, ta, fun τ2 e2 => ?_⟩
      have J2 : yJ_ s g κ B n τ2 := by rw [e2]; exact yI_si (by decide) J1
      have F2 : fh_ g κ σ τ2 := by rw [e2]; exact fh_trans F1 (fh_si (by decide))
      have z2 : xi τ2 18 y = z := by rw [e2]; exact ez.symm
      clear e2
      refine ⟨fun _ w ew => ?_, fun _ τ3 e3 => ?_⟩
      · rw [ew, ← ec]
        exact ih c' τ2 a1 (by rw [z2]; exact a2) a3 J2 F2
      · have J3 : yJ_ s g κ B n τ3 := by rw [e3]; exact yI_si (by decide) J2
        have F3 : fh_ g κ σ τ3 := by rw [e3]; exact fh_trans F2 (fh_si (by decide))
        have z3 : xi τ3 18 y = z := by rw [e3]; exact z2
        clear e3
        refine ⟨fg_tag F3.1 hC (by decide), y, fg_ref F3.1 hC (by decide) (by decide) y1, fg_tag F3.1 y2 (by decide), ?_⟩
        refine ry_removelog J3 (fg_tag F3.1 y2 (by decide)) y3 y4 a5 (by rw [z3]; exact h2) (fun q3 τ4 J4 F4 s4 _ _ w ew => ?_)
        rw [ew, ← ec]
        exact ih c' τ4 a1 (by rw [s4, z3, ← ez']; exact a4) a3 J4 (fh_trans F3 F4)
  obtain ⟨u, eu, dd⟩ := ki_dec2E (a := xi σ 18 y) (by omega)
  have b1 : -1 ≤ u.toInt := by omega
  have b2 : u.toInt < (xi σ 18 y).toInt := by omega
  have b3 : u.toInt + 1 < ((402 : Nat) : Int) := by omega
  have fin := L 402 u σ b1 b2 b3 J fh_refl
  refine ⟨hC, y, y1, y2, y2, fun v ev => ⟨402, ?_⟩⟩
  rw [ev, ← eu]
  exact fin
theorem rx_ageLogs {s : sz_T} {g κ : Nat → Nat} {B n : Nat} {σ : kx_S} {Q : kx_S → Prop} (J : yJ_ s g κ B n σ) (kk : ∀ τ, yJ_ s g κ B n τ → fh_ g κ σ τ → Q τ) : wX11_ageLogs (g 0) σ Q := by
  have L : ∀ (m : Nat) (r : Int32) (τ : kx_S), 0 ≤ r.toInt → r.toInt ≤ 400 → 400 - r.toInt < (m : Int) → yJ_ s g κ B n τ → fh_ g κ σ τ → wX11_ageLogs_2 Q m (g 0) r τ := by
    intro m
    induction m with
    | zero => intro r τ h1 h2 h3; omega
    | succ m ih =>
      intro r τ h1 h2 h3 J1 F1
      have G1 := yg1 J1
      have sz := ry_size J1.1 G1.2.1
      refine ⟨yg0 J1, g 1, G1.1, G1.2.1, G1.2.1, fun _ => kk τ J1 F1, fun q => ⟨yg0 J1, g 1, G1.1, G1.2.1, ?_⟩⟩
      rw [ki_le] at q
      obtain ⟨r', er, ii⟩ := ki_incE (a := r) (by omega) (by omega)
      have a1 : 0 ≤ r'.toInt := by omega
      have a2 : r'.toInt ≤ 400 := by omega
      have a3 : 400 - r'.toInt < (m : Int) := by omega
      have hr : r.toInt < (xi τ 18 (g 1)).toInt := by omega
      refine ry_get J1.1 G1.2.1 h1 hr (fun R eR tR => ?_)
      rw [G1.2.2] at tR
      have N : ∀ τ2, yJ_ s g κ B n τ2 → fh_ g κ σ τ2 → wX11_ageLogs_66 (wX11_ageLogs_2 Q m) Q (g 0) r τ2 := fun τ2 J2 F2 w ew => by
        rw [ew, ← er]
        exact ih r' τ2 a1 a2 a3 J2 F2
      refine ⟨R, rfl, tR, ?_⟩
      have L31 : ∀ (k : Nat) (c : Int32) (τ2 : kx_S), 0 ≤ c.toInt → c.toInt ≤ 400 → 400 - c.toInt < (k : Int) → yJ_ s g κ B n τ2 → fh_ g κ τ τ2 → wX11_ageLogs_31 (wX11_ageLogs_66 (wX11_ageLogs_2 Q m) Q) Q k (g 0) r R c τ2 := by
        intro k
        induction k with
        | zero => intro c τ2 g1 g2 g3; omega
        | succ k ihk =>
          intro c τ2 g1 g2 g3 J2 F2
          have tR2 := fg_tag F2.1 tR (by decide)
          obtain ⟨_, ⟨l, l1, l2, l3⟩, _⟩ := yp10 J2 tR2
          have szl := ry_size J2.1 l2
          refine ⟨tR2, l, l1, l2, l2, fun _ => N τ2 J2 (fh_trans F1 F2), fun p => ⟨tR2, l, l1, l2, ?_⟩⟩
          rw [ki_le] at p
          obtain ⟨c', ec, jj⟩ := ki_incE (a := c) (by omega) (by omega)
          have b1 : 0 ≤ c'.toInt := by omega
          have b2 : c'.toInt ≤ 400 := by omega
          have b3 : 400 - c'.toInt < (k : Int) := by omega
          refine ry_get J2.1 l2 g1 (by omega) (fun C _ tC => ?_)
          rw [l3] at tC
          refine ⟨C, rfl, tC, ?_⟩
          refine rx_cellAge J2 tC (fun τ3 J3 F3 w ew => ?_)
          rw [ew, ← ec]
          exact ihk c' τ3 b1 b2 b3 J3 (fh_trans F2 F3)
      have f31 := L31 401 0 τ (by decide) (by decide) (by decide) J1 fh_refl
      exact ⟨401, f31⟩
  have fin := L 401 0 σ (by decide) (by decide) (by decide) J fh_refl
  exact ⟨401, fin⟩
theorem rx_takeFirst {s : sz_T} {g κ : Nat → Nat} {B n : Nat} {σ : kx_S} {b o : Nat} {Q : Option Nat → kx_S → Prop} (J : yJ_ s g κ B n σ) (hb : xt σ b = 2) (ho : xt σ o = 9) (k0 : Q none σ) (kk : ∀ y τ, xt τ y = 8 → yJ_ s g κ B n τ → fh_ g κ σ τ → Q (some y) τ) : wX0_takeFirstFor b o σ Q := by
  obtain ⟨⟨h, h1, h2, h3, h4⟩, _⟩ := yp2 J hb
  have sz := ry_size J.1 h2
  have L : ∀ (m : Nat) (i : Int32), 0 ≤ i.toInt → i.toInt ≤ 400 → 400 - i.toInt < (m : Int) → wX0_takeFirstFor_2 (wX0_takeFirstFor_51 Q) Q m b o i σ := by
    intro m
    induction m with
    | zero => intro i h1 h2 h3; omega
    | succ m ih =>
      intro i g1 g2 g3
      refine ⟨hb, h, h1, h2, h2, fun _ => k0, fun q => ⟨hb, h, h1, h2, ?_⟩⟩
      rw [ki_le] at q
      obtain ⟨i', ei, ii⟩ := ki_incE (a := i) (by omega) (by omega)
      have a1 : 0 ≤ i'.toInt := by omega
      have a2 : i'.toInt ≤ 400 := by omega
      have a3 : 400 - i'.toInt < (m : Int) := by omega
      have a4 : i.toInt < (xi σ 18 h).toInt := by omega
      have N : wX0_takeFirstFor_64 (wX0_takeFirstFor_2 (wX0_takeFirstFor_51 Q) Q m) Q b o i σ := fun w ew => by
        rw [ew, ← ei]
        exact ih i' a1 a2 a3
      refine ry_get J.1 h2 g1 a4 (fun y _ ty => ?_)
      rw [h3] at ty
      refine ⟨y, rfl, ty, ho, fun _ => N, fun _ => ⟨fun _ => N, fun _ => ⟨hb, h, h1, h2, ?_⟩⟩⟩
      exact ry_removelog J h2 h3 h4 g1 a4 (fun q3 τ J2 F2 _ t2 _ => kk y τ (by rw [t2]; exact ty) J2 F2)
  have fin := L 401 0 (by decide) (by decide) (by decide)
  exact ⟨401, fin⟩
theorem rx_sawFor {s : sz_T} {g κ : Nat → Nat} {B n : Nat} {σ : kx_S} {b o : Nat} {mo : Int32} {Q : Int32 → kx_S → Prop} (J : yJ_ s g κ B n σ) (hb : xt σ b = 2) (ho : xt σ o = 9) (hm : mo.toInt ≤ 3) (kk : ∀ r τ, 0 ≤ r.toInt → r.toInt ≤ 3 → yJ_ s g κ B n τ → fh_ g κ σ τ → Q r τ) (h0 : 0 ≤ mo.toInt) : wX11_sawFor (g 0) o b mo σ Q := by
  have L : ∀ (m : Nat) (i : Int32) (τ : kx_S), 0 ≤ i.toInt → i.toInt ≤ 3 → 3 - i.toInt < (m : Int) → yJ_ s g κ B n τ → fh_ g κ σ τ → wX11_sawFor_3 Q m (g 0) o b mo i τ := by
    intro m
    induction m with
    | zero => intro i τ h1 h2 h3; omega
    | succ m ih =>
      intro i τ g1 g2 g3 J1 F1
      have tb := fg_tag F1.1 hb (by decide)
      have to := fg_tag F1.1 ho (by decide)
      have Z : ∀ τ2, yJ_ s g κ B n τ2 → fh_ g κ σ τ2 → wX11_sawFor_25 (wX11_sawFor_3 Q m) Q (g 0) o b mo i none τ2 := fun τ2 J2 F2 => ⟨fun a e => (by cases e), fun _ => kk i τ2 g1 g2 J2 F2⟩
      refine ⟨fun _ => kk mo τ h0 hm J1 F1, fun q => ⟨to, fun _ => Z τ J1 F1, fun _ => ⟨tb, ?_⟩⟩⟩
      rw [ki_le] at q
      obtain ⟨i', ei, ii⟩ := ki_incE (a := i) (by omega) (by omega)
      have a1 : 0 ≤ i'.toInt := by omega
      have a2 : i'.toInt ≤ 3 := by omega
      have a3 : 3 - i'.toInt < (m : Int) := by omega
      refine rx_takeFirst J1 tb to (Z τ J1 F1) (fun y τ2 ty J2 F2 => ⟨fun a ea => ?_, fun e => by cases e⟩)
      have e := Option.some.inj ea
      subst e
      have F12 := fh_trans F1 F2
      refine ⟨yg0 J2, ty, ty, fun τ3 e3 τ4 e4 => ?_⟩
      have J4 : yJ_ s g κ B n τ4 := by rw [e4, e3]; exact yI_si (by decide) (yI_si (by decide) J2)
      have F4 : fh_ g κ τ2 τ4 := by rw [e4, e3]; exact fh_trans (fh_si (by decide)) (fh_si (by decide))
      clear e3 e4
      refine ⟨yg0 J4, fg_tag F4.1 ty (by decide), fun τ5 e5 => ?_⟩
      have J5 : yJ_ s g κ B n τ5 := by rw [e5]; exact yI_si (by decide) J4
      have F5 : fh_ g κ σ τ5 := by rw [e5]; exact fh_trans (fh_trans F12 F4) (fh_si (by decide))
      clear e5
      refine ⟨fg_tag F5.1 ho (by decide), fun τ6 e6 w ew => ?_⟩
      rw [ew, ← ei, e6]
      exact ih i' _ a1 a2 a3 (yI_si (by decide) J5) (fh_trans F5 (fh_si (by decide)))
  have fin := L 4 0 σ (by decide) (by decide) (by decide) J fh_refl
  exact ⟨4, fin⟩
theorem rx_runMills {s : sz_T} {g κ : Nat → Nat} {B n : Nat} {σ : kx_S} {Q : kx_S → Prop} (J : yJ_ s g κ B n σ) (kk : ∀ τ, yJ_ s g κ B n τ → fh_ g κ σ τ → Q τ) : wX11_runMills (g 0) σ Q := by
  have L : ∀ (m : Nat) (r : Int32) (τ : kx_S), 0 ≤ r.toInt → r.toInt ≤ 400 → 400 - r.toInt < (m : Int) → yJ_ s g κ B n τ → fh_ g κ σ τ → wX11_runMills_2 Q m (g 0) r τ := by
    intro m
    induction m with
    | zero => intro r τ h1 h2 h3; omega
    | succ m ih =>
      intro r τ h1 h2 h3 J1 F1
      have G1 := yg1 J1
      have sz := ry_size J1.1 G1.2.1
      refine ⟨yg0 J1, g 1, G1.1, G1.2.1, G1.2.1, fun _ => kk τ J1 F1, fun q => ⟨yg0 J1, g 1, G1.1, G1.2.1, ?_⟩⟩
      rw [ki_le] at q
      obtain ⟨r', er, ii⟩ := ki_incE (a := r) (by omega) (by omega)
      have a1 : 0 ≤ r'.toInt := by omega
      have a2 : r'.toInt ≤ 400 := by omega
      have a3 : 400 - r'.toInt < (m : Int) := by omega
      have hr : r.toInt < (xi τ 18 (g 1)).toInt := by omega
      refine ry_get J1.1 G1.2.1 h1 hr (fun R eR tR => ?_)
      rw [G1.2.2] at tR
      have N : ∀ τ2, yJ_ s g κ B n τ2 → fh_ g κ σ τ2 → wX11_runMills_91 (wX11_runMills_2 Q m) Q (g 0) r τ2 := fun τ2 J2 F2 w ew => by
        rw [ew, ← er]
        exact ih r' τ2 a1 a2 a3 J2 F2
      refine ⟨R, rfl, tR, fun q46 e46 => ⟨fun b eb => ?_, fun _ => N τ J1 F1⟩⟩
      have tb : xt τ b = 2 := by
        rcases (yp10 J1 tR).2.2 with h | ⟨h, h1, h2⟩
        · rw [← e46, eb] at h; cases h
        · rw [← e46, eb] at h1; rw [Option.some.inj h1]; exact h2
      have L44 : ∀ (k : Nat) (left c : Int32) (τ2 : kx_S), left.toInt ≤ 3 → 0 ≤ c.toInt → c.toInt ≤ 400 → 400 - c.toInt < (k : Int) → yJ_ s g κ B n τ2 → fh_ g κ τ τ2 → wX11_runMills_44 (wX11_runMills_91 (wX11_runMills_2 Q m) Q) Q k (g 0) r (some b) left c τ2 := by
        intro k
        induction k with
        | zero => intro left c τ2 g0 g1 g2 g3; omega
        | succ k ihk =>
          intro left c τ2 g0 g1 g2 g3 J2 F2
          have tb2 := fg_tag F2.1 tb (by decide)
          obtain ⟨_, o, o1, o2, o3, o4⟩ := yp2 J2 tb2
          have szl := ry_size J2.1 o2
          have N2 := N τ2 J2 (fh_trans F1 F2)
          refine ⟨b, rfl, tb2, o, o1, o2, o2, fun _ => N2, fun p => ⟨fun _ => N2, fun pl => ⟨b, rfl, tb2, o, o1, o2, ?_⟩⟩⟩
          rw [ki_le] at p
          rw [ki_le, ki_z0] at pl
          obtain ⟨c', ec, jj⟩ := ki_incE (a := c) (by omega) (by omega)
          have b1 : 0 ≤ c'.toInt := by omega
          have b2 : c'.toInt ≤ 400 := by omega
          have b3 : 400 - c'.toInt < (k : Int) := by omega
          have b4 : 0 ≤ left.toInt := by omega
          refine ry_get J2.1 o2 g1 (by omega) (fun O _ tO => ?_)
          rw [o3] at tO
          refine ⟨O, rfl, tO, b, rfl, yg0 J2, ?_⟩
          refine rx_sawFor J2 tb2 tO g0 (fun v τ3 v1 v2 J3 F3 w ew x ex => ?_) b4
          have hw : w.toInt ≤ 3 := by
            rw [ew, ki_sub (by omega) (by omega)]
            omega
          rw [ex, ← ec]
          exact ihk w c' τ3 hw b1 b2 b3 J3 (fh_trans F2 F3)
      have f44 := L44 401 3 0 τ (by decide) (by decide) (by decide) (by decide) J1 fh_refl
      exact ⟨401, f44⟩
  have fin := L 401 0 σ (by decide) (by decide) (by decide) J fh_refl
  exact ⟨401, fin⟩
