/-! water, cells, moves -/
theorem rx_passWater {s : sz_T} {g κ : Nat → Nat} {B n : Nat} {σ : kx_S} {R : Nat} {Q : kx_S → Prop} (J : yJ_ s g κ B n σ) (hR : xt σ R = 10) (kk : ∀ τ, yK_ s g κ B n σ τ → Q τ) : wX8_passWater R σ Q := by
  have K := yK_refl J
  refine ⟨hR, fun _ τ3 e3 v5 _ v6 _ τ7 e7 τ9 e9 => ?_, fun _ τ e => ?_⟩
  · rw [e9, e7, e3]
    exact kk _ (yK_si (by decide) (yK_si (by decide) (yK_si (by decide) K)))
  · rw [e]
    exact kk _ (yK_si (by decide) K)
theorem rx_runWater {s : sz_T} {g κ : Nat → Nat} {B n : Nat} {σ : kx_S} {Q : kx_S → Prop} (J : yJ_ s g κ B n σ) (kk : ∀ τ, yK_ s g κ B n σ τ → Q τ) : wX11_runWater (g 0) σ Q := by
  have sz := ry_size J.1 (yg1 J).2.1
  have S1 : ∀ τ, yK_ s g κ B n σ τ → xi τ 18 (g 1) = xi σ 18 (g 1) := fun τ K => K.2.1.2 (g 1) (yg1 J).2.1 (.inl (by rw [(yg1 J).2.2]; decide))
  have L69 : ∀ (m : Nat) (r : Int32) (τ : kx_S), -1 ≤ r.toInt → r.toInt < (xi σ 18 (g 1)).toInt → r.toInt + 1 < (m : Int) → yK_ s g κ B n σ τ → wX11_runWater_69 Q m (g 0) r τ := by
    intro m
    induction m with
    | zero => intro r τ h1 h2 h3; omega
    | succ m ih =>
      intro r τ h1 h2 h3 K
      refine ⟨fun _ => kk τ K, fun c => ⟨yg0 K.1, g 1, (yg1 K.1).1, (yg1 K.1).2.1, ?_⟩⟩
      rw [ki_lt, ki_z0] at c
      have dd := ki_dec (a := r) (by omega)
      refine ry_get K.1.1 (yg1 K.1).2.1 (by omega) (by rw [S1 τ K]; omega) (fun R _ tR => ?_)
      rw [(yg1 K.1).2.2] at tR
      refine ⟨R, rfl, tR, rx_passWater K.1 tR (fun τ2 K2 => ?_)⟩
      have KK := yK_trans K K2
      have tR2 := yK_tag K2 tR (by decide)
      have N : ∀ τ3, yK_ s g κ B n σ τ3 → wX11_runWater_131 (wX11_runWater_69 Q m) Q (g 0) r τ3 := fun τ3 K3 w ew => by
        rw [ew]
        exact ih (r + -1) τ3 (by omega) (by omega) (by omega) K3
      refine ⟨tR2, fun b eb => ?_, fun _ => ⟨yg0 KK.1, fun τ3 e3 => ?_⟩⟩
      · have tb : xt τ2 b = 10 := by
          rcases (yp10 KK.1 tR2).1 with h | ⟨h, h1, h2⟩
          · rw [eb] at h; cases h
          · rw [eb] at h1; rw [Option.some.inj h1]; exact h2
        refine ⟨b, eb, tb, fun τ3 e3 => ?_⟩
        rw [e3]
        exact N _ (yK_si (by decide) KK)
      · rw [e3]
        exact N _ (yK_sl KK)
  have L2 : ∀ (m : Nat) (r : Int32) (τ : kx_S), 0 ≤ r.toInt → r.toInt ≤ 400 → 400 - r.toInt < (m : Int) → yK_ s g κ B n σ τ → wX11_runWater_2 (wX11_runWater_57 Q) Q m (g 0) r τ := by
    intro m
    induction m with
    | zero => intro r τ h1 h2 h3; omega
    | succ m ih =>
      intro r τ h1 h2 h3 K
      have e1 := S1 τ K
      refine ⟨yg0 K.1, g 1, (yg1 K.1).1, (yg1 K.1).2.1, (yg1 K.1).2.1, fun _ => ⟨yg0 K.1, g 1, (yg1 K.1).1, (yg1 K.1).2.1, (yg1 K.1).2.1, fun v ev => ⟨402, ?_⟩⟩, fun c => ⟨yg0 K.1, g 1, (yg1 K.1).1, (yg1 K.1).2.1, ?_⟩⟩
      · have dd := ki_dec2 (a := xi τ 18 (g 1)) (by rw [e1]; omega)
        rw [e1] at dd
        rw [ev, e1]
        exact L69 402 _ τ (by omega) (by omega) (by omega) K
      · rw [ki_le, e1] at c
        have ii := ki_inc (a := r) (by omega) (by omega)
        refine ry_get K.1.1 (yg1 K.1).2.1 (by omega) (by rw [e1]; omega) (fun R _ tR => ?_)
        rw [(yg1 K.1).2.2] at tR
        refine ⟨R, rfl, tR, fun τ2 e2 => ?_⟩
        have K2 : yK_ s g κ B n σ τ2 := by rw [e2]; exact yK_si (by decide) K
        refine ⟨yg0 K2.1, fun τ3 e3 w ew => ?_⟩
        rw [e3, ew]
        exact ih (r + 1) _ (by omega) (by omega) (by omega) (yK_sl K2)
  exact ⟨401, L2 401 0 σ (by decide) (by decide) (by decide) (yK_refl J)⟩
theorem rx_canTake {s : sz_T} {g κ : Nat → Nat} {B n : Nat} {σ : kx_S} {R : Nat} {c : Int32} {Q : Int32 → kx_S → Prop} (J : yJ_ s g κ B n σ) (hR : xt σ R = 10) (k0 : Q 0 σ)
    (k1 : ∀ l C y, 0 ≤ c.toInt → xr σ 163 R = some l → xt σ l = 1 → κ l = 3 → c.toInt < (xi σ 18 l).toInt → xe σ l c.toNatClampNeg = some C → xt σ C = 3 → xr σ 49 C = some y → xt σ y = 1 → κ y = 8 → y ≠ g 2 → (xi σ 18 y).toInt < 20 → Q 1 σ) : wX8_canTake R c σ Q := by
  obtain ⟨_, ⟨l, l1, l2, l3⟩, _⟩ := yp10 J hR
  refine ⟨fun _ => k0, fun c0 => ⟨hR, l, l1, l2, l2, fun c1 => ⟨hR, l, l1, l2, ?_⟩, fun _ => k0⟩⟩
  rw [ki_lt, ki_z0] at c0
  rw [ki_lt] at c1
  refine ry_get J.1 l2 (by omega) c1 (fun C eC tC => ?_)
  rw [l3] at tC
  obtain ⟨y, y1, y2, y3, y4⟩ := yp3 J tC
  have cr := (J.2.2.2.1 C).2.1 tC
  refine ⟨C, rfl, tC, fun _ => k0, fun _ => ⟨y, y1, y2, y2, tC, fun _ => k0, fun d => ?_⟩⟩
  rw [ki_le] at d
  exact k1 l C y (by omega) l1 l2 l3 c1 eC tC y1 y2 y3 y4 (by omega)
theorem rx_takes {s : sz_T} {g κ : Nat → Nat} {B n : Nat} {σ : kx_S} {R y : Nat} {c : Int32} {Q : Int32 → kx_S → Prop} (J : yJ_ s g κ B n σ) (hB : B ≤ 3000) (hn : n ≤ 200) (hR : xt σ R = 10) (hy : xt σ y = 8) (kk : ∀ r τ, (r = 0 ∨ r = 1) → yK_ s g κ B n σ τ → Q r τ) : wX8_takes R y c σ Q := by
  refine ⟨hR, rx_canTake J hR ⟨fun x => absurd rfl x, fun _ => kk 0 σ (.inl rfl) (yK_refl J)⟩ (fun l C z h0 l1 l2 l3 hc eC tC z1 z2 z3 z4 zs => ⟨fun _ => ⟨hR, l, l1, l2, ?_⟩, fun x => absurd x (by decide)⟩)⟩
  refine ry_get J.1 l2 h0 hc (fun C' eC' tC' => ?_)
  rw [eC] at eC'
  have e := Option.some.inj eC'
  subst e
  refine ⟨C, rfl, tC, z, z1, z2, ry_addlog J hB hn z2 z3 z4 hy (by omega) (fun τ J' F' M' => ?_)⟩
  have K : yK_ s g κ B n σ τ := ⟨J', F', M'⟩
  refine ⟨yK_tag K hR (by decide), yK_tag K hy (by decide), yK_tag K hy (by decide), fun τ2 e2 τ4 e4 τ6 e6 => ?_⟩
  rw [e6, e4, e2]
  exact kk 1 _ (.inr rfl) (yK_si (by decide) (yK_si (by decide) (yK_si (by decide) K)))
theorem rx_leaves {s : sz_T} {g κ : Nat → Nat} {B n : Nat} {σ : kx_S} {R y : Nat} {Q : Int32 → kx_S → Prop} (J : yJ_ s g κ B n σ) (hB : B ≤ 3000) (hn : n ≤ 200) (hR : xt σ R = 10) (hy : xt σ y = 8) (kk : ∀ r τ, yK_ s g κ B n σ τ → Q r τ) : wX11_leaves (g 0) y R σ Q := by
  have P := yp10 J hR
  have N122 : wX11_leaves_122 Q y R σ := by
    refine ⟨hR, fun a ea => ?_, fun _ => ⟨hy, hy, fun τ2 e2 τ4 e4 τ6 e6 => ?_⟩⟩
    · have tb : xt σ a = 10 := by
        rcases P.1 with h | ⟨h, h1, h2⟩
        · rw [ea] at h; cases h
        · rw [ea] at h1; rw [Option.some.inj h1]; exact h2
      refine ⟨a, ea, tb, rx_takes J hB hn tb hy (fun r τ hr K => ⟨?_, kk r τ K⟩)⟩
      rcases hr with e | e <;> rw [e] <;> rfl
    · rw [e6, e4, e2]
      exact kk 1 _ (yK_si (by decide) (yK_si (by decide) (yK_si (by decide) (yK_refl J))))
  have N104 : wX11_leaves_104 Q y R σ := ⟨hR, fun _ => N122, fun _ => ⟨fun _ => N122, fun _ => kk 0 σ (yK_refl J)⟩⟩
  refine ⟨hR, fun _ => N104, fun a ea => ?_⟩
  have ta : xt σ a = 2 := by
    rcases P.2.2 with h | ⟨h, h1, h2⟩
    · rw [ea] at h; cases h
    · rw [ea] at h1; rw [Option.some.inj h1]; exact h2
  obtain ⟨⟨h, h1, h2, h3, h4⟩, _⟩ := yp2 J ta
  have room := (J.2.2.2.1 a).1 ta
  have ne : ∀ {τ : kx_S} {b : Nat}, fg_ σ τ → xr τ 172 R = some b → b = a := fun {τ b} F e => by
    have := F.2.1 172 R (by decide) (by rw [hR]; decide)
    rw [this, ea] at e
    exact (Option.some.inj e).symm
  refine ⟨a, ea, hy, ta, ta, fun _ => ⟨fun _ => N104, fun x => absurd rfl x⟩, fun _ => ⟨fun x => absurd x (by decide), fun _ => ⟨hR, a, ea, ta, h, h1, h2, h2, hR, a, ea, ta, fun c => ⟨yg0 J, g 8, (yg8 J).1, ?_⟩, fun _ => kk 0 σ (yK_refl J)⟩⟩⟩
  rw [ki_lt] at c
  refine rx_lawInForce J (fun q hq => ⟨hR, yg0 J, (yg8 J).2, rx_weigh (yW_refl J) (yg8 J).2 hy hq (fun τ K _ => ?_)⟩)
  have ty := yW_tag K hy (by decide)
  have mk := (K.1.2.2.2.1 y).2.2.2.2.1 ty
  have v16 : vp_in (xi τ 129 y) (xn τ (g 9)) := by rw [(yg9 K.1).2.2, ki_in]; omega
  refine ⟨yg0 K.1, g 9, (yg9 K.1).1, ty, (yg9 K.1).2.1, v16, g 8, (yg8 K.1).1, (yg8 K.1).2, v16, fun τ2 e2 => ?_⟩
  have K2 : yW_ s g κ B n σ τ2 := by rw [e2]; exact yW_sal K
  clear e2
  refine ⟨yW_tag K2 hy (by decide), fun τ3 e3 τ4 e4 => ?_⟩
  have K4 : yW_ s g κ B n σ τ4 := by rw [e4, e3]; exact yW_si (by decide) (yW_si (by decide) K2)
  clear e3 e4
  have ea4 : xr τ4 172 R = some a := fg_ref K4.2.1.1 hR (by decide) (by decide) ea
  have eh4 : xr τ4 32 a = some h := fg_ref K4.2.1.1 ta (by decide) (by decide) h1
  refine ⟨yW_tag K4 hR (by decide), a, ea4, yW_tag K4 ta (by decide), h, eh4, yW_tag K4 h2 (by decide), ry_addlog K4.1 hB hn (yW_tag K4 h2 (by decide)) h3 h4 (yW_tag K4 hy (by decide)) (by rw [K4.2.2]; omega) (fun τ5 J5 F5 M5 => kk 1 τ5 (yK_trans (yK_of K4) ⟨J5, F5, M5⟩))⟩
