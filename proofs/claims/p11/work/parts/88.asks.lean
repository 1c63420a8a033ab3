section
theorem rx_dam {k : Nat} {s : sz_T} {L O : Nat} {σ : kx_S} {r v : Int32} (hk : k < 600) (Z : yZ_ k s L O σ) : wX11_dam L r v σ (qz_ k L O (z_dam r v s)) (qe_ k L O pz_N (z_dam r v s)) := by
  obtain ⟨g, κ, B, n, e, eO, J, hn, hB⟩ := Z
  subst e
  subst eO
  have b := yB_ J hk hn hB
  have hB' : B ≤ 15 + 26 * s.1.1.toNatClampNeg + 3 * (k + 1) := by omega
  refine ⟨yg0 J, ?_⟩
  refine rx_reachAt J (by omega) (by omega) (fun hz R eR tR => ?_) (fun hz => ?_)
  · unfold z_dam
    rw [if_pos hz]
    have hr : ((r.toNatClampNeg : Nat) : Int) < s.1.1.toInt := by rw [ki_nat]; have := hz.1; have := hz.2; omega
    have z0 : (100000 : Int32).toInt = 100000 := by decide
    refine rx_within (fun c => ⟨fun x => absurd rfl x, fun _ => ?_⟩) (fun c1 c2 => ⟨fun _ => ⟨tR, fun τ1 e1 τ2 e2 => ?_⟩, fun x => absurd x (by decide)⟩)
    · rw [ki_z0, z0] at c
      rw [if_pos (by rw [ki_lt, ki_le, ki_z0, z0]; omega)]
      exact ⟨rfl, rfl, yZ_of J hn hB'⟩
    · rw [ki_z0] at c1
      rw [z0] at c2
      rw [if_neg (by rw [ki_lt, ki_le, ki_z0, z0]; omega), e2, e1]
      exact ⟨rfl, rfl, yZ_of (yI_si (by decide) (yI_165 J hr eR)) hn hB'⟩
  · unfold z_dam
    rw [if_neg hz]
    exact ⟨rfl, rfl, yZ_bump J hn hB⟩
theorem rx_gate {k : Nat} {s : sz_T} {L O : Nat} {σ : kx_S} {r v : Int32} (hk : k < 600) (Z : yZ_ k s L O σ) : wX11_gate L r v σ (qz_ k L O (z_gate r v s)) (qe_ k L O pz_N (z_gate r v s)) := by
  obtain ⟨g, κ, B, n, e, eO, J, hn, hB⟩ := Z
  subst e
  subst eO
  have b := yB_ J hk hn hB
  have hB' : B ≤ 15 + 26 * s.1.1.toNatClampNeg + 3 * (k + 1) := by omega
  refine ⟨yg0 J, ?_⟩
  refine rx_reachAt J (by omega) (by omega) (fun hz R eR tR => ?_) (fun hz => ?_)
  · unfold z_gate
    rw [if_pos hz]
    have hr : ((r.toNatClampNeg : Nat) : Int) < s.1.1.toInt := by rw [ki_nat]; have := hz.1; have := hz.2; omega
    have z0 : (1000 : Int32).toInt = 1000 := by decide
    have o := yS_at J.2.2.2.2 hr eR
    refine ⟨tR, fun c => ?_, fun c => ?_⟩
    · rw [o.2.1] at c
      rw [if_pos (.inl c)]
      exact ⟨rfl, rfl, yZ_of J hn hB'⟩
    · rw [o.2.1] at c
      refine rx_within (fun d => ⟨fun x => absurd rfl x, fun _ => ?_⟩) (fun c1 c2 => ⟨fun _ => ⟨tR, fun w ew τ1 e1 => ?_⟩, fun x => absurd x (by decide)⟩)
      · rw [ki_z0, z0] at d
        rw [if_pos (.inr (by rw [ki_lt, ki_le, ki_z0, z0]; omega))]
        exact ⟨rfl, rfl, yZ_of J hn hB'⟩
      · rw [ki_z0] at c1
        rw [z0] at c2
        rw [if_neg (fun h => h.elim c (by rw [ki_lt, ki_le, ki_z0, z0]; omega)), e1, ew, o.2.2.1]
        exact ⟨rfl, rfl, yZ_of (yI_168 J hr eR) hn hB'⟩
  · unfold z_gate
    rw [if_neg hz]
    exact ⟨rfl, rfl, yZ_bump J hn hB⟩
theorem rx_melt {k : Nat} {s : sz_T} {L O : Nat} {σ : kx_S} {r v : Int32} (hk : k < 600) (Z : yZ_ k s L O σ) : wX11_melt L r v σ (qz_ k L O (z_melt r v s)) (qe_ k L O pz_N (z_melt r v s)) := by
  obtain ⟨g, κ, B, n, e, eO, J, hn, hB⟩ := Z
  subst e
  subst eO
  have b := yB_ J hk hn hB
  have hB' : B ≤ 15 + 26 * s.1.1.toNatClampNeg + 3 * (k + 1) := by omega
  refine ⟨yg0 J, ?_⟩
  refine rx_reachAt J (by omega) (by omega) (fun hz R eR tR => ?_) (fun hz => ?_)
  · unfold z_melt
    rw [if_pos hz]
    have hr : ((r.toNatClampNeg : Nat) : Int) < s.1.1.toInt := by rw [ki_nat]; have := hz.1; have := hz.2; omega
    have z0 : (500 : Int32).toInt = 500 := by decide
    have o := yS_at J.2.2.2.2 hr eR
    refine rx_within (fun d => ⟨fun x => absurd rfl x, fun _ => ?_⟩) (fun c1 c2 => ⟨fun _ => ⟨tR, fun w ew τ1 e1 => ?_⟩, fun x => absurd x (by decide)⟩)
    · rw [ki_z0, z0] at d
      rw [if_pos (by rw [ki_lt, ki_le, ki_z0, z0]; omega)]
      exact ⟨rfl, rfl, yZ_of J hn hB'⟩
    · rw [ki_z0] at c1
      rw [z0] at c2
      rw [if_neg (by rw [ki_lt, ki_le, ki_z0, z0]; omega), e1, ew, o.2.2.2.1]
      exact ⟨rfl, rfl, yZ_of (yI_164 J hr eR) hn hB'⟩
  · unfold z_melt
    rw [if_neg hz]
    exact ⟨rfl, rfl, yZ_bump J hn hB⟩
theorem rx_watch {k : Nat} {s : sz_T} {L O : Nat} {σ : kx_S} {r v : Int32} (hv : v = 0 ∨ v = 1) (hk : k < 600) (Z : yZ_ k s L O σ) : wX11_watch L r v σ (qz_ k L O (z_watch r v s)) (qe_ k L O pz_N (z_watch r v s)) := by
  obtain ⟨g, κ, B, n, e, eO, J, hn, hB⟩ := Z
  subst e
  subst eO
  have b := yB_ J hk hn hB
  have hB' : B ≤ 15 + 26 * s.1.1.toNatClampNeg + 3 * (k + 1) := by omega
  refine ⟨yg0 J, ?_⟩
  refine rx_reachAt J (by omega) (by omega) (fun hz R eR tR => ?_) (fun hz => ?_)
  · unfold z_watch
    rw [if_pos hz]
    have hr : ((r.toNatClampNeg : Nat) : Int) < s.1.1.toInt := by rw [ki_nat]; have := hz.1; have := hz.2; omega
    have o := yS_at J.2.2.2.2 hr eR
    have w01 := (J.2.2.2.1 R).2.2.2.2.2.1 tR
    have nb : ∀ x : Int32, (x = 0 ∨ x = 1) → narrow .boolean (.int x) = .int x ∧ fits .boolean (.int x) = true := fun x hx => by rcases hx with e | e <;> rw [e] <;> decide
    refine ⟨tR, fun w ew => ⟨nb v hv, fun τ1 e1 => ⟨(nb w (by rw [ew]; exact w01)).1, ?_⟩⟩⟩
    rw [e1, ew, o.2.2.2.2.1]
    exact ⟨rfl, rfl, yZ_of (yI_171 J hr eR hv) hn hB'⟩
  · unfold z_watch
    rw [if_neg hz]
    exact ⟨rfl, rfl, yZ_bump J hn hB⟩
abbrev qu_ (k L O : Nat) (s : sz_T) {α : Type} : α → kx_S → Prop := fun _ σ => yZ_ (k + 1) s L O σ
abbrev qf_ (k L O : Nat) (s : sz_T) : String → kx_S → Prop := fun e σ => e = pz_N ∧ yZ_ (k + 1) s L O σ
theorem rx_logAt {s : sz_T} {g κ : Nat → Nat} {B n : Nat} {σ : kx_S} {r : Int32} {Q : Nat → kx_S → Prop} {QX : String → kx_S → Prop} (J : yJ_ s g κ B n σ) (hB : B ≤ 3000) (hn : n ≤ 200) (k1 : ∀ y, xt σ y = 8 → Q y σ) (k0 : QX pz_N (xbump σ)) : wX11_logAt (g 0) r σ Q QX := by
  have G2 := yg2 J
  have sz := ry_size J.1 G2.2.1
  obtain ⟨u, eu, dd⟩ := ki_dec2E (a := xi σ 18 (g 2)) (by omega)
  refine ⟨yg0 J, g 2, G2.1, G2.2.1, G2.2.1, ?_⟩
  show wX11_isWithin _ _ (xi σ 18 (g 2) - 1) _ _
  rw [← eu]
  refine rx_within (fun _ => ⟨fun x => absurd rfl x, fun _ => ⟨ry_room J.1 hB hn, k0⟩⟩) (fun c1 c2 => ⟨fun _ => ⟨yg0 J, g 2, G2.1, G2.2.1, ?_⟩, fun x => absurd x (by decide)⟩)
  rw [ki_z0] at c1
  refine ry_get J.1 G2.2.1 c1 (by omega) (fun y _ ty => ?_)
  rw [G2.2.2] at ty
  exact ⟨y, rfl, ty, k1 y ty⟩
theorem rx_checkCell {s : sz_T} {g κ : Nat → Nat} {B n : Nat} {σ : kx_S} {R : Nat} {c : Int32} {Q : kx_S → Prop} {QX : String → kx_S → Prop} (J : yJ_ s g κ B n σ) (hB : B ≤ 3000) (hn : n ≤ 200) (hR : xt σ R = 10) (k1 : ∀ l, xr σ 163 R = some l → xt σ l = 1 → κ l = 3 → 0 ≤ c.toInt → c.toInt < (xi σ 18 l).toInt → Q σ) (k0 : QX pz_N (xbump σ)) : wX11_checkCell R c σ Q QX := by
  obtain ⟨_, ⟨l, l1, l2, l3⟩, _⟩ := yp10 J hR
  have sz := ry_size J.1 l2
  obtain ⟨u, eu, dd⟩ := ki_dec2E (a := xi σ 18 l) (by omega)
  refine ⟨hR, l, l1, l2, l2, ?_⟩
  show wX11_isWithin _ _ (xi σ 18 l - 1) _ _
  rw [← eu]
  refine rx_within (fun _ => ⟨fun x => absurd rfl x, fun _ => ⟨ry_room J.1 hB hn, k0⟩⟩) (fun c1 c2 => ⟨fun _ => ?_, fun x => absurd x (by decide)⟩)
  rw [ki_z0] at c1
  exact k1 l l1 l2 l3 c1 (by omega)
theorem rx_numberAt {s : sz_T} {g κ : Nat → Nat} {B n : Nat} {σ : kx_S} {l : Nat} {i : Int32} {Q : Int32 → kx_S → Prop} (J : yJ_ s g κ B n σ) (hl : xt σ l = 1) (k8 : κ l = 8) (kk : ∀ r, Q r σ) : wX11_numberAt l i σ Q := by
  have sz := ry_size J.1 hl
  obtain ⟨u, eu, dd⟩ := ki_dec2E (a := xi σ 18 l) (by omega)
  refine ⟨hl, hl, ?_⟩
  show wX11_isWithin _ _ (xi σ 18 l - 1) _ _
  rw [← eu]
  refine rx_within (fun _ => ⟨fun _ => kk _, fun x => absurd rfl x⟩) (fun c1 c2 => ⟨fun x => absurd x (by decide), fun _ => ⟨hl, ?_⟩⟩)
  rw [ki_z0] at c1
  refine ry_get J.1 hl c1 (by omega) (fun y _ ty => ?_)
  rw [k8] at ty
  exact ⟨y, rfl, ty, kk _⟩
theorem rx_fault {k : Nat} {s : sz_T} {L O : Nat} {σ : kx_S} (hk : k < 600) (Z : yZ_ k s L O σ) : wX11_fault L σ (qu_ k L O s) := by
  obtain ⟨g, κ, B, n, e, eO, J, hn, hB⟩ := Z
  subst e
  subst eO
  have b := yB_ J hk hn hB
  have hB' : B ≤ 15 + 26 * s.1.1.toNatClampNeg + 3 * (k + 1) := by omega
  have Y : yZ_ (k + 1) s (g 0) (g 10) σ := yZ_of J hn hB'
  have X : pz_N = pz_N ∧ yZ_ (k + 1) s (g 0) (g 10) (xbump σ) := ⟨rfl, yZ_bump J hn hB⟩
  have room := ry_room J.1 (show B ≤ 3000 by omega) (show n ≤ 200 by omega)
  exact ⟨yg0 J, Y⟩
theorem rx_wants {k : Nat} {s : sz_T} {L O : Nat} {σ : kx_S} {i : Int32} (hk : k < 600) (Z : yZ_ k s L O σ) : wX11_wants L i σ (qu_ k L O s) (qf_ k L O s) := by
  obtain ⟨g, κ, B, n, e, eO, J, hn, hB⟩ := Z
  subst e
  subst eO
  have b := yB_ J hk hn hB
  have hB' : B ≤ 15 + 26 * s.1.1.toNatClampNeg + 3 * (k + 1) := by omega
  have Y : yZ_ (k + 1) s (g 0) (g 10) σ := yZ_of J hn hB'
  have X : pz_N = pz_N ∧ yZ_ (k + 1) s (g 0) (g 10) (xbump σ) := ⟨rfl, yZ_bump J hn hB⟩
  have room := ry_room J.1 (show B ≤ 3000 by omega) (show n ≤ 200 by omega)
  have G5 := yg5 J
  have sz := ry_size J.1 G5.2.1
  obtain ⟨u, eu, dd⟩ := ki_dec2E (a := xi σ 18 (g 5)) (by omega)
  refine ⟨yg0 J, g 5, G5.1, G5.2.1, G5.2.1, ?_⟩
  show wX11_isWithin _ _ (xi σ 18 (g 5) - 1) _ _
  rw [← eu]
  refine rx_within (fun _ => ⟨fun x => absurd rfl x, fun _ => ⟨room, X⟩⟩) (fun c1 c2 => ⟨fun _ => ⟨yg0 J, g 5, G5.1, G5.2.1, ?_⟩, fun x => absurd x (by decide)⟩)
  rw [ki_z0] at c1
  refine ry_get J.1 G5.2.1 c1 (by omega) (fun y _ ty => ?_)
  rw [G5.2.2] at ty
  exact ⟨y, rfl, ty, Y⟩
theorem rx_log {k : Nat} {s : sz_T} {L O : Nat} {σ : kx_S} {i w : Int32} (hk : k < 600) (Z : yZ_ k s L O σ) : wX11_log L i w σ (qu_ k L O s) (qf_ k L O s) := by
  obtain ⟨g, κ, B, n, e, eO, J, hn, hB⟩ := Z
  subst e
  subst eO
  have b := yB_ J hk hn hB
  have hB' : B ≤ 15 + 26 * s.1.1.toNatClampNeg + 3 * (k + 1) := by omega
  have Y : yZ_ (k + 1) s (g 0) (g 10) σ := yZ_of J hn hB'
  have X : pz_N = pz_N ∧ yZ_ (k + 1) s (g 0) (g 10) (xbump σ) := ⟨rfl, yZ_bump J hn hB⟩
  have room := ry_room J.1 (show B ≤ 3000 by omega) (show n ≤ 200 by omega)
  refine ⟨yg0 J, ?_⟩
  refine rx_logAt J (by omega) (by omega) (fun y ty => ?_) X
  exact fun v _ => ⟨fun _ => ⟨ty, Y⟩, fun _ => ⟨ty, Y⟩, fun _ => ⟨ty, Y⟩, fun _ => ⟨ty, Y⟩, fun _ => ⟨ty, Y⟩, fun _ => ⟨ty, Y⟩, fun _ => ⟨ty, Y⟩, fun _ => ⟨ty, Y⟩, fun _ _ _ _ _ _ _ _ => ⟨room, X⟩⟩
theorem rx_cell {k : Nat} {s : sz_T} {L O : Nat} {σ : kx_S} {r c w : Int32} (hk : k < 600) (Z : yZ_ k s L O σ) : wX11_cell L r c w σ (qu_ k L O s) (qf_ k L O s) := by
  obtain ⟨g, κ, B, n, e, eO, J, hn, hB⟩ := Z
  subst e
  subst eO
  have b := yB_ J hk hn hB
  have hB' : B ≤ 15 + 26 * s.1.1.toNatClampNeg + 3 * (k + 1) := by omega
  have Y : yZ_ (k + 1) s (g 0) (g 10) σ := yZ_of J hn hB'
  have X : pz_N = pz_N ∧ yZ_ (k + 1) s (g 0) (g 10) (xbump σ) := ⟨rfl, yZ_bump J hn hB⟩
  have room := ry_room J.1 (show B ≤ 3000 by omega) (show n ≤ 200 by omega)
  refine ⟨yg0 J, ?_⟩
  refine rx_reachAt J (by omega) (by omega) (fun _ R _ tR => ?_) (fun _ => X)
  refine rx_checkCell J (by omega) (by omega) tR (fun l l1 l2 l3 c1 c2 => ⟨tR, l, l1, l2, ?_⟩) X
  refine ry_get J.1 l2 c1 c2 (fun C _ tC => ?_)
  rw [l3] at tC
  obtain ⟨y, y1, y2, y3, y4⟩ := yp3 J tC
  exact ⟨C, rfl, tC, fun v _ => ⟨fun _ => ⟨y, y1, y2, y2, Y⟩, fun _ => ⟨fun _ => Y, fun _ => Y⟩, fun _ => ⟨fun _ => Y, fun _ => Y⟩, fun _ _ _ => ⟨room, X⟩⟩⟩
theorem rx_inCell {k : Nat} {s : sz_T} {L O : Nat} {σ : kx_S} {r c i : Int32} (hk : k < 600) (Z : yZ_ k s L O σ) : wX11_inCell L r c i σ (qu_ k L O s) (qf_ k L O s) := by
  obtain ⟨g, κ, B, n, e, eO, J, hn, hB⟩ := Z
  subst e
  subst eO
  have b := yB_ J hk hn hB
  have hB' : B ≤ 15 + 26 * s.1.1.toNatClampNeg + 3 * (k + 1) := by omega
  have Y : yZ_ (k + 1) s (g 0) (g 10) σ := yZ_of J hn hB'
  have X : pz_N = pz_N ∧ yZ_ (k + 1) s (g 0) (g 10) (xbump σ) := ⟨rfl, yZ_bump J hn hB⟩
  have room := ry_room J.1 (show B ≤ 3000 by omega) (show n ≤ 200 by omega)
  refine ⟨yg0 J, ?_⟩
  refine rx_reachAt J (by omega) (by omega) (fun _ R _ tR => ?_) (fun _ => X)
  refine rx_checkCell J (by omega) (by omega) tR (fun l l1 l2 l3 c1 c2 => ⟨tR, l, l1, l2, ?_⟩) X
  refine ry_get J.1 l2 c1 c2 (fun C _ tC => ?_)
  rw [l3] at tC
  obtain ⟨y, y1, y2, y3, y4⟩ := yp3 J tC
  exact ⟨C, rfl, tC, y, y1, rx_numberAt J y2 y3 (fun _ => Y)⟩
theorem rx_heap {k : Nat} {s : sz_T} {L O : Nat} {σ : kx_S} {r i : Int32} (hk : k < 600) (Z : yZ_ k s L O σ) : wX11_heap L r i σ (qu_ k L O s) (qf_ k L O s) := by
  obtain ⟨g, κ, B, n, e, eO, J, hn, hB⟩ := Z
  subst e
  subst eO
  have b := yB_ J hk hn hB
  have hB' : B ≤ 15 + 26 * s.1.1.toNatClampNeg + 3 * (k + 1) := by omega
  have Y : yZ_ (k + 1) s (g 0) (g 10) σ := yZ_of J hn hB'
  have X : pz_N = pz_N ∧ yZ_ (k + 1) s (g 0) (g 10) (xbump σ) := ⟨rfl, yZ_bump J hn hB⟩
  have room := ry_room J.1 (show B ≤ 3000 by omega) (show n ≤ 200 by omega)
  refine ⟨yg0 J, ?_⟩
  refine rx_reachAt J (by omega) (by omega) (fun _ R _ tR => ?_) (fun _ => X)
  refine ⟨tR, fun a ea => ?_, fun _ => Y⟩
  have ta : xt σ a = 2 := by
    rcases (yp10 J tR).2.2 with h | ⟨h, h1, h2⟩
    · rw [ea] at h; cases h
    · rw [ea] at h1; rw [Option.some.inj h1]; exact h2
  obtain ⟨⟨h, h1, h2, h3, h4⟩, _⟩ := yp2 J ta
  exact ⟨fun _ => ⟨a, ea, ta, h, h1, rx_numberAt J h2 h3 (fun _ => Y)⟩, fun _ => ⟨a, ea, ta, h, h1, h2, h2, Y⟩⟩
theorem rx_water {k : Nat} {s : sz_T} {L O : Nat} {σ : kx_S} {r w : Int32} (hk : k < 600) (Z : yZ_ k s L O σ) : wX11_water L r w σ (qu_ k L O s) (qf_ k L O s) := by
  obtain ⟨g, κ, B, n, e, eO, J, hn, hB⟩ := Z
  subst e
  subst eO
  have b := yB_ J hk hn hB
  have hB' : B ≤ 15 + 26 * s.1.1.toNatClampNeg + 3 * (k + 1) := by omega
  have Y : yZ_ (k + 1) s (g 0) (g 10) σ := yZ_of J hn hB'
  have X : pz_N = pz_N ∧ yZ_ (k + 1) s (g 0) (g 10) (xbump σ) := ⟨rfl, yZ_bump J hn hB⟩
  have room := ry_room J.1 (show B ≤ 3000 by omega) (show n ≤ 200 by omega)
  refine ⟨yg0 J, ?_⟩
  refine rx_reachAt J (by omega) (by omega) (fun _ R _ tR => ?_) (fun _ => X)
  obtain ⟨p1, ⟨l, l1, l2, l3⟩, _⟩ := yp10 J tR
  refine fun v _ => ⟨fun _ => ⟨tR, Y⟩, fun _ => ⟨tR, Y⟩, fun _ => ⟨tR, fun _ => Y, fun _ => Y⟩, fun _ => ⟨tR, fun a ea => ?_, fun _ => Y⟩, fun _ => ⟨tR, l, l1, l2, l2, Y⟩, fun _ _ _ _ _ => ⟨room, X⟩⟩
  have ta : xt σ a = 10 := by
    rcases p1 with h | ⟨h, h1, h2⟩
    · rw [ea] at h; cases h
    · rw [ea] at h1; rw [Option.some.inj h1]; exact h2
  exact ⟨a, ea, ta, Y⟩
theorem rx_waters {k : Nat} {s : sz_T} {L O : Nat} {σ : kx_S} {w : Int32} (hk : k < 600) (Z : yZ_ k s L O σ) : wX11_waters L w σ (qu_ k L O s) (qf_ k L O s) := by
  obtain ⟨g, κ, B, n, e, eO, J, hn, hB⟩ := Z
  subst e
  subst eO
  have b := yB_ J hk hn hB
  have hB' : B ≤ 15 + 26 * s.1.1.toNatClampNeg + 3 * (k + 1) := by omega
  have Y : yZ_ (k + 1) s (g 0) (g 10) σ := yZ_of J hn hB'
  have X : pz_N = pz_N ∧ yZ_ (k + 1) s (g 0) (g 10) (xbump σ) := ⟨rfl, yZ_bump J hn hB⟩
  have room := ry_room J.1 (show B ≤ 3000 by omega) (show n ≤ 200 by omega)
  exact fun v _ => ⟨fun _ => ⟨yg0 J, Y⟩, fun _ => ⟨yg0 J, Y⟩, fun _ _ => ⟨room, X⟩⟩
theorem rx_paid {k : Nat} {s : sz_T} {L O : Nat} {σ : kx_S} {m : Int32} (hk : k < 600) (Z : yZ_ k s L O σ) : wX11_paid L m σ (qu_ k L O s) (qf_ k L O s) := by
  obtain ⟨g, κ, B, n, e, eO, J, hn, hB⟩ := Z
  subst e
  subst eO
  have b := yB_ J hk hn hB
  have hB' : B ≤ 15 + 26 * s.1.1.toNatClampNeg + 3 * (k + 1) := by omega
  have Y : yZ_ (k + 1) s (g 0) (g 10) σ := yZ_of J hn hB'
  have X : pz_N = pz_N ∧ yZ_ (k + 1) s (g 0) (g 10) (xbump σ) := ⟨rfl, yZ_bump J hn hB⟩
  have room := ry_room J.1 (show B ≤ 3000 by omega) (show n ≤ 200 by omega)
  have G9 := yg9 J
  have z15 : (15 : Int32).toInt = 15 := by decide
  refine rx_within (fun _ => ⟨fun x => absurd rfl x, fun _ => ⟨room, X⟩⟩) (fun c1 c2 => ⟨fun _ => ⟨yg0 J, g 9, G9.1, G9.2.1, ?_, Y⟩, fun x => absurd x (by decide)⟩)
  rw [ki_z0] at c1
  rw [z15] at c2
  rw [G9.2.2, ki_in]; omega
theorem rx_board {k : Nat} {s : sz_T} {L O : Nat} {σ : kx_S} {i : Int32} (hk : k < 600) (Z : yZ_ k s L O σ) : wX11_board L i σ (qu_ k L O s) (qf_ k L O s) := by
  obtain ⟨g, κ, B, n, e, eO, J, hn, hB⟩ := Z
  subst e
  subst eO
  have b := yB_ J hk hn hB
  have hB' : B ≤ 15 + 26 * s.1.1.toNatClampNeg + 3 * (k + 1) := by omega
  have Y : yZ_ (k + 1) s (g 0) (g 10) σ := yZ_of J hn hB'
  have X : pz_N = pz_N ∧ yZ_ (k + 1) s (g 0) (g 10) (xbump σ) := ⟨rfl, yZ_bump J hn hB⟩
  have room := ry_room J.1 (show B ≤ 3000 by omega) (show n ≤ 200 by omega)
  have G2 := yg2 J
  have sz := ry_size J.1 G2.2.1
  have Lp : ∀ (m : Nat) (c : Int32), 0 ≤ c.toInt → c.toInt ≤ 400 → 400 - c.toInt < (m : Int) → wX11_board_2 (wX11_board_67 (qu_ k (g 0) (g 10) s) (qf_ k (g 0) (g 10) s)) (qu_ k (g 0) (g 10) s) (qf_ k (g 0) (g 10) s) m (g 0) i c σ := by
    intro m
    induction m with
    | zero => intro c h1 h2 h3; omega
    | succ m ih =>
      intro c h1 h2 h3
      refine ⟨yg0 J, g 2, G2.1, G2.2.1, G2.2.1, fun _ => ⟨room, X⟩, fun q => ⟨yg0 J, g 2, G2.1, G2.2.1, ?_⟩⟩
      rw [ki_le] at q
      obtain ⟨c', ec, ii⟩ := ki_incE (a := c) (by omega) (by omega)
      have a1 : 0 ≤ c'.toInt := by omega
      have a2 : c'.toInt ≤ 400 := by omega
      have a3 : 400 - c'.toInt < (m : Int) := by omega
      have N : wX11_board_61 (wX11_board_2 (wX11_board_67 (qu_ k (g 0) (g 10) s) (qf_ k (g 0) (g 10) s)) (qu_ k (g 0) (g 10) s) (qf_ k (g 0) (g 10) s) m) (qu_ k (g 0) (g 10) s) (qf_ k (g 0) (g 10) s) (g 0) i c σ := fun w ew => by
        rw [ew, ← ec]
        exact ih c' a1 a2 a3
      refine ry_get J.1 G2.2.1 h1 (by omega) (fun y _ ty => ?_)
      rw [G2.2.2] at ty
      refine ⟨y, rfl, ty, fun _ => N, fun _ => ?_⟩
      exact rx_within (fun _ => ⟨fun _ => N, fun x => absurd rfl x⟩) (fun _ _ => ⟨fun x => absurd x (by decide), fun _ => Y⟩)
  have fin := Lp 401 0 (by decide) (by decide) (by decide)
  exact ⟨401, fin⟩
theorem rx_countJams {s : sz_T} {g κ : Nat → Nat} {B n : Nat} {σ : kx_S} {f : Int32} {Q : Int32 → kx_S → Prop} (J : yJ_ s g κ B n σ) (kk : ∀ r, Q r σ) : wX11_countJams (g 0) f σ Q := by
  have G1 := yg1 J
  have sz := ry_size J.1 G1.2.1
  have Lp : ∀ (m : Nat) (a c : Int32), 0 ≤ c.toInt → c.toInt ≤ 400 → 400 - c.toInt < (m : Int) → wX11_countJams_4 Q m (g 0) f a c σ := by
    intro m
    induction m with
    | zero => intro a c h1 h2 h3; omega
    | succ m ih =>
      intro a c h1 h2 h3
      refine ⟨yg0 J, g 1, G1.1, G1.2.1, G1.2.1, fun _ => kk _, fun q => ⟨yg0 J, g 1, G1.1, G1.2.1, ?_⟩⟩
      rw [ki_le] at q
      obtain ⟨c', ec, ii⟩ := ki_incE (a := c) (by omega) (by omega)
      have a1 : 0 ≤ c'.toInt := by omega
      have a2 : c'.toInt ≤ 400 := by omega
      have a3 : 400 - c'.toInt < (m : Int) := by omega
      have N : ∀ a', wX11_countJams_99 (wX11_countJams_4 Q m) Q (g 0) f a' c σ := fun a' w ew => by
        rw [ew, ← ec]
        exact ih a' c' a1 a2 a3
      refine ry_get J.1 G1.2.1 h1 (by omega) (fun R _ tR => ?_)
      rw [G1.2.2] at tR
      obtain ⟨_, ⟨l, l1, l2, l3⟩, _⟩ := yp10 J tR
      have szl := ry_size J.1 l2
      refine ⟨R, rfl, tR, ?_⟩
      have Lq : ∀ (m2 : Nat) (a i : Int32), 0 ≤ i.toInt → i.toInt ≤ 400 → 400 - i.toInt < (m2 : Int) → wX11_countJams_35 (wX11_countJams_99 (wX11_countJams_4 Q m) Q) Q m2 (g 0) f a c R i σ := by
        intro m2
        induction m2 with
        | zero => intro a i g1 g2 g3; omega
        | succ m2 ih2 =>
          intro a i g1 g2 g3
          refine ⟨tR, l, l1, l2, l2, fun _ => N a, fun q => ⟨tR, l, l1, l2, ?_⟩⟩
          rw [ki_le] at q
          obtain ⟨i', ei, jj⟩ := ki_incE (a := i) (by omega) (by omega)
          have b1 : 0 ≤ i'.toInt := by omega
          have b2 : i'.toInt ≤ 400 := by omega
          have b3 : 400 - i'.toInt < (m2 : Int) := by omega
          have M : ∀ a', wX11_countJams_93 (wX11_countJams_35 (wX11_countJams_99 (wX11_countJams_4 Q m) Q) Q m2) Q (g 0) f a' c R i σ := fun a' w ew => by
            rw [ew, ← ei]
            exact ih2 a' i' b1 b2 b3
          refine ry_get J.1 l2 g1 (by omega) (fun C _ tC => ?_)
          rw [l3] at tC
          exact ⟨C, rfl, tC, fun _ => ⟨fun _ => M a, fun _ w _ => M w⟩, fun _ => ⟨fun _ => M a, fun _ w _ => M w⟩⟩
      have f2 := Lq 401 a 0 (by decide) (by decide) (by decide)
      exact ⟨401, f2⟩
  have fin := Lp 401 0 0 (by decide) (by decide) (by decide)
  exact ⟨401, fin⟩
theorem rx_count {k : Nat} {s : sz_T} {L O : Nat} {σ : kx_S} {w : Int32} (hk : k < 600) (Z : yZ_ k s L O σ) : wX11_count L w σ (qu_ k L O s) (qf_ k L O s) := by
  obtain ⟨g, κ, B, n, e, eO, J, hn, hB⟩ := Z
  subst e
  subst eO
  have b := yB_ J hk hn hB
  have hB' : B ≤ 15 + 26 * s.1.1.toNatClampNeg + 3 * (k + 1) := by omega
  have Y : yZ_ (k + 1) s (g 0) (g 10) σ := yZ_of J hn hB'
  have X : pz_N = pz_N ∧ yZ_ (k + 1) s (g 0) (g 10) (xbump σ) := ⟨rfl, yZ_bump J hn hB⟩
  have room := ry_room J.1 (show B ≤ 3000 by omega) (show n ≤ 200 by omega)
  exact fun v _ => ⟨fun _ => ⟨yg0 J, Y⟩, fun _ => ⟨yg0 J, g 1, (yg1 J).1, (yg1 J).2.1, (yg1 J).2.1, Y⟩, fun _ => ⟨yg0 J, g 2, (yg2 J).1, (yg2 J).2.1, (yg2 J).2.1, Y⟩, fun _ => ⟨yg0 J, g 3, (yg3 J).1, (yg3 J).2.1, (yg3 J).2.1, Y⟩, fun _ => ⟨yg0 J, Y⟩, fun _ => ⟨yg0 J, g 4, (yg4 J).1, (yg4 J).2.1, (yg4 J).2.1, Y⟩, fun _ => ⟨yg0 J, rx_countJams J (fun _ => Y)⟩, fun _ => ⟨yg0 J, rx_countJams J (fun _ => Y)⟩, fun _ => ⟨yg0 J, g 5, (yg5 J).1, (yg5 J).2.1, (yg5 J).2.1, Y⟩, fun _ => ⟨yg0 J, g 6, (yg6 J).1, (yg6 J).2, Y⟩, fun _ _ _ _ _ _ _ _ _ _ => ⟨room, X⟩⟩
theorem rx_let {k : Nat} {s : sz_T} {L O : Nat} {σ : kx_S} {i r c : Int32} (hk : k < 600) (Z : yZ_ k s L O σ) : wX11_let L i r c σ (qu_ k L O s) (qf_ k L O s) := by
  obtain ⟨g, κ, B, n, e, eO, J, hn, hB⟩ := Z
  subst e
  subst eO
  have b := yB_ J hk hn hB
  have hB' : B ≤ 15 + 26 * s.1.1.toNatClampNeg + 3 * (k + 1) := by omega
  have Y : yZ_ (k + 1) s (g 0) (g 10) σ := yZ_of J hn hB'
  have X : pz_N = pz_N ∧ yZ_ (k + 1) s (g 0) (g 10) (xbump σ) := ⟨rfl, yZ_bump J hn hB⟩
  have room := ry_room J.1 (show B ≤ 3000 by omega) (show n ≤ 200 by omega)
  have W : ∀ τ, yJ_ s g κ B n τ → yZ_ (k + 1) s (g 0) (g 10) τ := fun τ J' => yZ_of J' hn hB'
  have hB3 : B ≤ 3000 := by omega
  have hn2 : n ≤ 200 := by omega
  refine ⟨yg0 J, ?_⟩
  refine rx_logAt J hB3 hn2 (fun y ty => ⟨yg0 J, ?_⟩) X
  refine rx_reachAt J hB3 hn2 (fun _ R _ tR => ?_) (fun _ => X)
  refine rx_checkCell J hB3 hn2 tR (fun l l1 l2 l3 c1 c2 => ⟨ty, fun _ => ⟨yg0 J, g 8, (yg8 J).1, ?_⟩, fun _ => Y⟩) X
  refine rx_lawInForce J (fun q hq => ⟨yg0 J, (yg8 J).2, ?_⟩)
  refine rx_weigh (yW_refl J) (yg8 J).2 ty hq (fun τ K _ => ?_)
  refine ⟨yg0 K.1, g 8, (yg8 K.1).1, (yg8 K.1).2, fun _ => ⟨yW_tag K tR (by decide), ?_⟩, fun _ => W τ K.1⟩
  exact rx_takes K.1 hB3 hn2 (yW_tag K tR (by decide)) (yW_tag K ty (by decide)) (fun v τ2 _ K2 => ⟨fun _ => W τ2 K2.1, fun _ => W τ2 K2.1⟩)
end
section
theorem yI_217 {s : sz_T} {E : Nat → Prop} {g κ : Nat → Nat} {B n : Nat} {σ : kx_S} {v : Int32} (I : yI_ s E g κ B n σ) : yI_ (zn_ s v) E g κ B n (xsi σ 217 (g 0) v) := by
  have S := I.2.2.2.2
  refine ⟨I.1, I.2.1, I.2.2.1, I.2.2.2.1, ?_, S.2⟩
  have h := S.1
  show (xi σ 18 (g 1), xi σ 18 (g 2), xi σ 18 (g 4), xi σ 18 (g 5), xi σ 177 (g 6), va_up (xi σ 217) (g 0) v (g 0)) = (s.1.1, s.1.2.1, s.1.2.2.1, s.1.2.2.2.1, s.1.2.2.2.2.1, v)
  rw [← h, va_up_self]
theorem rx_hours {k : Nat} {s : sz_T} {L O : Nat} {σ : kx_S} {m : Int32} (hk : k < 600) (Z : yZ_ k s L O σ) : wX11_hours L m σ (qz_ k L O (z_hours m s)) (qe_ k L O pz_I (z_hours m s)) := by
  obtain ⟨g, κ, B, n, e, eO, J, hn, hB⟩ := Z
  subst e
  subst eO
  have b := yB_ J hk hn hB
  have hB3 : B ≤ 3000 := by omega
  have hn2 : n ≤ 200 := by omega
  have hB' : B ≤ 15 + 26 * s.1.1.toNatClampNeg + 3 * (k + 1) := by omega
  have room := ry_room J.1 hB3 hn2
  have z200 : (200 : Int32).toInt = 200 := by decide
  have e6 : xi σ 217 (g 0) = s.1.2.2.2.2.2 := congrArg (fun p => p.2.2.2.2.2) J.2.2.2.2.1
  have no : (m < 0 ∨ 200 < m ∨ ¬ (s.1.2.2.2.2.2 + m ≤ 20000)) → wX11_hours_23 (qz_ k (g 0) (g 10) (z_hours m s)) (qe_ k (g 0) (g 10) pz_I (z_hours m s)) σ := fun c => by
    refine ⟨room, rfl, ?_⟩
    rw [show z_hours m s = (1, 0, s) from if_pos c]
    exact ⟨rfl, yZ_bump J hn hB⟩
  refine rx_within (fun c => ⟨fun _ => no ?_, fun x => absurd rfl x⟩) (fun c1 c2 => ⟨fun x => absurd x (by decide), fun _ => ⟨yg0 J, fun c => ⟨202, ?_⟩, fun c => no ?_⟩⟩)
  · rw [ki_z0, z200] at c
    rw [ki_lt, ki_z0, ki_lt, z200]
    omega
  · rw [ki_z0] at c1
    rw [z200] at c2
    rw [e6] at c
    have hno : ¬ (m < 0 ∨ 200 < m ∨ ¬ (s.1.2.2.2.2.2 + m ≤ 20000)) := by
      rw [ki_lt, ki_z0, ki_lt, z200]
      intro h
      rcases h with h | h | h
      · omega
      · omega
      · exact h c
    rw [show z_hours m s = (0, s.1.2.2.2.2.2 + m, zn_ s (s.1.2.2.2.2.2 + m)) from if_neg hno]
    clear hno no c e6 b
    have Lp : ∀ (j : Nat) (i : Int32) (τ : kx_S), 0 ≤ i.toInt → i.toInt ≤ m.toInt → m.toInt - i.toInt < (j : Int) → yJ_ (zn_ s (s.1.2.2.2.2.2 + i)) g κ B n τ → wX11_hours_35 (wX11_hours_84 (qz_ k (g 0) (g 10) (0, s.1.2.2.2.2.2 + m, zn_ s (s.1.2.2.2.2.2 + m))) (qe_ k (g 0) (g 10) pz_I (0, s.1.2.2.2.2.2 + m, zn_ s (s.1.2.2.2.2.2 + m)))) (qz_ k (g 0) (g 10) (0, s.1.2.2.2.2.2 + m, zn_ s (s.1.2.2.2.2.2 + m))) (qe_ k (g 0) (g 10) pz_I (0, s.1.2.2.2.2.2 + m, zn_ s (s.1.2.2.2.2.2 + m))) j (g 0) m i τ := by
      intro j
      induction j with
      | zero => intro i τ h1 h2 h3; omega
      | succ j ih =>
        intro i τ h1 h2 h3 J1
        refine ⟨fun q => ?_, fun q => ⟨yg0 J1, ?_⟩⟩
        · rw [ki_le] at q
          have en : i = m := ki_eq.2 (by omega)
          rw [en] at J1
          refine ⟨yg0 J1, rfl, congrArg (fun p => p.2.2.2.2.2) J1.2.2.2.2.1, yZ_of J1 hn hB'⟩
        · rw [ki_le] at q
          obtain ⟨i', ei, ii⟩ := ki_incE (a := i) (by omega) (by omega)
          have a1 : 0 ≤ i'.toInt := by omega
          have a2 : i'.toInt ≤ m.toInt := by omega
          have a3 : m.toInt - i'.toInt < (j : Int) := by omega
          refine rx_runWater J1 (fun τ2 K2 => ⟨yg0 K2.1, ?_⟩)
          refine rx_moveLogs K2.1 hB3 hn2 (fun τ3 J3 _ => ⟨yg0 J3, ?_⟩)
          refine rx_jamCells J3 (fun τ4 J4 _ => ⟨yg0 J4, ?_⟩)
          refine rx_freeJams J4 (fun τ5 J5 _ => ⟨yg0 J5, ?_⟩)
          refine rx_makeJamsKnown J5 (fun τ6 J6 _ => ⟨yg0 J6, ?_⟩)
          refine rx_ageLogs J6 (fun τ7 J7 _ => ⟨yg0 J7, ?_⟩)
          refine rx_runMills J7 (fun τ8 J8 _ => ⟨yg0 J8, fun τ9 e9 w ew => ?_⟩)
          have e8 : xi τ8 217 (g 0) = s.1.2.2.2.2.2 + i := congrArg (fun p => p.2.2.2.2.2) J8.2.2.2.2.1
          rw [ew, ← ei, e9, e8]
          refine ih i' _ a1 a2 a3 ?_
          have := yI_217 (v := s.1.2.2.2.2.2 + i + 1) J8
          rw [ei, ← Int32.add_assoc]
          exact this
    refine Lp 202 0 σ (by decide) (by rw [ki_z0]; omega) (by rw [ki_z0]; omega) ?_
    rw [Int32.add_zero]
    exact J
  · rw [e6] at c
    exact .inr (.inr c)
/-! the tape -/
abbrev zt_ (s : sz_T) (v : Int32) : sz_T := ((s.1.1, s.1.2.1, s.1.2.2.1, s.1.2.2.2.1, v, s.1.2.2.2.2.2), s.2)
theorem yI_177 {s : sz_T} {E : Nat → Prop} {g κ : Nat → Nat} {B n : Nat} {σ : kx_S} {v : Int32} (hv : 0 ≤ v.toInt ∧ v.toInt ≤ 500) (I : yI_ s E g κ B n σ) : yI_ (zt_ s v) E g κ B n (xsi σ 177 (g 6) v) := by
  have S := I.2.2.2.2
  refine ⟨I.1, I.2.1, I.2.2.1, fun b => ?_, ?_, S.2⟩
  · obtain ⟨q1, q2, q3, q4, q5, q6, q7, q8⟩ := I.2.2.2.1 b
    refine ⟨q1, q2, q3, q4, q5, q6, fun e => ?_, q8⟩
    show 0 ≤ (va_up (xi σ 177) (g 6) v b).toInt ∧ (va_up (xi σ 177) (g 6) v b).toInt ≤ 500
    by_cases e2 : b = g 6
    · rw [e2, va_up_self]; exact hv
    · rw [va_up_ne _ _ e2]; exact q7 e
  · have h := S.1
    show (xi σ 18 (g 1), xi σ 18 (g 2), xi σ 18 (g 4), xi σ 18 (g 5), va_up (xi σ 177) (g 6) v (g 6), xi σ 217 (g 0)) = (s.1.1, s.1.2.1, s.1.2.2.1, s.1.2.2.2.1, v, s.1.2.2.2.2.2)
    rw [← h, va_up_self]
theorem rx_app {s : sz_T} {g κ : Nat → Nat} {B n : Nat} {σ : kx_S} {j : Nat} {sh v t : Int32} {Q : kx_S → Prop} (J : yJ_ (zt_ s t) g κ B n σ) (h0 : 0 ≤ t.toInt) (h1 : t.toInt < 500) (hs : ¬ sh < 0) (kk : ∀ τ u, u.toInt = t.toInt + 1 → yJ_ (zt_ s u) g κ B n τ → wX9_append_3 Q j (g 6) v (sh + -8) τ) : wX9_append_3 Q (j + 1) (g 6) v sh σ := by
  have G6 := yg6 J
  obtain ⟨h, p1, p2, p3⟩ := yp11 J G6.2
  have et : xi σ 177 (g 6) = t := congrArg (fun p => p.2.2.2.2.1) J.2.2.2.2.1
  have e500 : (nI (xn σ h)).toInt = 500 := by rw [p3]; decide
  obtain ⟨u, eu, ii⟩ := ki_incE (a := t) (by omega) (by omega)
  refine ⟨fun c => absurd c hs, fun _ => ⟨G6.2, h, p1, p2, fun c => ?_, fun c => ⟨h, p1, fun w ew => ⟨p2, ?_, fun τ1 e1 τ2 e2 x ex => ?_⟩⟩⟩⟩
  · rw [ki_le, e500, et] at c
    omega
  · rw [et, ki_in, p3]; omega
  · rw [ex]
    refine kk τ2 u ii ?_
    have e3 : xi τ1 177 (g 6) = t := by rw [e1]; exact et
    have J1 : yJ_ (zt_ s t) g κ B n τ1 := by rw [e1]; exact yI_sai J
    rw [e2, e3, ← eu]
    have J2 := yI_177 (s := zt_ s t) (v := u) (by omega) J1
    exact J2
theorem rx_append {s : sz_T} {g κ : Nat → Nat} {B n : Nat} {σ : kx_S} {v t : Int32} {Q : kx_S → Prop} (J : yJ_ (zt_ s t) g κ B n σ) (h0 : 0 ≤ t.toInt) (h1 : t.toInt ≤ 496) (kk : ∀ τ u, u.toInt = t.toInt + 4 → yJ_ (zt_ s u) g κ B n τ → Q τ) : wX9_append (g 6) v σ Q := by
  refine ⟨5, ?_⟩
  refine rx_app J h0 (by omega) (by decide) (fun τ1 u1 e1 J1 => ?_)
  refine rx_app J1 (by omega) (by omega) (by decide) (fun τ2 u2 e2 J2 => ?_)
  refine rx_app J2 (by omega) (by omega) (by decide) (fun τ3 u3 e3 J3 => ?_)
  refine rx_app J3 (by omega) (by omega) (by decide) (fun τ4 u4 e4 J4 => ?_)
  exact ⟨fun _ => kk τ4 u4 (by omega) J4, fun x => absurd (by decide) x⟩
theorem rx_feed {k : Nat} {s : sz_T} {L O : Nat} {σ : kx_S} {a b c d e : Int32} (hk : k < 600) (Z : yZ_ k s L O σ) : wX11_feed L a b c d e σ (qz_ k L O (z_feed s)) := by
  obtain ⟨g, κ, B, n, eg, eO, J, hn, hB⟩ := Z
  subst eg
  subst eO
  have hB' : B ≤ 15 + 26 * s.1.1.toNatClampNeg + 3 * (k + 1) := by omega
  have G6 := yg6 J
  have et : xi σ 177 (g 6) = s.1.2.2.2.2.1 := congrArg (fun p => p.2.2.2.2.1) J.2.2.2.2.1
  have tb := (J.2.2.2.1 (g 6)).2.2.2.2.2.2.1 G6.2
  rw [et] at tb
  obtain ⟨t, ett⟩ : ∃ t, t = s.1.2.2.2.2.1 := ⟨_, rfl⟩
  rw [← ett] at tb et
  have z480 : (480 : Int32).toInt = 480 := by decide
  have z500 : (500 : Int32).toInt = 500 := by decide
  have z20 : (20 : Int32).toInt = 20 := by decide
  have t20 := ki_add (a := t) (b := 20) (by rw [z20]; omega) (by rw [z20]; omega)
  rw [z20] at t20
  obtain ⟨w, ew⟩ : ∃ w, w = t + 20 := ⟨_, rfl⟩
  rw [← ew] at t20
  refine ⟨yg0 J, g 6, G6.1, G6.2, fun q => ⟨g 6, G6.1, G6.2, ?_⟩, fun q => ?_⟩
  · rw [et, ki_le, z480] at q
    rw [show z_feed s = (0, w, zt_ s w) from by
      unfold z_feed
      rw [← ett, ← ew, if_pos (by rw [ki_le, z500]; omega)]]
    have J0 : yJ_ (zt_ s t) g κ B n σ := by rw [ett]; exact J
    refine rx_append J0 (by omega) (by omega) (fun τ1 u1 e1 J1 => ⟨yg0 J1, g 6, (yg6 J1).1, (yg6 J1).2, ?_⟩)
    refine rx_append J1 (by omega) (by omega) (fun τ2 u2 e2 J2 => ⟨yg0 J2, g 6, (yg6 J2).1, (yg6 J2).2, ?_⟩)
    refine rx_append J2 (by omega) (by omega) (fun τ3 u3 e3 J3 => ⟨yg0 J3, g 6, (yg6 J3).1, (yg6 J3).2, ?_⟩)
    refine rx_append J3 (by omega) (by omega) (fun τ4 u4 e4 J4 => ⟨yg0 J4, g 6, (yg6 J4).1, (yg6 J4).2, ?_⟩)
    refine rx_append J4 (by omega) (by omega) (fun τ5 u5 e5 J5 => ⟨yg0 J5, g 6, (yg6 J5).1, (yg6 J5).2, rfl, ?_, ?_⟩)
    · have h5 : xi τ5 177 (g 6) = u5 := congrArg (fun p => p.2.2.2.2.1) J5.2.2.2.2.1
      rw [h5]
      show u5 = w
      exact ki_eq.2 (by omega)
    · have hu : u5 = w := ki_eq.2 (by omega)
      rw [hu] at J5
      exact yZ_of J5 hn hB'
  · rw [et, ki_le, z480] at q
    rw [show z_feed s = (0, -1, s) from by
      unfold z_feed
      rw [← ett, ← ew, if_neg (by rw [ki_le, z500]; omega)]]
    exact ⟨rfl, rfl, yZ_of J hn hB'⟩
end
section
/-! things that are made -/
theorem fg_new {σ : kx_S} {p t : Nat} (hp : xt σ p = 0) : fg_ σ (xnew σ p t) := by
  have ne : ∀ a, xt σ a ≠ 0 → a ≠ p := fun a h e => h (by rw [e]; exact hp)
  exact ⟨fun a h => va_up_ne _ _ (ne a h), fun f a _ h => va_up_ne _ _ (ne a h), fun a _ => rfl, rfl⟩
theorem fg_newA {σ : kx_S} {p t m : Nat} (hp : xt σ p = 0) : fg_ σ (xnewA σ p t m) := by
  have ne : ∀ a, xt σ a ≠ 0 → a ≠ p := fun a h e => h (by rw [e]; exact hp)
  exact ⟨fun a h => va_up_ne _ _ (ne a h), fun f a _ _ => rfl, fun a h => va_up_ne _ _ (ne a h), rfl⟩
/-- what a step that makes one thing keeps -/
theorem yI_mk {s : sz_T} {E E' : Nat → Prop} {g κ κ' : Nat → Nat} {B B' n n' : Nat} {σ τ : kx_S} {p t : Nat} (I : yI_ s E g κ B n σ) (hp : xt σ p = 0) (L : yL_ g κ' B' n' τ) (F : fg_ σ τ) (t1 : xt τ = va_up (xt σ) p t) (ht : t = 1 ∨ t = 8 ∨ t = 9 ∨ t = 20 ∨ t = 21 ∨ E' p) (hE : ∀ a, ¬ E' a → ¬ E a) (K : ∀ a, a ≠ p → κ' a = κ a) (i1 : ∀ f a, a ≠ p → xi τ f a = xi σ f a) (i2 : ∀ f, f ≠ 16 → xi τ f p = 0 ∨ xt τ p = 20 ∨ xt τ p = 21) (X : ∀ i, xe τ (g 1) i = xe σ (g 1) i) : yI_ s E' g κ' B' n' τ := by
  obtain ⟨iL, iP, iG, iN, iS⟩ := I
  have G' := iG
  obtain ⟨g0, ⟨a1, b1, c1⟩, ⟨a2, b2, c2⟩, ⟨a3, b3, c3⟩, ⟨a4, b4, c4⟩, ⟨a5, b5, c5⟩, ⟨a6, b6⟩, _⟩ := G'
  have ne : ∀ a, xt σ a ≠ 0 → a ≠ p := fun a h e => h (by rw [e]; exact hp)
  have n0 := ne (g 0) (by rw [g0]; decide)
  have n1 := ne (g 1) (by rw [b1]; decide)
  have n2 := ne (g 2) (by rw [b2]; decide)
  have n3 := ne (g 3) (by rw [b3]; decide)
  have n4 := ne (g 4) (by rw [b4]; decide)
  have n5 := ne (g 5) (by rw [b5]; decide)
  have n6 := ne (g 6) (by rw [b6]; decide)
  have tg : ∀ a, a ≠ p → xt τ a = xt σ a := fun a e => by rw [t1, va_up_ne _ _ e]
  have tp : xt τ p = t := by rw [t1, va_up_self]
  have K1 : ∀ a, xt σ a = 1 → κ' a = κ a := fun a h => K a (ne a (by rw [h]; decide))
  have sz5 : 0 ≤ (xi σ 18 (g 5)).toInt := (ry_size iL b5).1
  refine ⟨L, yP_fg F (fun a ha => ?_) K1 (fun a ha => iP a (hE a ha)), yG_fg F K1 iG, fun a => ?_, ?_, fun r hr => ?_, ?_, ?_⟩
  · by_cases e : a = p
    · rw [e, tp]
      rcases ht with h | h | h | h | h | h
      · exact .inr (.inr (.inl h))
      · exact .inr (.inr (.inr (.inl h)))
      · exact .inr (.inr (.inr (.inr (.inl h))))
      · exact .inr (.inr (.inr (.inr (.inr (.inr (.inl h))))))
      · exact .inr (.inr (.inr (.inr (.inr (.inr (.inr (.inl h)))))))
      · exact absurd (by rw [e]; exact h) ha
    · exact .inl (tg a e)
  · by_cases e : a = p
    · subst e
      have z : ∀ f, f ≠ 16 → xt τ a ≠ 20 → xt τ a ≠ 21 → xi τ f a = 0 := fun f hf h1 h2 => (i2 f hf).elim id (fun h => h.elim (fun x => absurd x h1) (fun x => absurd x h2))
      refine ⟨fun q => ?_, fun q => ?_, fun q => ?_, fun q => ?_, fun q => ?_, fun q => ?_, fun q => ?_, fun q _ => ?_⟩
      · rw [z 35 (by decide) (by omega) (by omega)]; decide
      · rw [z 48 (by decide) (by omega) (by omega)]; decide
      · rw [z 82 (by decide) (by omega) (by omega), z 83 (by decide) (by omega) (by omega)]; decide
      · rw [z 114 (by decide) (by omega) (by omega)]; decide
      · rw [z 129 (by decide) (by omega) (by omega)]; decide
      · rw [z 171 (by decide) (by omega) (by omega)]; decide
      · rw [z 177 (by decide) (by omega) (by omega)]; decide
      · rw [z 18 (by decide) (by omega) (by omega), i1 18 (g 5) n5, ki_z0]; exact sz5
    · rw [tg a e, i1 35 a e, i1 48 a e, i1 82 a e, i1 83 a e, i1 114 a e, i1 129 a e, i1 171 a e, i1 177 a e, i1 18 a e, i1 18 (g 5) n5, K a e]
      exact iN a
  · rw [i1 18 (g 1) n1, i1 18 (g 2) n2, i1 18 (g 4) n4, i1 18 (g 5) n5, i1 177 (g 6) n6, i1 217 (g 0) n0]
    exact iS.1
  · rw [i1 18 (g 1) n1] at hr
    obtain ⟨R, r1, r2⟩ := iS.2.1 r hr
    have tR : xt σ R ≠ 0 := by
      obtain ⟨y, ey, ty⟩ := ry_el iL b1 hr
      rw [r1] at ey
      have := Option.some.inj ey
      rw [this, ty, c1]
      decide
    have nR := ne R tR
    refine ⟨R, by rw [X]; exact r1, ?_⟩
    rw [i1 160 R nR, i1 165 R nR, i1 168 R nR, i1 164 R nR, i1 171 R nR, F.2.1 172 R (by decide) tR]
    exact r2
  · rw [i1 18 (g 1) n1]; exact iS.2.2.1
  · rw [i1 18 (g 1) n1, i1 18 (g 3) n3, i1 18 (g 4) n4, i1 18 (g 5) n5]; exact iS.2.2.2
theorem yI_new {s : sz_T} {E : Nat → Prop} {g κ : Nat → Nat} {B n : Nat} {σ : kx_S} {p t : Nat} (I : yI_ s E g κ B n σ) (hp : xt σ p = 0) (hz : p ≠ xz σ) (ht : t ≠ 1) : yI_ s (fun a => E a ∨ a = p) g κ (B + 1) n (xnew σ p t) := by
  have ne : ∀ a, xt σ a ≠ 0 → a ≠ p := fun a h e => h (by rw [e]; exact hp)
  refine yI_mk I hp (yL_other I.1 hp hz ht rfl (fun a e => va_up_ne _ _ e) (fun a e => va_up_ne _ _ e) (fun a _ => rfl) (fun a _ => rfl) rfl rfl) (fg_new hp) rfl (.inr (.inr (.inr (.inr (.inr (.inr rfl)))))) (fun a h q => h (.inl q)) (fun _ _ => rfl) (fun f a e => va_up_ne _ _ e) (fun f _ => .inl (va_up_self _ _ _)) (fun i => ?_)
  unfold xe
  have : xr (xnew σ p t) 17 (g 1) = xr σ 17 (g 1) := va_up_ne _ _ (ne _ (by rw [(yg1 I).2.1]; decide))
  rw [this]
  rfl
/-- a log or an order: nothing of it points anywhere -/
theorem yI_new0 {s : sz_T} {E : Nat → Prop} {g κ : Nat → Nat} {B n : Nat} {σ : kx_S} {p t : Nat} (I : yI_ s E g κ B n σ) (hp : xt σ p = 0) (hz : p ≠ xz σ) (ht : t = 8 ∨ t = 9) : yI_ s E g κ (B + 1) n (xnew σ p t) := by
  have ne : ∀ a, xt σ a ≠ 0 → a ≠ p := fun a h e => h (by rw [e]; exact hp)
  refine yI_mk I hp (yL_other I.1 hp hz (by omega) rfl (fun a e => va_up_ne _ _ e) (fun a e => va_up_ne _ _ e) (fun a _ => rfl) (fun a _ => rfl) rfl rfl) (fg_new hp) rfl (by omega) (fun a h q => h q) (fun _ _ => rfl) (fun f a e => va_up_ne _ _ e) (fun f _ => .inl (va_up_self _ _ _)) (fun i => ?_)
  unfold xe
  have : xr (xnew σ p t) 17 (g 1) = xr σ 17 (g 1) := va_up_ne _ _ (ne _ (by rw [(yg1 I).2.1]; decide))
  rw [this]
  rfl
theorem yI_newA {s : sz_T} {E : Nat → Prop} {g κ : Nat → Nat} {B n : Nat} {σ : kx_S} {p t m : Nat} (I : yI_ s E g κ B n σ) (hp : xt σ p = 0) (hz : p ≠ xz σ) (ht : t = 20 ∨ t = 21) : yI_ s E g κ (B + 1) n (xnewA σ p t m) := by
  have ne : ∀ a, xt σ a ≠ 0 → a ≠ p := fun a h e => h (by rw [e]; exact hp)
  have G1 := yg1 I
  obtain ⟨d, hd, _, _, o⟩ := I.1.1 (g 1) G1.2.1
  have dp : d ≠ p := by
    rcases o with o | o
    · rw [o.1]; exact hz.symm
    · exact ne d (by rw [o.2.1]; decide)
  have tp : xt (xnewA σ p t m) p = t := va_up_self _ _ _
  refine yI_mk I hp (yL_other I.1 hp hz (by omega) rfl (fun a e => rfl) (fun a e => rfl) (fun a e => va_up_ne _ _ e) (fun a e => va_up_ne _ _ e) rfl rfl) (fg_newA hp) rfl (by omega) (fun a h q => h q) (fun _ _ => rfl) (fun f a e => rfl) (fun f _ => by rw [tp]; omega) (fun i => ?_)
  rw [xe_some (σ := σ) hd, xe_some (σ := xnewA σ p t m) (d := d) hd]
  exact congrFun (va_up_ne _ _ dp) i
theorem yI_newL {s : sz_T} {E : Nat → Prop} {g κ : Nat → Nat} {B n : Nat} {σ τ : kx_S} {p t : Nat} (I : yI_ s E g κ B n σ) (hp : xt σ p = 0) (ht : kx_el t) (e : τ = xsr (xsi (xnew σ p 1) 16 p 0) 17 p (some (xz σ))) : yI_ s E g (va_up κ p t) (B + 1) (n + 1) τ ∧ fg_ σ τ ∧ xt τ p = 1 ∧ xi τ 18 p = 0 := by
  have ne : ∀ a, xt σ a ≠ 0 → a ≠ p := fun a h e => h (by rw [e]; exact hp)
  have i16 : ∀ f a, f ≠ 16 → xi τ f a = va_up (xi σ f) p 0 a := fun f a hf => by
    rw [e]
    show (if f = 16 then _ else va_up (xi σ f) p 0) a = _
    rw [if_neg hf]
  have i1 : ∀ f a, a ≠ p → xi τ f a = xi σ f a := fun f a q => by
    rw [e]
    show (if f = 16 then va_up (va_up (xi σ 16) p 0) p 0 else va_up (xi σ f) p 0) a = _
    by_cases c : f = 16
    · rw [if_pos c, va_up_ne _ _ q, va_up_ne _ _ q, c]
    · rw [if_neg c, va_up_ne _ _ q]
  have r17 : xr τ 17 = va_up (xr σ 17) p (some (xz σ)) := by
    rw [e]
    funext a
    show va_up (va_up (xr σ 17) p none) p (some (xz σ)) a = _
    by_cases q : a = p
    · rw [q, va_up_self, va_up_self]
    · rw [va_up_ne _ _ q, va_up_ne _ _ q, va_up_ne _ _ q]
  have t1 : xt τ = va_up (xt σ) p 1 := by rw [e]; rfl
  have F : fg_ σ τ := by
    refine ⟨fun a h => by rw [t1, va_up_ne _ _ (ne a h)], fun f a hf h => ?_, fun a _ => by rw [e]; rfl, by rw [e]; rfl⟩
    rw [e]
    show (if f = 17 then _ else va_up (xr σ f) p none) a = _
    rw [if_neg hf, va_up_ne _ _ (ne a h)]
  refine ⟨yI_mk I hp (yL_new I.1 hp ht t1 (by funext a; rw [i16 18 a (by decide)]) r17 (by rw [e]; rfl) (by rw [e]; rfl) (by rw [e]; rfl) (by rw [e]; rfl)) F t1 (.inl rfl) (fun a h q => h q) (fun a q => va_up_ne _ _ q) i1 (fun f hf => .inl (by rw [i16 f p hf, va_up_self])) (fun i => ?_), F, by rw [t1, va_up_self], by rw [i16 18 p (by decide), va_up_self]⟩
  unfold xe
  have : xr τ 17 (g 1) = xr σ 17 (g 1) := by rw [r17, va_up_ne _ _ (ne _ (by rw [(yg1 I).2.1]; decide))]
  rw [this, e]
  rfl
/-- a reference written into what is being made -/
theorem yI_srE {s : sz_T} {E : Nat → Prop} {g κ : Nat → Nat} {B n : Nat} {σ : kx_S} {f p : Nat} {v : Option Nat} (I : yI_ s E g κ B n σ) (hE : E p) (h17 : f ≠ 17) (h172 : f ≠ 172) (h0 : p ≠ g 0) : yI_ s E g κ B n (xsr σ f p v) := by
  have ra : ∀ k a, a ≠ p → xr (xsr σ f p v) k a = xr σ k a := fun k a q => xup_ne σ.2.2.1 q
  have r17 : xr (xsr σ f p v) 17 = xr σ 17 := by
    show (if 17 = f then _ else xr σ 17) = xr σ 17
    rw [if_neg (fun e => h17 e.symm)]
  have r172 : xr (xsr σ f p v) 172 = xr σ 172 := by
    show (if 172 = f then _ else xr σ 172) = xr σ 172
    rw [if_neg (fun e => h172 e.symm)]
  have ex : ∀ l i, xe (xsr σ f p v) l i = xe σ l i := fun l i => by
    unfold xe
    rw [r17]
    rfl
  have ec : ycap (xsr σ f p v) = ycap σ := by
    funext a
    unfold ycap
    rw [r17]
    rfl
  obtain ⟨iL, iP, iG, iN, iS⟩ := I
  refine ⟨⟨fun a ha => ?_, fun a b d ha hb => ?_, iL.2.2.1, ?_⟩, fun a ha => ?_, ?_, iN, ?_⟩
  · have := iL.1 a ha
    unfold yl_ at this ⊢
    rw [r17]
    exact this
  · rw [r17]
    exact iL.2.1 a b d ha hb
  · obtain ⟨LS, q1, q2, q3, q4⟩ := iL.2.2.2
    exact ⟨LS, q1, q2, q3, by rw [ec]; exact q4⟩
  · have q : a ≠ p := fun e => ha (by rw [e]; exact hE)
    have := iP a ha
    rw [ra 32 a q, ra 33 a q, ra 49 a q, ra 64 a q, ra 80 a q, ra 81 a q, ra 97 a q, ra 112 a q, ra 113 a q, ra 161 a q, ra 163 a q, ra 172 a q, ra 176 a q, ra 192 a q]
    exact this
  · have q := h0.symm
    unfold yG_ at iG ⊢
    rw [ra 208 _ q, ra 209 _ q, ra 210 _ q, ra 211 _ q, ra 212 _ q, ra 213 _ q, ra 214 _ q, ra 215 _ q, ra 216 _ q]
    exact iG
  · unfold yS_ at iS ⊢
    rw [r172]
    refine ⟨iS.1, fun r hr => ?_, iS.2.2⟩
    rw [ex]
    exact iS.2.1 r hr
theorem yP_add {E : Nat → Prop} {g κ : Nat → Nat} {σ : kx_S} {p t : Nat} (P : yP_ (fun a => E a ∨ a = p) g κ σ) (tp : xt σ p = t)
    (f2 : t = 2 → (∃ h, xr σ 32 p = some h ∧ xt σ h = 1 ∧ κ h = 8 ∧ h ≠ g 2) ∧ ∃ o, xr σ 33 p = some o ∧ xt σ o = 1 ∧ κ o = 9 ∧ o ≠ g 5)
    (f3 : t = 3 → ∃ h, xr σ 49 p = some h ∧ xt σ h = 1 ∧ κ h = 8 ∧ h ≠ g 2)
    (f4 : t = 4 → ∃ h, xr σ 64 p = some h ∧ xt σ h = 10)
    (f6 : t = 6 → ∃ h, xr σ 97 p = some h ∧ xt σ h = 20 ∧ xn σ h ≤ 500)
    (f10 : t = 10 → (xr σ 161 p = none ∨ ∃ h, xr σ 161 p = some h ∧ xt σ h = 10) ∧ (∃ h, xr σ 163 p = some h ∧ xt σ h = 1 ∧ κ h = 3) ∧ (xr σ 172 p = none ∨ ∃ h, xr σ 172 p = some h ∧ xt σ h = 2))
    (ht : t = 2 ∨ t = 3 ∨ t = 4 ∨ t = 6 ∨ t = 10) : yP_ E g κ σ := by
  have c : t ≠ 5 ∧ t ≠ 7 ∧ t ≠ 11 ∧ t ≠ 12 := by clear f2 f3 f4 f6 f10; omega
  intro a ha
  by_cases e : a = p
  · subst e
    rw [tp]
    exact ⟨f2, f3, f4, fun q => absurd q c.1, f6, fun q => absurd q c.2.1, f10, fun q => absurd q c.2.2.1, fun q => absurd q c.2.2.2⟩
  · exact P a (fun h => h.elim ha e)
theorem yI_129 {s : sz_T} {E : Nat → Prop} {g κ : Nat → Nat} {B n : Nat} {σ : kx_S} {a : Nat} {v : Int32} (h : 0 ≤ v.toInt ∧ v.toInt ≤ 15) (I : yI_ s E g κ B n σ) : yI_ s E g κ B n (xsi σ 129 a v) := by
  refine yI_siN (by decide) I (fun b => ?_)
  obtain ⟨q1, q2, q3, q4, q5, q6, q7, q8⟩ := I.2.2.2.1 b
  refine ⟨q1, q2, q3, q4, fun e => ?_, q6, q7, q8⟩
  show 0 ≤ (va_up (xi σ 129) a v b).toInt ∧ (va_up (xi σ 129) a v b).toInt ≤ 15
  by_cases e2 : b = a
  · rw [e2, va_up_self]; exact h
  · rw [va_up_ne _ _ e2]; exact q5 e
theorem yI_48 {s : sz_T} {E : Nat → Prop} {g κ : Nat → Nat} {B n : Nat} {σ : kx_S} {a : Nat} {v : Int32} (h : v.toInt ≤ 20) (I : yI_ s E g κ B n σ) : yI_ s E g κ B n (xsi σ 48 a v) := by
  refine yI_siN (by decide) I (fun b => ?_)
  obtain ⟨q1, q2, q3, q4, q5, q6, q7, q8⟩ := I.2.2.2.1 b
  refine ⟨q1, fun e => ?_, q3, q4, q5, q6, q7, q8⟩
  show (va_up (xi σ 48) a v b).toInt ≤ 20
  by_cases e2 : b = a
  · rw [e2, va_up_self]; exact h
  · rw [va_up_ne _ _ e2]; exact q2 e
/-- a list takes one more: all but the counts -/
theorem yI_tr2 {s s' : sz_T} {E : Nat → Prop} {g κ : Nat → Nat} {B n : Nat} {σ τ : kx_S} {l y : Nat} (I : yI_ s E g κ B n σ) (L : yL_ g κ B n τ) (A : ya_ l y σ τ) (S' : yS_ s' g τ) (N9 : ∀ a, xt σ a = 1 → κ a = 9 → (xi τ 18 a).toInt ≤ (xi τ 18 (g 5)).toInt) : yI_ s' E g κ B n τ := by
  obtain ⟨iL, iP, iG, iN, iS⟩ := I
  obtain ⟨F, T, i0, i18, r0, x0, x1, l0⟩ := A
  refine ⟨L, yP_fg F (fun a _ => (T a).elim .inl (fun h => .inr (.inr (.inr (.inr (.inr (.inr (.inr (.inr h.2))))))))) (fun _ _ => rfl) iP, yG_fg F (fun _ _ => rfl) iG, fun a => ?_, S'⟩
  obtain ⟨q1, q2, q3, q4, q5, q6, q7, q8⟩ := iN a
  have tg : ∀ {t : Nat}, xt τ a = t → t ≠ 22 → xt σ a = t := fun {t} e c => by
    rcases T a with h | h
    · rw [← h]; exact e
    · omega
  rw [i0 35 (by decide) (by decide), i0 48 (by decide) (by decide), i0 82 (by decide) (by decide), i0 83 (by decide) (by decide), i0 114 (by decide) (by decide), i0 129 (by decide) (by decide), i0 171 (by decide) (by decide), i0 177 (by decide) (by decide)]
  exact ⟨fun e => q1 (tg e (by decide)), fun e => q2 (tg e (by decide)), fun e => q3 (tg e (by decide)), fun e => q4 (tg e (by decide)), fun e => q5 (tg e (by decide)), fun e => q6 (tg e (by decide)), fun e => q7 (tg e (by decide)), fun e c => N9 a (tg e (by decide)) c⟩
theorem yS_add {s : sz_T} {E : Nat → Prop} {g κ : Nat → Nat} {B n : Nat} {σ τ : kx_S} {l y : Nat} (I : yI_ s E g κ B n σ) (A : ya_ l y σ τ) (h1 : l ≠ g 1) (b3 : (xi τ 18 (g 3)).toInt ≤ 6) (b4 : (xi τ 18 (g 4)).toInt ≤ 6) (b5 : (xi τ 18 (g 5)).toInt ≤ 60) : yS_ ((s.1.1, xi τ 18 (g 2), xi τ 18 (g 4), xi τ 18 (g 5), s.1.2.2.2.2.1, s.1.2.2.2.2.2), s.2) g τ := by
  obtain ⟨F, T, i0, i18, r0, x0, x1, l0⟩ := A
  have S := I.2.2.2.2
  have G1 := yg1 I
  have e1 : xi τ 18 (g 1) = xi σ 18 (g 1) := by rw [i18, va_up_ne _ _ (fun e => h1 e.symm)]
  refine ⟨?_, fun r hr => ?_, ?_, ?_, b3, b4, b5⟩
  · rw [e1, i0 177 (by decide) (by decide), i0 217 (by decide) (by decide)]
    have h := S.1
    have a1 : xi σ 18 (g 1) = s.1.1 := congrArg (fun p => p.1) h
    have a2 : xi σ 177 (g 6) = s.1.2.2.2.2.1 := congrArg (fun p => p.2.2.2.2.1) h
    have a3 : xi σ 217 (g 0) = s.1.2.2.2.2.2 := congrArg (fun p => p.2.2.2.2.2) h
    rw [a1, a2, a3]
  · rw [e1] at hr
    obtain ⟨R, r1, r2⟩ := S.2.1 r hr
    refine ⟨R, by rw [x0 (g 1) G1.2.1 r hr]; exact r1, ?_⟩
    rw [i0 160 (by decide) (by decide), i0 165 (by decide) (by decide), i0 168 (by decide) (by decide), i0 164 (by decide) (by decide), i0 171 (by decide) (by decide), r0 172 (by decide)]
    exact r2
  · rw [e1]; exact S.2.2.1
  · rw [e1]; exact S.2.2.2.1
end
section
theorem yG_idx {s : sz_T} {E : Nat → Prop} {g κ : Nat → Nat} {B n : Nat} {σ : kx_S} (I : yI_ s E g κ B n σ) : xi σ 18 (g 1) = s.1.1 ∧ xi σ 18 (g 2) = s.1.2.1 ∧ xi σ 18 (g 4) = s.1.2.2.1 ∧ xi σ 18 (g 5) = s.1.2.2.2.1 ∧ xi σ 177 (g 6) = s.1.2.2.2.2.1 ∧ xi σ 217 (g 0) = s.1.2.2.2.2.2 :=
  ⟨congrArg (fun p => p.1) I.2.2.2.2.1, congrArg (fun p => p.2.1) I.2.2.2.2.1, congrArg (fun p => p.2.2.1) I.2.2.2.2.1, congrArg (fun p => p.2.2.2.1) I.2.2.2.2.1, congrArg (fun p => p.2.2.2.2.1) I.2.2.2.2.1, congrArg (fun p => p.2.2.2.2.2) I.2.2.2.2.1⟩
theorem yK9_same {s : sz_T} {E : Nat → Prop} {g κ : Nat → Nat} {B n : Nat} {σ τ : kx_S} {l y : Nat} (I : yI_ s E g κ B n σ) (A : ya_ l y σ τ) (h9 : κ l ≠ 9) : ∀ a, xt σ a = 1 → κ a = 9 → (xi τ 18 a).toInt ≤ (xi τ 18 (g 5)).toInt := by
  intro a ha k9
  rw [A.2.2.2.1, va_up_ne _ _ (fun e => h9 (by rw [← e]; exact k9)), va_up_ne _ _ (fun e => h9 (by rw [← e]; exact (yg5 I).2.2))]
  exact (I.2.2.2.1 a).2.2.2.2.2.2.2 ha k9
theorem rx_cut {k : Nat} {s : sz_T} {L O : Nat} {σ : kx_S} {m z t : Int32} (hk : k < 600) (Z : yZ_ k s L O σ) : wX11_cut L m z t σ (qz_ k L O (z_cut m z t s)) := by
  obtain ⟨g, κ, B, n, eg, eO, J, hn, hB⟩ := Z
  subst eg
  subst eO
  have b := yB_ J hk hn hB
  have hB' : B ≤ 15 + 26 * s.1.1.toNatClampNeg + 3 * (k + 1) := by omega
  have hB1 : B + 1 ≤ 15 + 26 * s.1.1.toNatClampNeg + 3 * (k + 1) := by omega
  have hB3 : B ≤ 3000 := by omega
  have hB4 : B + 1 ≤ 3000 := by omega
  have hn2 : n ≤ 200 := by omega
  have G2 := yg2 J
  have sz := ry_size J.1 G2.2.1
  have ids := yG_idx J
  have z400 : (400 : Int32).toInt = 400 := by decide
  have z15 : (15 : Int32).toInt = 15 := by decide
  have z9 : (9 : Int32).toInt = 9 := by decide
  have zM : (1000000 : Int32).toInt = 1000000 := by decide
  have no : (s.1.2.1 = 400 ∨ m < 0 ∨ 15 < m ∨ z < 1 ∨ 9 < z ∨ t < 0 ∨ ¬ t ≤ 1000000) → qz_ k (g 0) (g 10) (z_cut m z t s) (-1) σ := fun c => by
    rw [show z_cut m z t s = (0, -1, s) from if_pos c]
    exact ⟨rfl, rfl, yZ_of J hn hB'⟩
  refine ⟨yg0 J, g 2, G2.1, G2.2.1, G2.2.1, fun c => no (.inl ?_), fun c => ?_⟩
  · rw [ki_le, z400] at c
    rw [← ids.2.1]
    exact ki_eq.2 (by rw [z400]; omega)
  rw [ki_le, z400] at c
  refine rx_within (fun d => ⟨fun x => absurd rfl x, fun _ => no (.inr ?_)⟩) (fun c1 c2 => ⟨fun _ => ?_, fun x => absurd x (by decide)⟩)
  · rw [ki_z0, z15] at d
    rw [ki_lt, ki_z0, ki_lt, z15]
    by_cases q : m.toInt < 0
    · exact .inl q
    · exact .inr (.inl (by omega))
  rw [ki_z0] at c1
  rw [z15] at c2
  refine rx_within (fun d => ⟨fun _ => no (.inr (.inr (.inr ?_))), fun x => absurd rfl x⟩) (fun c3 c4 => ⟨fun x => absurd x (by decide), fun _ => ?_⟩)
  · rw [ki_z1, z9] at d
    rw [ki_lt (b := 1), ki_z1, ki_lt (b := z), z9]
    by_cases q : z.toInt < 1
    · exact .inl q
    · exact .inr (.inl (by omega))
  rw [ki_z1] at c3
  rw [z9] at c4
  refine rx_within (fun d => ⟨fun x => absurd rfl x, fun _ => no (.inr (.inr (.inr (.inr (.inr ?_)))))⟩) (fun c5 c6 => ⟨fun _ => ⟨ry_room J.1 hB3 hn2, fun p hp hz τ1 e1 => ?_⟩, fun x => absurd x (by decide)⟩)
  · rw [ki_z0, zM] at d
    rw [ki_lt, ki_z0, ki_le, zM]
    by_cases q : t.toInt < 0
    · exact .inl q
    · exact .inr (by omega)
  rw [ki_z0] at c5
  rw [zM] at c6
  have yes : z_cut m z t s = (0, s.1.2.1, ((s.1.1, s.1.2.1 + 1, s.1.2.2), s.2)) := by
    refine if_neg (fun h => ?_)
    rw [ki_lt, ki_lt, ki_lt, ki_lt, ki_lt, ki_le, ki_z0, z15, ki_z1, z9, zM] at h
    rcases h with h | h
    · have h' := congrArg Int32.toInt h
      rw [z400, ← ids.2.1] at h'
      omega
    · omega
  rw [yes]
  have I1 : yJ_ s g κ (B + 1) n τ1 := by rw [e1]; exact yI_new0 J hp hz (.inl rfl)
  have F1 : fg_ σ τ1 := by rw [e1]; exact fg_new hp
  have tp1 : xt τ1 p = 8 := by rw [e1]; exact va_up_self _ _ _
  have sz1 : xi τ1 18 (g 2) = s.1.2.1 := (yG_idx I1).2.1
  clear e1
  refine ⟨yg0 I1, g 2, (yg2 I1).1, (yg2 I1).2.1, (yg2 I1).2.1, tp1, fun a2 e2 a4 e4 a6 e6 a8 e8 a10 e10 a12 e12 a14 e14 a16 e16 => ?_⟩
  have I2 : yJ_ s g κ (B + 1) n a16 := by
    rw [e16, e14, e12, e10, e8, e6, e4, e2]
    exact yI_si (by decide) (yI_si (by decide) (yI_si (by decide) (yI_si (by decide) (yI_si (by decide) (yI_si (by decide) (yI_129 ⟨c1, c2⟩ (yI_si (by decide) I1)))))))
  have tp2 : xt a16 p = 8 := by rw [e16, e14, e12, e10, e8, e6, e4, e2]; exact tp1
  have nb : xi a16 128 p = xi τ1 18 (g 2) := by
    rw [e16, e14, e12, e10, e8, e6, e4, e2]
    exact va_up_self _ _ _
  clear e16 e14 e12 e10 e8 e6 e4 e2
  have ids2 := yG_idx I2
  have sc : (xi a16 18 (g 2)).toInt < 400 := by rw [ids2.2.1, ← ids.2.1]; omega
  refine ⟨yg0 I2, g 2, (yg2 I2).1, (yg2 I2).2.1, ?_⟩
  refine ry_add I2.1 hB4 hn2 (yg2 I2).2.1 (by rw [tp2, (yg2 I2).2.2]) (by unfold ylb; rw [if_pos rfl]; exact sc) (fun τ3 L3 A3 => ?_)
  have ne := yG_ne I2.2.2.1
  have q3 : xi τ3 18 (g 3) = xi a16 18 (g 3) := by rw [A3.2.2.2.1, va_up_ne _ _ (fun e => ne.2.2.2.2.1 e.symm)]
  have q4 : xi τ3 18 (g 4) = xi a16 18 (g 4) := by rw [A3.2.2.2.1, va_up_ne _ _ (fun e => ne.2.2.2.2.2.1 e.symm)]
  have q5 : xi τ3 18 (g 5) = xi a16 18 (g 5) := by rw [A3.2.2.2.1, va_up_ne _ _ (fun e => ne.2.2.2.2.2.2.1 e.symm)]
  have q2 : xi τ3 18 (g 2) = xi a16 18 (g 2) + 1 := by rw [A3.2.2.2.1, va_up_self]
  have SS := I2.2.2.2.2.2.2.2
  have S3 := yS_add I2 A3 (fun e => ne.1 e.symm) (by rw [q3]; exact SS.2.1) (by rw [q4]; exact SS.2.2.1) (by rw [q5]; exact SS.2.2.2)
  have I3 := yI_tr2 I2 L3 A3 S3 (yK9_same I2 A3 (by rw [(yg2 I2).2.2]; decide))
  rw [q2, q4, q5, ids2.2.1, ids2.2.2.1, ids2.2.2.2.1] at I3
  refine ⟨by rw [fg_tag A3.1 tp2 (by decide)], rfl, ?_, yZ_of I3 hn hB1⟩
  rw [A3.2.2.1 128 (by decide) (by decide), nb, sz1]
theorem rx_newCrew {k : Nat} {s : sz_T} {g κ : Nat → Nat} {B n : Nat} {σ : kx_S} {R : Nat} {Q : Int32 → kx_S → Prop} (J : yJ_ s g κ B n σ) (hB4 : B + 1 ≤ 3000) (hn2 : n ≤ 200) (hR : xt σ R = 10) (k0 : s.1.2.2.1 = 6 → Q (-1) σ) (k1 : s.1.2.2.1 ≠ 6 → ∀ τ, yJ_ ((s.1.1, s.1.2.1, s.1.2.2.1 + 1, s.1.2.2.2), s.2) g κ (B + 1) n τ → Q s.1.2.2.1 τ) : wX11_newCrew (g 0) R σ Q := by
  have G4 := yg4 J
  have sz := ry_size J.1 G4.2.1
  have ids := yG_idx J
  have z6 : (6 : Int32).toInt = 6 := by decide
  have b6 := J.2.2.2.2.2.2.2.2.2.1
  refine ⟨yg0 J, g 4, G4.1, G4.2.1, G4.2.1, fun c => ⟨yg0 J, g 4, G4.1, ry_room J.1 (by omega) hn2, fun p hp hz τ1 e1 => ?_⟩, fun c => k0 ?_⟩
  · rw [ki_lt, z6] at c
    have ne6 : s.1.2.2.1 ≠ 6 := fun x => by rw [← ids.2.2.1] at x; have := congrArg Int32.toInt x; rw [z6] at this; omega
    have I1 : yI_ s (fun a => False ∨ a = p) g κ (B + 1) n τ1 := by rw [e1]; exact yI_new J hp hz (by decide)
    have F1 : fg_ σ τ1 := by rw [e1]; exact fg_new hp
    have tp1 : xt τ1 p = 4 := by rw [e1]; exact va_up_self _ _ _
    have p0 : p ≠ g 0 := fun e => by have := yg0 J; rw [← e, hp] at this; omega
    clear e1
    refine ⟨yg0 I1, tp1, fun τ2 e2 τ3 e3 => ?_⟩
    have I2' : yI_ s (fun a => False ∨ a = p) g κ (B + 1) n τ3 := by rw [e3, e2]; exact yI_si (by decide) (yI_srE I1 (.inr rfl) (by decide) (by decide) p0)
    have tp3 : xt τ3 p = 4 := by rw [e3, e2]; exact tp1
    have tR3 : xt τ3 R = 10 := by rw [e3, e2]; show xt τ1 R = 10; exact fg_tag F1 hR (by decide)
    have r3 : xr τ3 64 p = some R := by rw [e3, e2]; exact va_up_self _ _ _
    clear e3 e2
    have I2 : yJ_ s g κ (B + 1) n τ3 := ⟨I2'.1, yP_add I2'.2.1 tp3 (fun q => absurd q (by decide)) (fun q => absurd q (by decide)) (fun _ => ⟨R, r3, tR3⟩) (fun q => absurd q (by decide)) (fun q => absurd q (by decide)) (by decide), I2'.2.2⟩
    clear I2'
    have ids2 := yG_idx I2
    have sc : (xi τ3 18 (g 4)).toInt < 6 := by rw [ids2.2.2.1, ← ids.2.2.1]; exact c
    have ne := yG_ne I2.2.2.1
    have inc := ki_inc (a := xi τ3 18 (g 4)) (by have := ry_size I2.1 (yg4 I2).2.1; omega) (by omega)
    refine ⟨(yg4 I2).2.1, ?_⟩
    refine ry_add I2.1 hB4 hn2 (yg4 I2).2.1 (by rw [tp3, (yg4 I2).2.2]) (by unfold ylb; rw [if_neg (fun e => ne.2.2.2.2.2.1 e.symm)]; omega) (fun τ4 L4 A4 => ?_)
    have q2 : xi τ4 18 (g 2) = xi τ3 18 (g 2) := by rw [A4.2.2.2.1, va_up_ne _ _ ne.2.2.2.2.2.1]
    have q3 : xi τ4 18 (g 3) = xi τ3 18 (g 3) := by rw [A4.2.2.2.1, va_up_ne _ _ ne.2.2.2.2.2.2.2.1]
    have q5 : xi τ4 18 (g 5) = xi τ3 18 (g 5) := by rw [A4.2.2.2.1, va_up_ne _ _ (fun e => ne.2.2.2.2.2.2.2.2.2 e.symm)]
    have q4 : xi τ4 18 (g 4) = xi τ3 18 (g 4) + 1 := by rw [A4.2.2.2.1, va_up_self]
    have SS := I2.2.2.2.2.2.2.2
    have S4 := yS_add I2 A4 (fun e => ne.2.2.1 e.symm) (by rw [q3]; exact SS.2.1) (by rw [q4, inc]; omega) (by rw [q5]; exact SS.2.2.2)
    have I4 := yI_tr2 I2 L4 A4 S4 (yK9_same I2 A4 (by rw [(yg4 I2).2.2]; decide))
    have gG := yg4 I4
    have eq4 : xi τ4 18 (g 4) - 1 = s.1.2.2.1 := by
      rw [q4, ← ids2.2.2.1]
      refine ki_eq.2 ?_
      have sz3 := (ry_size I2.1 (yg4 I2).2.1).1
      rw [ki_dec2 (by rw [inc]; omega), inc]
      omega
    rw [q2, q4, q5, ids2.2.1, ids2.2.2.1, ids2.2.2.2.1] at I4
    refine ⟨yg0 I4, g 4, gG.1, gG.2.1, gG.2.1, ?_⟩
    show Q (xi τ4 18 (g 4) - 1) τ4
    rw [eq4]
    exact k1 ne6 τ4 I4
  · rw [ki_lt, z6] at c
    rw [← ids.2.2.1]
    exact ki_eq.2 (by rw [z6]; omega)
theorem yI_64 {s : sz_T} {g κ : Nat → Nat} {B n : Nat} {σ : kx_S} {c R : Nat} (J : yJ_ s g κ B n σ) (hc : xt σ c = 4) (hR : xt σ R = 10) : yJ_ s g κ B n (xsr σ 64 c (some R)) := by
  refine ⟨J.1, fun a ha => ?_, J.2.2.1, J.2.2.2.1, J.2.2.2.2⟩
  obtain ⟨p2, p3, p4, p5, p6, p7, p10, p11, p12⟩ := J.2.1 a ha
  refine ⟨p2, p3, fun e => ?_, p5, p6, p7, p10, p11, p12⟩
  show ∃ h, va_up (xr σ 64) c (some R) a = some h ∧ xt σ h = 10
  by_cases q : a = c
  · rw [q, va_up_self]; exact ⟨R, rfl, hR⟩
  · rw [va_up_ne _ _ q]; exact p4 e
theorem rx_crew {k : Nat} {s : sz_T} {L O : Nat} {σ : kx_S} {c r : Int32} (hk : k < 600) (Z : yZ_ k s L O σ) : wX11_crew L c r σ (qz_ k L O (z_crew c r s)) (qe_ k L O pz_N (z_crew c r s)) := by
  obtain ⟨g, κ, B, n, eg, eO, J, hn, hB⟩ := Z
  subst eg
  subst eO
  have b := yB_ J hk hn hB
  have hB' : B ≤ 15 + 26 * s.1.1.toNatClampNeg + 3 * (k + 1) := by omega
  have hB1 : B + 1 ≤ 15 + 26 * s.1.1.toNatClampNeg + 3 * (k + 1) := by omega
  have hB3 : B ≤ 3000 := by omega
  have hB4 : B + 1 ≤ 3000 := by omega
  have hn2 : n ≤ 200 := by omega
  have G4 := yg4 J
  have sz := ry_size J.1 G4.2.1
  have ids := yG_idx J
  refine ⟨yg0 J, ?_⟩
  refine rx_reachAt J hB3 hn2 (fun hz R eR tR => ?_) (fun hz => ?_)
  · unfold z_crew
    rw [if_pos hz]
    refine ⟨fun d => ?_, fun d => ⟨yg0 J, ?_⟩⟩
    · rw [if_neg d]
      obtain ⟨u, eu, dd⟩ := ki_dec2E (a := xi σ 18 (g 4)) (by omega)
      have d' : c.toInt ≠ -1 := fun x => d (ki_eq.2 (x.trans ki_zm.symm))
      refine ⟨yg0 J, g 4, G4.1, G4.2.1, G4.2.1, ?_⟩
      show wX11_isWithin _ _ (xi σ 18 (g 4) - 1) _ _
      rw [← eu]
      refine rx_within (fun q => ⟨fun x => absurd rfl x, fun _ => ?_⟩) (fun c1 c2 => ⟨fun _ => ⟨yg0 J, g 4, G4.1, G4.2.1, ?_⟩, fun x => absurd x (by decide)⟩)
      · rw [ki_z0] at q
        rw [if_pos (by rw [ki_lt, ki_zm, ki_le, ← ids.2.2.1]; omega)]
        exact ⟨rfl, rfl, yZ_of J hn hB'⟩
      · rw [ki_z0] at c1
        have hc : c.toInt < (xi σ 18 (g 4)).toInt := by omega
        rw [if_neg (by rw [ki_lt, ki_zm, ki_le, ← ids.2.2.1]; omega)]
        refine ry_get J.1 G4.2.1 c1 hc (fun C _ tC => ?_)
        rw [G4.2.2] at tC
        obtain ⟨h, h1, h2⟩ := yp4 J tC
        refine ⟨C, rfl, tC, h, h1, h2, fun _ => ⟨rfl, rfl, yZ_of J hn hB'⟩, fun _ => ⟨yg0 J, tC, fun τ2 e2 τ4 e4 => ?_⟩⟩
        rw [e4, e2]
        exact ⟨rfl, rfl, yZ_of (yI_si (by decide) (yI_64 J tC tR)) hn hB'⟩
    · rw [if_pos d]
      refine rx_newCrew (k := k) J hB4 hn2 tR (fun e6 => ?_) (fun e6 τ Jn => ?_)
      · rw [if_pos e6]
        exact ⟨rfl, rfl, yZ_of J hn hB'⟩
      · rw [if_neg e6]
        exact ⟨rfl, rfl, yZ_of Jn hn hB1⟩
  · unfold z_crew
    rw [if_neg hz]
    exact ⟨rfl, rfl, yZ_bump J hn hB⟩
end
section
theorem rx_order {k : Nat} {s : sz_T} {L O : Nat} {σ : kx_S} {r m z w : Int32} (hk : k < 600) (Z : yZ_ k s L O σ) : wX11_order L r m z w σ (qz_ k L O (z_order r m z w s)) (qe_ k L O pz_N (z_order r m z w s)) := by
  obtain ⟨g, κ, B, n, eg, eO, J, hn, hB⟩ := Z
  subst eg
  subst eO
  have b := yB_ J hk hn hB
  have hB' : B ≤ 15 + 26 * s.1.1.toNatClampNeg + 3 * (k + 1) := by omega
  have hB1 : B + 1 ≤ 15 + 26 * s.1.1.toNatClampNeg + 3 * (k + 1) := by omega
  have hB3 : B ≤ 3000 := by omega
  have hB4 : B + 1 ≤ 3000 := by omega
  have hn2 : n ≤ 200 := by omega
  have G5 := yg5 J
  have sz := ry_size J.1 G5.2.1
  have ids := yG_idx J
  have z60 : (60 : Int32).toInt = 60 := by decide
  have z15 : (15 : Int32).toInt = 15 := by decide
  have z9 : (9 : Int32).toInt = 9 := by decide
  have z100 : (100 : Int32).toInt = 100 := by decide
  have b60 := J.2.2.2.2.2.2.2.2.2.2
  refine ⟨yg0 J, ?_⟩
  refine rx_reachAt J hB3 hn2 (fun hz R eR tR => ?_) (fun hz => ?_)
  rotate_left
  · unfold z_order
    rw [if_neg hz]
    exact ⟨rfl, rfl, yZ_bump J hn hB⟩
  have hr : ((r.toNatClampNeg : Nat) : Int) < s.1.1.toInt := by rw [ki_nat]; have := hz.1; have := hz.2; omega
  have o := yS_at J.2.2.2.2 hr eR
  unfold z_order
  rw [if_pos hz]
  have no : (s.2.2.2.2.2 r.toNatClampNeg = 0 ∨ m < 0 ∨ 15 < m ∨ z < 1 ∨ 9 < z ∨ w < 1 ∨ 100 < w ∨ s.1.2.2.2.1 = 60) → qz_ k (g 0) (g 10) (if s.2.2.2.2.2 r.toNatClampNeg = 0 ∨ m < 0 ∨ 15 < m ∨ z < 1 ∨ 9 < z ∨ w < 1 ∨ 100 < w ∨ s.1.2.2.2.1 = 60 then (0, -1, s) else (0, s.1.2.2.2.1, ((s.1.1, s.1.2.1, s.1.2.2.1, s.1.2.2.2.1 + 1, s.1.2.2.2.2), s.2))) (-1) σ := fun c => by
    rw [if_pos c]
    exact ⟨rfl, rfl, yZ_of J hn hB'⟩
  refine ⟨tR, fun c => no (.inl (o.2.2.2.2.2.1 c)), fun a ea => ⟨yg0 J, g 5, G5.1, G5.2.1, G5.2.1, fun c => ?_, fun c => no (.inr (.inr (.inr (.inr (.inr (.inr (.inr ?_)))))))⟩⟩
  rotate_left
  · rw [ki_lt, z60] at c
    rw [← ids.2.2.2.1]
    exact ki_eq.2 (by rw [z60]; omega)
  rw [ki_lt, z60] at c
  have ta : xt σ a = 2 := by
    rcases (yp10 J tR).2.2 with h | ⟨h, h1, h2⟩
    · rw [ea] at h; cases h
    · rw [ea] at h1; rw [Option.some.inj h1]; exact h2
  have nb0 : s.2.2.2.2.2 r.toNatClampNeg ≠ 0 := fun x => by have := o.2.2.2.2.2.2 x; rw [ea] at this; cases this
  refine rx_within (fun d => ⟨fun _ => no (.inr ?_), fun x => absurd rfl x⟩) (fun c1 c2 => ⟨fun x => absurd x (by decide), fun _ => ?_⟩)
  · rw [ki_z0, z15] at d
    rw [ki_lt, ki_z0, ki_lt, z15]
    by_cases q : m.toInt < 0
    · exact .inl q
    · exact .inr (.inl (by omega))
  rw [ki_z0] at c1
  rw [z15] at c2
  refine rx_within (fun d => ⟨fun _ => no (.inr (.inr (.inr ?_))), fun x => absurd rfl x⟩) (fun c3 c4 => ⟨fun x => absurd x (by decide), fun _ => ?_⟩)
  · rw [ki_z1, z9] at d
    rw [ki_lt (b := 1), ki_z1, ki_lt (b := z), z9]
    by_cases q : z.toInt < 1
    · exact .inl q
    · exact .inr (.inl (by omega))
  rw [ki_z1] at c3
  rw [z9] at c4
  refine rx_within (fun d => ⟨fun x => absurd rfl x, fun _ => no (.inr (.inr (.inr (.inr (.inr ?_)))))⟩) (fun c5 c6 => ⟨fun _ => ⟨ry_room J.1 hB3 hn2, fun p hp hpz τ1 e1 => ?_⟩, fun x => absurd x (by decide)⟩)
  · rw [ki_z1, z100] at d
    rw [ki_lt (b := 1), ki_z1, ki_lt (b := w), z100]
    by_cases q : w.toInt < 1
    · exact .inl q
    · exact .inr (.inl (by omega))
  rw [ki_z1] at c5
  rw [z100] at c6
  have ncond : ¬ (s.2.2.2.2.2 r.toNatClampNeg = 0 ∨ m < 0 ∨ 15 < m ∨ z < 1 ∨ 9 < z ∨ w < 1 ∨ 100 < w ∨ s.1.2.2.2.1 = 60) := by
    intro h
    rw [ki_lt, ki_lt, ki_lt, ki_lt, ki_lt, ki_lt, ki_z0, z15, ki_z1, z9, z100] at h
    rcases h with h | h | h | h | h | h | h | h
    · exact nb0 h
    · omega
    · omega
    · omega
    · omega
    · omega
    · omega
    · have h' := congrArg Int32.toInt h
      rw [z60, ← ids.2.2.2.1] at h'
      omega
  rw [if_neg ncond]
  clear no ncond
  have I1 : yJ_ s g κ (B + 1) n τ1 := by rw [e1]; exact yI_new0 J hp hpz (.inr rfl)
  have F1 : fg_ σ τ1 := by rw [e1]; exact fg_new hp
  have tp1 : xt τ1 p = 9 := by rw [e1]; exact va_up_self _ _ _
  clear e1
  refine ⟨tp1, fun a2 e2 a4 e4 a6 e6 => ?_⟩
  have I2 : yJ_ s g κ (B + 1) n a6 := by
    rw [e6, e4, e2]
    exact yI_si (by decide) (yI_si (by decide) (yI_si (by decide) I1))
  have tp2 : xt a6 p = 9 := by rw [e6, e4, e2]; exact tp1
  have F2 : fg_ τ1 a6 := by
    rw [e6, e4, e2]
    exact ⟨fun _ _ => rfl, fun _ _ _ _ => rfl, fun _ _ => rfl, rfl⟩
  clear e6 e4 e2
  have F12 := fg_trans F1 F2
  have ids2 := yG_idx I2
  have sc : (xi a6 18 (g 5)).toInt < 60 := by rw [ids2.2.2.2.1, ← ids.2.2.2.1]; exact c
  have ne := yG_ne I2.2.2.1
  have s5 := ry_size I2.1 (yg5 I2).2.1
  have inc := ki_inc (a := xi a6 18 (g 5)) (by omega) (by omega)
  refine ⟨yg0 I2, g 5, (yg5 I2).1, (yg5 I2).2.1, ?_⟩
  have bl : (xi a6 18 (g 5)).toInt < (ylb g (g 5) : Int) := by
    unfold ylb
    rw [if_neg (fun e => ne.2.2.2.2.2.2.1 e.symm)]
    omega
  refine ry_add I2.1 hB4 hn2 (yg5 I2).2.1 (by rw [tp2, (yg5 I2).2.2]) bl (fun τ3 L3 A3 => ?_)
  have q2 : xi τ3 18 (g 2) = xi a6 18 (g 2) := by rw [A3.2.2.2.1, va_up_ne _ _ ne.2.2.2.2.2.2.1]
  have q3 : xi τ3 18 (g 3) = xi a6 18 (g 3) := by rw [A3.2.2.2.1, va_up_ne _ _ ne.2.2.2.2.2.2.2.2.1]
  have q4 : xi τ3 18 (g 4) = xi a6 18 (g 4) := by rw [A3.2.2.2.1, va_up_ne _ _ ne.2.2.2.2.2.2.2.2.2]
  have q5 : xi τ3 18 (g 5) = xi a6 18 (g 5) + 1 := by rw [A3.2.2.2.1, va_up_self]
  have SS := I2.2.2.2.2.2.2.2
  have S3 := yS_add I2 A3 (fun e => ne.2.2.2.1 e.symm) (by rw [q3]; exact SS.2.1) (by rw [q4]; exact SS.2.2.1) (by rw [q5, inc]; exact Int.add_one_le_of_lt sc)
  have N9 : ∀ l, xt a6 l = 1 → κ l = 9 → (xi τ3 18 l).toInt ≤ (xi τ3 18 (g 5)).toInt ∧ (l ≠ g 5 → (xi τ3 18 l).toInt < (xi τ3 18 (g 5)).toInt) := by
    intro l hl k9
    have old := (I2.2.2.2.1 l).2.2.2.2.2.2.2 hl k9
    by_cases e : l = g 5
    · rw [e]; exact ⟨Int.le_refl _, fun x => absurd rfl x⟩
    · have ql : xi τ3 18 l = xi a6 18 l := by rw [A3.2.2.2.1, va_up_ne _ _ e]
      rw [ql, q5, inc]
      exact ⟨by omega, fun _ => by omega⟩
  have I3 := yI_tr2 I2 L3 A3 S3 (fun l hl k9 => (N9 l hl k9).1)
  have F3 := fg_trans F12 A3.1
  have tp3 : xt τ3 p = 9 := fg_tag A3.1 tp2 (by decide)
  have ea3 : xr τ3 172 R = some a := fg_ref F3 tR (by decide) (by decide) ea
  have ta3 : xt τ3 a = 2 := fg_tag F3 ta (by decide)
  obtain ⟨_, ol, o1, o2, o3, o4⟩ := yp2 I3 ta3
  have ol2 : xt a6 ol = 1 := by
    rcases A3.2.1 ol with h | h
    · rw [← h]; exact o2
    · rw [h.2] at o2; cases o2
  have slt := (N9 ol ol2 o3).2 o4
  have so := (ry_size I3.1 o2).1
  have inc3 := ki_inc (a := xi τ3 18 ol) (by omega) (by rw [q5, inc] at slt; omega)
  have bl3 : (xi τ3 18 ol).toInt < (ylb g ol : Int) := by
    have : ylb g ol ≥ 100 := by unfold ylb; split <;> omega
    rw [q5, inc] at slt
    omega
  refine ⟨fg_tag F3 tR (by decide), a, ea3, ta3, ol, o1, o2, ?_⟩
  refine ry_add I3.1 hB4 hn2 o2 (by rw [tp3, o3]) bl3 (fun τ4 L4 A4 => ?_)
  have og : ∀ i, κ (g i) ≠ 9 ∨ g i = g 5 → xi τ4 18 (g i) = xi τ3 18 (g i) := fun i h => by
    rw [A4.2.2.2.1, va_up_ne _ _ (fun e => ?_)]
    rcases h with h | h
    · exact h (by rw [e]; exact o3)
    · exact o4 (e.symm.trans h)
  have p1 := og 1 (.inl (by rw [(yg1 I3).2.2]; decide))
  have p2 := og 2 (.inl (by rw [(yg2 I3).2.2]; decide))
  have p3 := og 3 (.inl (by rw [(yg3 I3).2.2]; decide))
  have p4 := og 4 (.inl (by rw [(yg4 I3).2.2]; decide))
  have p5 := og 5 (.inr rfl)
  have S4 := yS_add I3 A4 (fun e => by have := (yg1 I3).2.2; rw [← e, o3] at this; cases this) (by rw [p3, q3]; exact SS.2.1) (by rw [p4, q4]; exact SS.2.2.1) (by rw [p5, q5, inc]; exact Int.add_one_le_of_lt sc)
  have I4 := yI_tr2 I3 L4 A4 S4 (fun l hl k9 => by
    have old := (I3.2.2.2.1 l).2.2.2.2.2.2.2 hl k9
    rw [p5]
    by_cases e : l = ol
    · rw [e, A4.2.2.2.1, va_up_self, inc3]; exact Int.add_one_le_of_lt slt
    · rw [A4.2.2.2.1, va_up_ne _ _ e]; exact old)
  have g5 := yg5 I4
  have eq4 : xi τ4 18 (g 5) - 1 = s.1.2.2.2.1 := by
    rw [p5, q5, ← ids2.2.2.2.1]
    refine ki_eq.2 ?_
    rw [ki_dec2 (by rw [inc]; omega), inc]
    omega
  rw [p2, p4, p5, q2, q4, q5, ids2.2.1, ids2.2.2.1, ids2.2.2.2.1] at I4
  refine ⟨yg0 I4, g 5, g5.1, g5.2.1, g5.2.1, rfl, eq4, ?_⟩
  exact yZ_of I4 hn hB1
end
section
theorem fg_srN {σ τ : kx_S} {f p : Nat} {v : Option Nat} (F : fg_ σ τ) (hp : xt σ p = 0) : fg_ σ (xsr τ f p v) := by
  refine ⟨F.1, fun k a hk ha => ?_, F.2.2.1, F.2.2.2⟩
  have ne : a ≠ p := fun e => ha (by rw [e]; exact hp)
  exact (xup_ne τ.2.2.1 ne).trans (F.2.1 k a hk ha)
theorem fg_siN {σ τ : kx_S} {f p : Nat} {v : Int32} (F : fg_ σ τ) : fg_ σ (xsi τ f p v) := F
theorem rx_newList {s : sz_T} {E : Nat → Prop} {g κ : Nat → Nat} {B n : Nat} {σ : kx_S} {p t : Nat} {Q : kx_S → Prop} (I : yI_ s E g κ B n σ) (hp : xt σ p = 0) (ht : kx_el t) (kk : ∀ τ, yI_ s E g (va_up κ p t) (B + 1) (n + 1) τ → fg_ σ τ → xt τ p = 1 → xi τ 18 p = 0 → (∀ f a, a ≠ p → xi τ f a = xi σ f a) → (∀ a, xt τ a = va_up (xt σ) p 1 a) → (∀ i, xe τ (g 1) i = xe σ (g 1) i) → Q τ) : ∀ σ5, σ5 = xnew σ p 1 → wJx4a65c_init_da8c8 p σ5 Q := by
  intro σ5 e5
  subst e5
  refine ⟨va_up_self _ _ _, fun τ3 e3 => ⟨by rw [e3]; exact va_up_self _ _ _, fun τ e => ?_⟩⟩
  have e' : τ = xsr (xsi (xnew σ p 1) 16 p 0) 17 p (some (xz σ)) := by rw [e, e3]; rfl
  obtain ⟨a, b, c, d⟩ := yI_newL I hp ht e'
  refine kk τ a b c d (fun f x hx => ?_) (fun x => by rw [e']; rfl) (fun i => ?_)
  · rw [e']
    show (if f = 16 then va_up (va_up (xi σ 16) p 0) p 0 else va_up (xi σ f) p 0) x = _
    by_cases q : f = 16
    · rw [if_pos q, va_up_ne _ _ hx, va_up_ne _ _ hx, q]
    · rw [if_neg q, va_up_ne _ _ hx]
  · have ng : g 1 ≠ p := fun q => by have := (yg1 I).2.1; rw [q, hp] at this; omega
    have : xr τ 17 (g 1) = xr σ 17 (g 1) := by
      rw [e']
      show va_up (va_up (xr σ 17) p none) p (some (xz σ)) (g 1) = _
      rw [va_up_ne _ _ ng, va_up_ne _ _ ng]
    unfold xe
    rw [this, e']
    rfl
/-- a reach has a boom -/
theorem yI_boom {s : sz_T} {g κ : Nat → Nat} {B n : Nat} {σ : kx_S} {r R : Nat} (J : yJ_ s g κ B n σ) (hr : (r : Int) < s.1.1.toInt) (e : xe σ (g 1) r = some R) (hb : xr σ 172 R ≠ none) : yJ_ (s.1, s.2.1, s.2.2.1, s.2.2.2.1, s.2.2.2.2.1, upd s.2.2.2.2.2 r 1) g κ B n σ := by
  have S := J.2.2.2.2
  have e1 : xi σ 18 (g 1) = s.1.1 := congrArg (fun p => p.1) S.1
  refine ⟨J.1, J.2.1, J.2.2.1, J.2.2.2.1, S.1, fun q hq => ?_, fun q hq => ?_, S.2.2.2⟩
  · obtain ⟨R2, oe, o1, o2, o3, o4, o5, o6⟩ := S.2.1 q hq
    refine ⟨R2, oe, o1, o2, o3, o4, o5, ?_⟩
    show xr σ 172 R2 = none ↔ upd s.2.2.2.2.2 r 1 q = 0
    by_cases c : q = r
    · rw [c] at oe
      rw [e] at oe
      rw [← Option.some.inj oe, c, ku_self]
      exact ⟨fun x => absurd x hb, fun x => absurd x (by decide)⟩
    · rw [ku_ne c]; exact o6
  · obtain ⟨z1, z2, z3, z4, z5⟩ := S.2.2.1 q hq
    have hq' : s.1.1.toInt ≤ (q : Int) := by rw [← e1]; exact hq
    exact ⟨z1, z2, z3, z4, by show upd s.2.2.2.2.2 r 1 q = 0; rw [ku_ne (by omega)]; exact z5⟩
theorem yI_172 {s : sz_T} {g κ : Nat → Nat} {B n : Nat} {σ : kx_S} {r R p : Nat} (J : yJ_ s g κ B n σ) (hr : (r : Int) < s.1.1.toInt) (e : xe σ (g 1) r = some R) (hp : xt σ p = 2) : yJ_ (s.1, s.2.1, s.2.2.1, s.2.2.2.1, s.2.2.2.2.1, upd s.2.2.2.2.2 r 1) g κ B n (xsr σ 172 R (some p)) := by
  have S := J.2.2.2.2
  have e1 : xi σ 18 (g 1) = s.1.1 := congrArg (fun p => p.1) S.1
  have o0 := yS_at S hr e
  refine ⟨J.1, fun a ha => ?_, J.2.2.1, J.2.2.2.1, S.1, fun q hq => ?_, fun q hq => ?_, S.2.2.2⟩
  · obtain ⟨p2, p3, p4, p5, p6, p7, p10, p11, p12⟩ := J.2.1 a ha
    refine ⟨p2, p3, p4, p5, p6, p7, fun t => ⟨(p10 t).1, (p10 t).2.1, ?_⟩, p11, p12⟩
    show va_up (xr σ 172) R (some p) a = none ∨ ∃ h, va_up (xr σ 172) R (some p) a = some h ∧ xt σ h = 2
    by_cases c : a = R
    · rw [c, va_up_self]; exact .inr ⟨p, rfl, hp⟩
    · rw [va_up_ne _ _ c]; exact (p10 t).2.2
  · obtain ⟨R2, oe, o1, o2, o3, o4, o5, o6⟩ := S.2.1 q hq
    refine ⟨R2, oe, o1, o2, o3, o4, o5, ?_⟩
    show va_up (xr σ 172) R (some p) R2 = none ↔ upd s.2.2.2.2.2 r 1 q = 0
    by_cases c : q = r
    · rw [c] at oe
      rw [e] at oe
      rw [← Option.some.inj oe, c, ku_self, va_up_self]
      exact ⟨fun x => (by cases x), fun x => absurd x (by decide)⟩
    · have ne : R2 ≠ R := fun x => by
        have t := o0.1
        rw [← x] at t
        omega
      rw [ku_ne c, va_up_ne _ _ ne]; exact o6
  · obtain ⟨z1, z2, z3, z4, z5⟩ := S.2.2.1 q hq
    have hq' : s.1.1.toInt ≤ (q : Int) := by rw [← e1]; exact hq
    exact ⟨z1, z2, z3, z4, by show upd s.2.2.2.2.2 r 1 q = 0; rw [ku_ne (by omega)]; exact z5⟩
theorem rx_boom39 {k : Nat} {s : sz_T} {g κ : Nat → Nat} {B n : Nat} {σ : kx_S} {R a : Nat} {m w : Int32} {QX : String → kx_S → Prop} (J : yJ_ s g κ B n σ) (hn : n ≤ 5 + 13 * s.1.1.toNatClampNeg + 2 * yc_ s.2.2.2.2.2 10) (hB : B ≤ 15 + 26 * s.1.1.toNatClampNeg + 3 * (k + 1)) (hR : xt σ R = 10) (ea : xr σ 172 R = some a) (ta : xt σ a = 2) (hw : w.toInt ≤ 100) : wX11_boom_39 (qz_ k (g 0) (g 10) (0, 1, s)) QX m w R σ := by
  refine ⟨hR, a, ea, ta, fun τ1 e1 => ⟨a, by rw [e1]; exact ea, by rw [e1]; exact ta, fun τ2 e2 => ⟨rfl, rfl, ?_⟩⟩⟩
  rw [e2, e1]
  exact yZ_of (yI_35 hw (yI_si (by decide) J)) hn hB
theorem rx_boom {k : Nat} {s : sz_T} {L O : Nat} {σ : kx_S} {r m w : Int32} (hk : k < 600) (Z : yZ_ k s L O σ) : wX11_boom L r m w σ (qz_ k L O (z_boom r w s)) (qe_ k L O pz_N (z_boom r w s)) := by
  obtain ⟨g, κ, B, n, eg, eO, J, hn, hB⟩ := Z
  subst eg
  subst eO
  have b := yB_ J hk hn hB
  have hB' : B ≤ 15 + 26 * s.1.1.toNatClampNeg + 3 * (k + 1) := by omega
  have hB3 : B ≤ 3000 := by omega
  have hn2 : n ≤ 200 := by omega
  have ids := yG_idx J
  have z100 : (100 : Int32).toInt = 100 := by decide
  refine ⟨yg0 J, ?_⟩
  refine rx_reachAt J hB3 hn2 (fun hz R eR tR => ?_) (fun hz => ?_)
  rotate_left
  · unfold z_boom
    rw [if_neg hz]
    exact ⟨rfl, rfl, yZ_bump J hn hB⟩
  have hr : ((r.toNatClampNeg : Nat) : Int) < s.1.1.toInt := by rw [ki_nat]; have := hz.1; have := hz.2; omega
  have r10 : r.toNatClampNeg < 10 := by
    have := J.2.2.2.2.2.2.2.1
    rw [ids.1] at this
    omega
  have o := yS_at J.2.2.2.2 hr eR
  unfold z_boom
  rw [if_pos hz]
  refine rx_within (fun d => ⟨fun x => absurd rfl x, fun _ => ?_⟩) (fun c1 c2 => ⟨fun _ => ⟨tR, fun a ea => ?_, fun en => ⟨ry_room J.1 hB3 hn2, fun p hp hpz τ1 e1 => ?_⟩⟩, fun x => absurd x (by decide)⟩)
  · rw [ki_z1, z100] at d
    rw [if_pos (by rw [ki_lt, ki_le, ki_z1, z100]; omega)]
    exact ⟨rfl, rfl, yZ_of J hn hB'⟩
  · rw [ki_z1] at c1
    rw [z100] at c2
    rw [if_neg (by rw [ki_lt, ki_le, ki_z1, z100]; omega)]
    have ta : xt σ a = 2 := by
      rcases (yp10 J tR).2.2 with h | ⟨h, h1, h2⟩
      · rw [ea] at h; cases h
      · rw [ea] at h1; rw [Option.some.inj h1]; exact h2
    have nb0 : s.2.2.2.2.2 r.toNatClampNeg ≠ 0 := fun x => by have := o.2.2.2.2.2.2 x; rw [ea] at this; cases this
    have J2 := yI_boom J hr eR (by rw [ea]; exact fun x => by cases x)
    have ey : yc_ (upd s.2.2.2.2.2 r.toNatClampNeg 1) 10 = yc_ s.2.2.2.2.2 10 := yc_eq 10 (fun q _ => by
      by_cases c : q = r.toNatClampNeg
      · rw [c, ku_self]; exact ⟨fun x => absurd x (by decide), fun x => absurd x nb0⟩
      · rw [ku_ne c])
    exact rx_boom39 J2 (by show n ≤ 5 + 13 * s.1.1.toNatClampNeg + 2 * yc_ (upd s.2.2.2.2.2 r.toNatClampNeg 1) 10; rw [ey]; exact hn) hB' tR ea ta c2
  · rw [ki_z1] at c1
    rw [z100] at c2
    rw [if_neg (by rw [ki_lt, ki_le, ki_z1, z100]; omega)]
    have b0 : s.2.2.2.2.2 r.toNatClampNeg = 0 := o.2.2.2.2.2.1 en
    have ey : yc_ (upd s.2.2.2.2.2 r.toNatClampNeg 1) 10 = yc_ s.2.2.2.2.2 10 + 1 := yc_up b0 (by decide) 10 r10
    have hp0 : p ≠ g 0 := fun e => by have := yg0 J; rw [← e, hp] at this; omega
    have I1 : yI_ s (fun a => False ∨ a = p) g κ (B + 1) n τ1 := by rw [e1]; exact yI_new J hp hpz (by decide)
    have F1 : fg_ σ τ1 := by rw [e1]; exact fg_new hp
    have tp1 : xt τ1 p = 2 := by rw [e1]; exact va_up_self _ _ _
    have x1 : ∀ i, xe τ1 (g 1) i = xe σ (g 1) i := fun i => by
      have ng : g 1 ≠ p := fun q => by have := (yg1 J).2.1; rw [q, hp] at this; omega
      unfold xe
      have : xr τ1 17 (g 1) = xr σ 17 (g 1) := by rw [e1]; exact va_up_ne _ _ ng
      rw [this, e1]
      rfl
    clear e1
    refine ⟨ry_room I1.1 (by omega) hn2, fun q hq hqz => ?_⟩
    refine rx_newList (t := 8) I1 hq (.inr (.inr (.inr (.inl rfl)))) (fun τ2 I2 F2 tq2 _ _ _ x2 => ?_)
    have tp2 := fg_tag F2 tp1 (by decide)
    refine ⟨tp2, fun τ3 e3 => ?_⟩
    have I3 : yI_ s (fun a => False ∨ a = p) g (va_up κ q 8) (B + 1 + 1) (n + 1) τ3 := by rw [e3]; exact yI_srE I2 (.inr rfl) (by decide) (by decide) hp0
    have tp3 : xt τ3 p = 2 := by rw [e3]; exact tp2
    have tq3 : xt τ3 q = 1 := by rw [e3]; exact tq2
    have r3 : xr τ3 32 p = some q := by rw [e3]; exact va_up_self _ _ _
    have F3 : fg_ σ τ3 := by rw [e3]; exact fg_srN (fg_trans F1 F2) hp
    have x3 : ∀ i, xe τ3 (g 1) i = xe σ (g 1) i := fun i => by
      rw [e3]
      show xe τ2 (g 1) i = _
      rw [x2, x1]
    clear e3
    have q2 : q ≠ g 2 := fun e => by have := (yg2 I1).2.1; rw [← e, hq] at this; omega
    refine ⟨ry_room I3.1 (by omega) (by omega), fun u hu huz => ?_⟩
    refine rx_newList (t := 9) I3 hu (.inr (.inr (.inr (.inr (.inl rfl))))) (fun τ4 I4 F4 tu4 _ _ _ x4 => ?_)
    have tp4 := fg_tag F4 tp3 (by decide)
    refine ⟨tp4, fun τ5 e5 => ?_⟩
    have I5 : yI_ s (fun a => False ∨ a = p) g (va_up (va_up κ q 8) u 9) (B + 1 + 1 + 1) (n + 1 + 1) τ5 := by rw [e5]; exact yI_srE I4 (.inr rfl) (by decide) (by decide) hp0
    have tp5 : xt τ5 p = 2 := by rw [e5]; exact tp4
    have tu5 : xt τ5 u = 1 := by rw [e5]; exact tu4
    have tq5 : xt τ5 q = 1 := by rw [e5]; show xt τ4 q = 1; exact fg_tag F4 tq3 (by decide)
    have r5 : xr τ5 33 p = some u := by rw [e5]; exact va_up_self _ _ _
    have r5' : xr τ5 32 p = some q := by rw [e5]; show xr τ4 32 p = some q; exact fg_ref F4 tp3 (by decide) (by decide) r3
    have F5 : fg_ σ τ5 := by rw [e5]; exact fg_srN (fg_trans F3 F4) hp
    have x5 : ∀ i, xe τ5 (g 1) i = xe σ (g 1) i := fun i => by
      rw [e5]
      show xe τ4 (g 1) i = _
      rw [x4, x3]
    clear e5
    have u5 : u ≠ g 5 := fun e => by have := (yg5 I3).2.1; rw [← e, hu] at this; omega
    have qu : q ≠ u := fun e => by rw [e, hu] at tq3; omega
    have J5 : yJ_ s g (va_up (va_up κ q 8) u 9) (B + 1 + 1 + 1) (n + 1 + 1) τ5 := ⟨I5.1, yP_add I5.2.1 tp5 (fun _ => ⟨⟨q, r5', tq5, by rw [va_up_ne _ _ qu, va_up_self], q2⟩, u, r5, tu5, va_up_self _ _ _, u5⟩) (fun x => absurd x (by decide)) (fun x => absurd x (by decide)) (fun x => absurd x (by decide)) (fun x => absurd x (by decide)) (.inl rfl), I5.2.2⟩
    refine ⟨fg_tag F5 tR (by decide), fun τ6 e6 => ?_⟩
    have J6 : yJ_ (s.1, s.2.1, s.2.2.1, s.2.2.2.1, s.2.2.2.2.1, upd s.2.2.2.2.2 r.toNatClampNeg 1) g (va_up (va_up κ q 8) u 9) (B + 1 + 1 + 1) (n + 1 + 1) τ6 := by
      rw [e6]
      exact yI_172 J5 hr (by rw [x5]; exact eR) tp5
    refine rx_boom39 J6 ?_ ?_ (by rw [e6]; show xt τ5 R = 10; exact fg_tag F5 tR (by decide)) (by rw [e6]; exact va_up_self _ _ _) (by rw [e6]; exact tp5) c2
    · show n + 1 + 1 ≤ 5 + 13 * s.1.1.toNatClampNeg + 2 * yc_ (upd s.2.2.2.2.2 r.toNatClampNeg 1) 10
      rw [ey]; omega
    · show B + 1 + 1 + 1 ≤ 15 + 26 * s.1.1.toNatClampNeg + 3 * (k + 1)
      omega
end
section
theorem xe_new {σ : kx_S} {p t l i : Nat} (h : l ≠ p) : xe (xnew σ p t) l i = xe σ l i := by
  unfold xe
  have : xr (xnew σ p t) 17 l = xr σ 17 l := va_up_ne _ _ h
  rw [this]
  rfl
theorem yI_160 {s : sz_T} {E : Nat → Prop} {g κ : Nat → Nat} {B n : Nat} {σ : kx_S} {p : Nat} {v : Int32} (I : yI_ s E g κ B n σ) (hp : ∀ r : Nat, (r : Int) < (xi σ 18 (g 1)).toInt → xe σ (g 1) r ≠ some p) : yI_ s E g κ B n (xsi σ 160 p v) := by
  have S := I.2.2.2.2
  refine ⟨I.1, I.2.1, I.2.2.1, I.2.2.2.1, S.1, fun q hq => ?_, S.2.2⟩
  obtain ⟨R2, oe, o1, o2⟩ := S.2.1 q hq
  refine ⟨R2, oe, ?_, o2⟩
  show (va_up (xi σ 160) p v R2).toInt = (q : Int)
  rw [va_up_ne _ _ (fun e => hp q hq (by rw [← e]; exact oe))]
  exact o1
/-- a reach that is made, not yet among the others: c cells so far -/
def yq_ (g κ : Nat → Nat) (l p : Nat) (c v : Int32) (σ : kx_S) : Prop := xt σ p = 10 ∧ xr σ 163 p = some l ∧ xt σ l = 1 ∧ κ l = 3 ∧ xi σ 18 l = c ∧ xi σ 160 p = v ∧ xi σ 165 p = 0 ∧ xi σ 168 p = 0 ∧ xi σ 164 p = 0 ∧ xi σ 171 p = 0 ∧ xr σ 172 p = none
theorem rx_newCell {s : sz_T} {g κ : Nat → Nat} {B n : Nat} {σ : kx_S} {l p : Nat} {c v cr : Int32} {Q : kx_S → Prop} (J : yJ_ s g κ B n σ) (hB : B + 2 ≤ 3000) (hn : n + 1 ≤ 200) (Y : yq_ g κ l p c v σ) (hc : c.toInt < 12) (hcr : cr.toInt ≤ 20) (kk : ∀ κ' τ, yJ_ s g κ' (B + 1 + 1) (n + 1) τ → yq_ g κ' l p (c + 1) v τ → Q τ) : xc σ < kx_N ∧ ∀ p13, xt σ p13 = 0 → p13 ≠ xz σ → ∀ σ16, σ16 = xnew σ p13 3 → wX1_init p13 cr σ16 (fun σ18 => xt σ18 l = 1 ∧ wJx4a65c_add_9ea2d l p13 σ18 (fun r20 σ19 => Q σ19)) := by
  obtain ⟨y1, y2, y3, y4, y5, y6, y7, y8, y9, y10, y11⟩ := Y
  refine ⟨ry_room J.1 (by omega) (by omega), fun q hq hqz τ1 e1 => ?_⟩
  have q0 : q ≠ g 0 := fun e => by have := yg0 J; rw [← e, hq] at this; omega
  have ql : l ≠ q := fun e => by rw [e, hq] at y3; omega
  have qp : p ≠ q := fun e => by rw [e, hq] at y1; omega
  have I1 : yI_ s (fun a => False ∨ a = q) g κ (B + 1) n τ1 := by rw [e1]; exact yI_new J hq hqz (by decide)
  have F1 : fg_ σ τ1 := by rw [e1]; exact fg_new hq
  have tq1 : xt τ1 q = 3 := by rw [e1]; exact va_up_self _ _ _
  have i1 : ∀ f a, a ≠ q → xi τ1 f a = xi σ f a := fun f a ha => by rw [e1]; exact va_up_ne _ _ ha
  clear e1
  refine ⟨tq1, fun τ2 e2 => ?_⟩
  have I2 : yI_ s (fun a => False ∨ a = q) g κ (B + 1) n τ2 := by rw [e2]; exact yI_48 hcr I1
  have F2 : fg_ σ τ2 := by rw [e2]; exact fg_siN F1
  have tq2 : xt τ2 q = 3 := by rw [e2]; exact tq1
  have i2 : ∀ f a, a ≠ q → xi τ2 f a = xi σ f a := fun f a ha => by
    rw [e2, ← i1 f a ha]
    exact xup_ne τ1.2.1 ha
  clear e2
  refine ⟨ry_room I2.1 (by omega) (by omega), fun u hu huz => ?_⟩
  have u2 : u ≠ g 2 := fun e => by have := (yg2 I2).2.1; rw [← e, hu] at this; omega
  have ul : l ≠ u := fun e => by have := fg_tag F2 y3 (by decide); rw [e, hu] at this; omega
  have up : p ≠ u := fun e => by have := fg_tag F2 y1 (by decide); rw [e, hu] at this; omega
  refine rx_newList (t := 8) I2 hu (.inr (.inr (.inr (.inl rfl)))) (fun τ3 I3 F3 tu3 _ i3 _ _ => ?_)
  refine ⟨fg_tag F3 tq2 (by decide), fun τ4 e4 => ?_⟩
  have I4 : yI_ s (fun a => False ∨ a = q) g (va_up κ u 8) (B + 1 + 1) (n + 1) τ4 := by rw [e4]; exact yI_srE I3 (.inr rfl) (by decide) (by decide) q0
  have tq4 : xt τ4 q = 3 := by rw [e4]; show xt τ3 q = 3; exact fg_tag F3 tq2 (by decide)
  have tu4 : xt τ4 u = 1 := by rw [e4]; exact tu3
  have r4 : xr τ4 49 q = some u := by rw [e4]; exact va_up_self _ _ _
  have F4 : fg_ σ τ4 := by rw [e4]; exact fg_srN (fg_trans F2 F3) hq
  have i4 : ∀ f a, a ≠ q → a ≠ u → xi τ4 f a = xi σ f a := fun f a h1 h2 => by
    rw [e4]
    show xi τ3 f a = _
    rw [i3 f a h2, i2 f a h1]
  clear e4
  have J4 : yJ_ s g (va_up κ u 8) (B + 1 + 1) (n + 1) τ4 := ⟨I4.1, yP_add I4.2.1 tq4 (fun x => absurd x (by decide)) (fun _ => ⟨u, r4, tu4, va_up_self _ _ _, u2⟩) (fun x => absurd x (by decide)) (fun x => absurd x (by decide)) (fun x => absurd x (by decide)) (.inr (.inl rfl)), I4.2.2⟩
  clear I4
  have tl4 := fg_tag F4 y3 (by decide)
  have kl : va_up κ u 8 l = 3 := by rw [va_up_ne _ _ ul]; exact y4
  have s4 : xi τ4 18 l = c := by rw [i4 18 l ql ul]; exact y5
  have c0 := (ry_size J4.1 tl4).1
  rw [s4] at c0
  have inc := ki_inc (a := c) (by omega) (by omega)
  have bl : (xi τ4 18 l).toInt < (ylb g l : Int) := by
    have : ylb g l ≥ 100 := by unfold ylb; split <;> omega
    rw [s4]; omega
  refine ⟨tl4, ?_⟩
  refine ry_add J4.1 (by omega) hn tl4 (by rw [tq4, kl]) bl (fun τ5 L5 A5 => ?_)
  have og : ∀ i, va_up κ u 8 (g i) ≠ 3 → xi τ5 18 (g i) = xi τ4 18 (g i) := fun i h => by
    rw [A5.2.2.2.1, va_up_ne _ _ (fun e => h (by rw [e]; exact kl))]
  have p1 := og 1 (by rw [(yg1 J4).2.2]; decide)
  have p2 := og 2 (by rw [(yg2 J4).2.2]; decide)
  have p3 := og 3 (by rw [(yg3 J4).2.2]; decide)
  have p4 := og 4 (by rw [(yg4 J4).2.2]; decide)
  have p5 := og 5 (by rw [(yg5 J4).2.2]; decide)
  have SS := J4.2.2.2.2.2.2.2
  have ids := yG_idx J4
  have S5 := yS_add J4 A5 (fun e => by have := (yg1 J4).2.2; rw [← e, kl] at this; cases this) (by rw [p3]; exact SS.2.1) (by rw [p4]; exact SS.2.2.1) (by rw [p5]; exact SS.2.2.2)
  have I5 := yI_tr2 J4 L5 A5 S5 (yK9_same J4 A5 (by rw [kl]; decide))
  rw [p2, p4, p5, ids.2.1, ids.2.2.1, ids.2.2.2.1] at I5
  have iz : ∀ f, f ≠ 16 → f ≠ 18 → xi τ5 f p = xi σ f p := fun f h1 h2 => by rw [A5.2.2.1 f h1 h2, i4 f p qp up]
  have F5 := fg_trans F4 A5.1
  refine kk (va_up κ u 8) τ5 I5 ⟨fg_tag F5 y1 (by decide), fg_ref F5 y1 (by decide) (by decide) y2, fg_tag F5 y3 (by decide), kl, ?_, (iz 160 (by decide) (by decide)).trans y6, (iz 165 (by decide) (by decide)).trans y7, (iz 168 (by decide) (by decide)).trans y8, (iz 164 (by decide) (by decide)).trans y9, (iz 171 (by decide) (by decide)).trans y10, fg_ref F5 y1 (by decide) (by decide) y11⟩
  rw [A5.2.2.2.1, va_up_self, s4]
/-- a reach among the others -/
theorem rx_reachIn {k : Nat} {s : sz_T} {g κ : Nat → Nat} {B n : Nat} {σ : kx_S} {l p : Nat} {c : Int32} {z : Int32 × Int32 × sz_T} (J : yJ_ s g κ B n σ) (hz : z = (0, s.1.1, ((s.1.1 + 1, s.1.2), s.2))) (h10 : s.1.1.toInt < 10) (hB : B ≤ 15 + 26 * (s.1.1.toNatClampNeg + 1) + 3 * (k + 1)) (hn : n ≤ 5 + 13 * (s.1.1.toNatClampNeg + 1) + 2 * yc_ s.2.2.2.2.2 10) (hB3 : B ≤ 3000) (hn2 : n ≤ 200) (Y : yq_ g κ l p c s.1.1 σ) : wX11_reach_148 (qz_ k (g 0) (g 10) z) (g 0) p σ := by
  subst hz
  obtain ⟨y1, y2, y3, y4, y5, y6, y7, y8, y9, y10, y11⟩ := Y
  have G1 := yg1 J
  have ids := yG_idx J
  have sz := ry_size J.1 G1.2.1
  rw [ids.1] at sz
  obtain ⟨N, eN⟩ : ∃ N, N = s.1.1 := ⟨_, rfl⟩
  rw [← eN] at sz h10
  have inc := ki_inc (a := N) (by omega) (by omega)
  have ne := yG_ne J.2.2.1
  refine ⟨yg0 J, g 1, G1.1, G1.2.1, ?_⟩
  have bl : (xi σ 18 (g 1)).toInt < (ylb g (g 1) : Int) := by
    unfold ylb
    rw [if_neg ne.1, ids.1, ← eN]
    omega
  refine ry_add J.1 hB3 hn2 G1.2.1 (by rw [y1, G1.2.2]) bl (fun τ L A => ?_)
  obtain ⟨F, T, i0, i18, r0, x0, x1, l0⟩ := id A
  have q2 : xi τ 18 (g 2) = s.1.2.1 := by rw [i18, va_up_ne _ _ (fun e => ne.1 e.symm)]; exact ids.2.1
  have q3 : xi τ 18 (g 3) = xi σ 18 (g 3) := by rw [i18, va_up_ne _ _ (fun e => ne.2.1 e.symm)]
  have q4 : xi τ 18 (g 4) = s.1.2.2.1 := by rw [i18, va_up_ne _ _ (fun e => ne.2.2.1 e.symm)]; exact ids.2.2.1
  have q5 : xi τ 18 (g 5) = s.1.2.2.2.1 := by rw [i18, va_up_ne _ _ (fun e => ne.2.2.2.1 e.symm)]; exact ids.2.2.2.1
  have q1 : xi τ 18 (g 1) = N + 1 := by rw [i18, va_up_self, ids.1, eN]
  have S := J.2.2.2.2
  have SS := S.2.2.2
  have S' : yS_ ((s.1.1 + 1, s.1.2), s.2) g τ := by
    refine ⟨?_, fun r hr => ?_, fun r hr => ?_, ?_, by rw [q3]; exact SS.2.1, ?_, ?_⟩
    · rw [q1, q2, q4, q5, i0 177 (by decide) (by decide), i0 217 (by decide) (by decide), ids.2.2.2.2.1, ids.2.2.2.2.2, eN]
    · rw [q1, inc] at hr
      show ∃ R, xe τ (g 1) r = some R ∧ (xi τ 160 R).toInt = (r : Int) ∧ xi τ 165 R = s.2.1 r ∧ xi τ 168 R = s.2.2.1 r ∧ xi τ 164 R = s.2.2.2.1 r ∧ xi τ 171 R = s.2.2.2.2.1 r ∧ (xr τ 172 R = none ↔ s.2.2.2.2.2 r = 0)
      rw [i0 160 (by decide) (by decide), i0 165 (by decide) (by decide), i0 168 (by decide) (by decide), i0 164 (by decide) (by decide), i0 171 (by decide) (by decide), r0 172 (by decide)]
      by_cases e : (r : Int) = N.toInt
      · have er : r = (xi σ 18 (g 1)).toNatClampNeg := by rw [ids.1, ← eN, ki_nat]; omega
        obtain ⟨z1, z2, z3, z4, z5⟩ := S.2.2.1 r (by rw [ids.1, ← eN]; omega)
        exact ⟨p, by rw [er]; exact x1, by rw [y6, ← eN, e], y7.trans z1.symm, y8.trans z2.symm, y9.trans z3.symm, y10.trans z4.symm, ⟨fun _ => z5, fun _ => y11⟩⟩
      · have hr2 : (r : Int) < (xi σ 18 (g 1)).toInt := by rw [ids.1, ← eN]; omega
        obtain ⟨R, o1, o2⟩ := S.2.1 r hr2
        exact ⟨R, by rw [x0 (g 1) G1.2.1 r hr2]; exact o1, o2⟩
    · rw [q1, inc] at hr
      exact S.2.2.1 r (by rw [ids.1, ← eN]; omega)
    · rw [q1, inc]; omega
    · rw [q4, ← ids.2.2.1]; exact SS.2.2.1
    · rw [q5, ← ids.2.2.2.1]; exact SS.2.2.2
  have I' := yI_tr2 J L A S' (yK9_same J A (by rw [G1.2.2]; decide))
  have hN : (s.1.1 + 1).toNatClampNeg = s.1.1.toNatClampNeg + 1 := by
    rw [← eN, ki_nat, ki_nat, inc]
    omega
  refine ⟨fg_tag F y1 (by decide), rfl, ?_, yZ_of I' ?_ ?_⟩
  · rw [i0 160 (by decide) (by decide), y6]
  · show n ≤ 5 + 13 * (s.1.1 + 1).toNatClampNeg + 2 * yc_ s.2.2.2.2.2 10
    rw [hN]; exact hn
  · show B ≤ 15 + 26 * (s.1.1 + 1).toNatClampNeg + 3 * (k + 1)
    rw [hN]; exact hB
theorem rx_reach90 {k : Nat} {s : sz_T} {g κ : Nat → Nat} {B n : Nat} {σ : kx_S} {ln cr jm : Int32} {bw : Option Nat} {z : Int32 × Int32 × sz_T} (J : yJ_ s g κ B n σ) (hz : z = (0, s.1.1, ((s.1.1 + 1, s.1.2), s.2))) (h10 : s.1.1.toInt < 10) (hB : B ≤ 15 + 26 * s.1.1.toNatClampNeg + 3 * k) (hn : n ≤ 5 + 13 * s.1.1.toNatClampNeg + 2 * yc_ s.2.2.2.2.2 10) (hB3 : B ≤ 2100) (hn2 : n ≤ 155) (hl : ln.toInt ≤ 12) (hl0 : 1 ≤ ln.toInt) (hcr : cr.toInt ≤ 20) (hbw : bw = none ∨ ∃ h, bw = some h ∧ xt σ h = 10) : wX11_reach_90 (qz_ k (g 0) (g 10) z) (g 0) ln cr jm bw σ := by
  refine ⟨ry_room J.1 (by omega) (by omega), fun p hp hpz τ1 e1 => ?_⟩
  have p0 : p ≠ g 0 := fun e => by have := yg0 J; rw [← e, hp] at this; omega
  have p1 : g 1 ≠ p := fun e => by have := (yg1 J).2.1; rw [e, hp] at this; omega
  have I1 : yI_ s (fun a => False ∨ a = p) g κ (B + 1) n τ1 := by rw [e1]; exact yI_new J hp hpz (by decide)
  have F1 : fg_ σ τ1 := by rw [e1]; exact fg_new hp
  have tp1 : xt τ1 p = 10 := by rw [e1]; exact va_up_self _ _ _
  have i1 : ∀ f, xi τ1 f p = 0 := fun f => by rw [e1]; exact va_up_self _ _ _
  have r1 : ∀ f, xr τ1 f p = none := fun f => by rw [e1]; exact va_up_self _ _ _
  have np : ∀ r : Nat, (r : Int) < (xi τ1 18 (g 1)).toInt → xe τ1 (g 1) r ≠ some p := by
    intro r hr q
    rw [e1, xe_new p1] at q
    have hr2 : (r : Int) < (xi σ 18 (g 1)).toInt := by
      rw [e1] at hr
      have : xi (xnew σ p 10) 18 (g 1) = xi σ 18 (g 1) := va_up_ne _ _ p1
      rw [this] at hr
      exact hr
    obtain ⟨y, ey, ty⟩ := ry_el J.1 (yg1 J).2.1 hr2
    rw [q] at ey
    rw [← Option.some.inj ey, hp, (yg1 J).2.2] at ty
    cases ty
  clear e1
  have ids1 := yG_idx I1
  refine ⟨yg0 I1, g 1, (yg1 I1).1, (yg1 I1).2.1, (yg1 I1).2.1, tp1, fun τ2 e2 τ4 e4 τ6 e6 => ?_⟩
  have I6 : yI_ s (fun a => False ∨ a = p) g κ (B + 1) n τ6 := by
    rw [e6, e4, e2]
    exact yI_si (by decide) (yI_srE (yI_160 I1 np) (.inr rfl) (by decide) (by decide) p0)
  have F6 : fg_ σ τ6 := by rw [e6, e4, e2]; exact fg_siN (fg_srN (fg_siN F1) hp)
  have tp6 : xt τ6 p = 10 := by rw [e6, e4, e2]; exact tp1
  have a160 : xi τ6 160 p = s.1.1 := by
    rw [e6, e4, e2, ← ids1.1]
    exact va_up_self _ _ _
  have a165 : xi τ6 165 p = 0 := by rw [e6, e4, e2]; exact i1 165
  have a168 : xi τ6 168 p = 0 := by rw [e6, e4, e2]; exact i1 168
  have a164 : xi τ6 164 p = 0 := by rw [e6, e4, e2]; exact i1 164
  have a171 : xi τ6 171 p = 0 := by rw [e6, e4, e2]; exact i1 171
  have r161 : xr τ6 161 p = bw := by rw [e6, e4, e2]; exact va_up_self _ _ _
  have r172 : xr τ6 172 p = none := by rw [e6, e4, e2]; exact r1 172
  clear e6 e4 e2 i1 r1 np I1
  refine ⟨ry_room I6.1 (by omega) (by omega), fun u hu huz => ?_⟩
  have up : p ≠ u := fun e => by rw [e, hu] at tp6; omega
  refine rx_newList (t := 3) I6 hu (.inl rfl) (fun τ7 I7 F7 tu7 su7 i7 _ _ => ?_)
  refine ⟨fg_tag F7 tp6 (by decide), fun τ8 e8 => ⟨13, ?_⟩⟩
  have I8 : yI_ s (fun a => False ∨ a = p) g (va_up κ u 3) (B + 1 + 1) (n + 1) τ8 := by rw [e8]; exact yI_srE I7 (.inr rfl) (by decide) (by decide) p0
  have F8 : fg_ σ τ8 := by rw [e8]; exact fg_srN (fg_trans F6 F7) hp
  have tp8 : xt τ8 p = 10 := by rw [e8]; show xt τ7 p = 10; exact fg_tag F7 tp6 (by decide)
  have tu8 : xt τ8 u = 1 := by rw [e8]; exact tu7
  have r163 : xr τ8 163 p = some u := by rw [e8]; exact va_up_self _ _ _
  have r161' : xr τ8 161 p = bw := by rw [e8]; show xr τ7 161 p = bw; exact fg_ref F7 tp6 (by decide) (by decide) r161
  have r172' : xr τ8 172 p = none := by rw [e8]; show xr τ7 172 p = none; exact fg_ref F7 tp6 (by decide) (by decide) r172
  have su8 : xi τ8 18 u = 0 := by rw [e8]; exact su7
  have i8 : ∀ f, xi τ8 f p = xi τ6 f p := fun f => by rw [e8]; show xi τ7 f p = _; exact i7 f p up
  clear e8
  have hbw8 : xr τ8 161 p = none ∨ ∃ h, xr τ8 161 p = some h ∧ xt τ8 h = 10 := by
    rw [r161']
    rcases hbw with h | ⟨h, h1, h2⟩
    · exact .inl h
    · exact .inr ⟨h, h1, fg_tag F8 h2 (by decide)⟩
  have J8 : yJ_ s g (va_up κ u 3) (B + 1 + 1) (n + 1) τ8 := ⟨I8.1, yP_add I8.2.1 tp8 (fun x => absurd x (by decide)) (fun x => absurd x (by decide)) (fun x => absurd x (by decide)) (fun x => absurd x (by decide)) (fun _ => ⟨hbw8, ⟨u, r163, tu8, va_up_self _ _ _⟩, .inl r172'⟩) (by decide), I8.2.2⟩
  have Y8 : yq_ g (va_up κ u 3) u p 0 s.1.1 τ8 := ⟨tp8, r163, tu8, va_up_self _ _ _, su8, (i8 160).trans a160, (i8 165).trans a165, (i8 168).trans a168, (i8 164).trans a164, (i8 171).trans a171, r172'⟩
  clear I8
  have Lp : ∀ (m : Nat) (c : Int32) (κ' : Nat → Nat) (B' n' : Nat) (τ : kx_S), 0 ≤ c.toInt → c.toInt ≤ ln.toInt → ln.toInt - c.toInt < (m : Int) → yJ_ s g κ' B' n' τ → yq_ g κ' u p c s.1.1 τ → (B' : Int) = B + 2 + 2 * c.toInt → (n' : Int) = n + 1 + c.toInt → wX11_reach_117 (wX11_reach_148 (qz_ k (g 0) (g 10) z)) (qz_ k (g 0) (g 10) z) m (g 0) ln cr p c τ := by
    intro m
    induction m with
    | zero => intro c κ' B' n' τ h1 h2 h3; omega
    | succ m ih =>
      intro c κ' B' n' τ h1 h2 h3 J' Y' eB en
      have Y2 := Y'
      obtain ⟨w1, w2, w3, _⟩ := Y2
      refine ⟨fun q => rx_reachIn J' hz h10 (by omega) (by omega) (by omega) (by omega) Y', fun q => ⟨w1, u, w2, ?_⟩⟩
      rw [ki_le] at q
      obtain ⟨c', ec, ii⟩ := ki_incE (a := c) (by omega) (by omega)
      have b1 : 0 ≤ c'.toInt := by omega
      have b2 : c'.toInt ≤ ln.toInt := by omega
      have b3 : ln.toInt - c'.toInt < (m : Int) := by omega
      have b4 : ((B' + 1 + 1 : Nat) : Int) = B + 2 + 2 * c'.toInt := by omega
      have b5 : ((n' + 1 : Nat) : Int) = n + 1 + c'.toInt := by omega
      refine rx_newCell J' (by omega) (by omega) Y' (by omega) hcr (fun κ2 τ2 J2 Y2 w ew => ?_)
      rw [← ec] at Y2
      rw [ew, ← ec]
      exact ih c' κ2 (B' + 1 + 1) (n' + 1) τ2 b1 b2 b3 J2 Y2 b4 b5
  have fin := Lp 13 0 _ _ _ τ8 (by decide) (by rw [ki_z0]; omega) (by rw [ki_z0]; omega) J8 Y8 (by rw [ki_z0]; omega) (by rw [ki_z0]; omega)
  exact fin
theorem rx_reach {k : Nat} {s : sz_T} {L O : Nat} {σ : kx_S} {nx ln cr jm : Int32} (hk : k < 600) (Z : yZ_ k s L O σ) : wX11_reach L nx ln cr jm σ (qz_ k L O (z_reach nx ln cr jm s)) := by
  obtain ⟨g, κ, B, n, eg, eO, J, hn, hB⟩ := Z
  subst eg
  subst eO
  have b := yB_ J hk hn hB
  have hB' : B ≤ 15 + 26 * s.1.1.toNatClampNeg + 3 * (k + 1) := by omega
  have G1 := yg1 J
  have ids := yG_idx J
  have sz := ry_size J.1 G1.2.1
  have b10 := J.2.2.2.2.2.2.2.1
  obtain ⟨N, eN⟩ : ∃ N, N = xi σ 18 (g 1) := ⟨_, rfl⟩
  rw [← eN] at sz b10 ids
  have z10 : (10 : Int32).toInt = 10 := by decide
  have z12 : (12 : Int32).toInt = 12 := by decide
  have z20 : (20 : Int32).toInt = 20 := by decide
  have z1000 : (1000 : Int32).toInt = 1000 := by decide
  have no : (s.1.1 = 10 ∨ nx < -1 ∨ s.1.1 ≤ nx ∨ ln < 1 ∨ 12 < ln ∨ cr < 1 ∨ 20 < cr ∨ jm < 0 ∨ ¬ jm ≤ 1000) → qz_ k (g 0) (g 10) (z_reach nx ln cr jm s) (-1) σ := fun c => by
    rw [show z_reach nx ln cr jm s = (0, -1, s) from if_pos c]
    exact ⟨rfl, rfl, yZ_of J hn hB'⟩
  obtain ⟨u, eu, dd⟩ := ki_dec2E (a := N) (by omega)
  refine ⟨yg0 J, g 1, G1.1, G1.2.1, G1.2.1, fun c => no (.inl ?_), fun c => ⟨yg0 J, g 1, G1.1, G1.2.1, G1.2.1, ?_⟩⟩
  · rw [← eN, ki_le, z10] at c
    rw [← ids.1]
    exact ki_eq.2 (by rw [z10]; omega)
  rw [← eN, ki_le, z10] at c
  show wX11_isWithin _ _ (xi σ 18 (g 1) - 1) _ _
  rw [← eN, ← eu]
  refine rx_within (fun d => ⟨fun x => absurd rfl x, fun _ => no (.inr ?_)⟩) (fun c1 c2 => ⟨fun _ => ?_, fun x => absurd x (by decide)⟩)
  · rw [ki_zm] at d
    rw [ki_lt, ki_zm, ki_le, ← ids.1]
    by_cases q : nx.toInt < -1
    · exact .inl q
    · exact .inr (.inl (by omega))
  rw [ki_zm] at c1
  refine rx_within (fun d => ⟨fun _ => no (.inr (.inr (.inr ?_))), fun x => absurd rfl x⟩) (fun c3 c4 => ⟨fun x => absurd x (by decide), fun _ => ?_⟩)
  · rw [ki_z1, z12] at d
    rw [ki_lt (b := 1), ki_z1, ki_lt (b := ln), z12]
    by_cases q : ln.toInt < 1
    · exact .inl q
    · exact .inr (.inl (by omega))
  rw [ki_z1] at c3
  rw [z12] at c4
  refine rx_within (fun d => ⟨fun _ => no (.inr (.inr (.inr (.inr (.inr ?_))))), fun x => absurd rfl x⟩) (fun c5 c6 => ⟨fun x => absurd x (by decide), fun _ => ?_⟩)
  · rw [ki_z1, z20] at d
    rw [ki_lt (b := 1), ki_z1, ki_lt (b := cr), z20]
    by_cases q : cr.toInt < 1
    · exact .inl q
    · exact .inr (.inl (by omega))
  rw [ki_z1] at c5
  rw [z20] at c6
  refine rx_within (fun d => ⟨fun x => absurd rfl x, fun _ => no (.inr (.inr (.inr (.inr (.inr (.inr (.inr ?_)))))))⟩) (fun c7 c8 => ⟨fun _ => ?_, fun x => absurd x (by decide)⟩)
  · rw [ki_z0, z1000] at d
    rw [ki_lt, ki_z0, ki_le, z1000]
    by_cases q : jm.toInt < 0
    · exact .inl q
    · exact .inr (by omega)
  rw [ki_z0] at c7
  rw [z1000] at c8
  have hz : z_reach nx ln cr jm s = (0, s.1.1, ((s.1.1 + 1, s.1.2), s.2)) := by
    refine if_neg (fun h => ?_)
    rw [ki_lt, ki_le, ki_lt, ki_lt, ki_lt, ki_lt, ki_lt, ki_le, ki_zm, ki_z1, z12, z20, ki_z0, z1000, ← ids.1] at h
    rcases h with h | h
    · have h' := congrArg Int32.toInt h
      rw [z10] at h'
      omega
    · omega
  have h10 : s.1.1.toInt < 10 := by rw [← ids.1]; omega
  refine ⟨fun _ => rx_reach90 J hz h10 hB hn b.1 b.2 c4 c3 c6 (.inl rfl), fun q => ⟨yg0 J, g 1, G1.1, G1.2.1, ?_⟩⟩
  rw [ki_lt, ki_z0] at q
  refine ry_get J.1 G1.2.1 (by omega) (by rw [← eN]; omega) (fun R _ tR => ?_)
  rw [G1.2.2] at tR
  exact ⟨R, rfl, tR, rx_reach90 J hz h10 hB hn b.1 b.2 c4 c3 c6 (.inr ⟨R, rfl, tR⟩)⟩
end
section
/-! the reader of laws -/
theorem rx_kindOf {v : Int32} {σ : kx_S} {Q : Int32 → kx_S → Prop} (kk : ∀ v, Q v σ) : wX10_kindOf v σ Q := by
  have k28 : wX10_kindOf_28 Q v σ := fun _ _ => ⟨fun _ => kk _, fun _ => kk _, fun _ => kk _, fun _ => kk _, fun _ => kk _, fun _ => kk _, fun _ => kk _, fun _ => kk _, fun _ => kk _, fun _ => kk _, fun _ => kk _, fun _ => kk _, fun _ _ _ _ _ _ _ _ _ _ _ _ => kk _⟩
  have k14 : wX10_kindOf_14 Q v σ := ⟨fun _ => k28, fun _ => ⟨fun _ => k28, fun _ => kk _⟩⟩
  exact ⟨fun _ => k14, fun _ => ⟨fun _ => k14, fun _ => kk _⟩⟩
theorem rx_byteAt {s : sz_T} {g κ : Nat → Nat} {B n : Nat} {σ : kx_S} {t : Nat} {i : Int32} {Q : Int32 → kx_S → Prop} (J : yJ_ s g κ B n σ) (ht : xt σ t = 12) (kk : ∀ v, Q v σ) : wX10_byteAt t i σ Q := by
  obtain ⟨a, a1, a2⟩ := yp12 J ht
  obtain ⟨h, h1, h2, h3⟩ := yp11 J a2
  have e500 : (nI (xn σ h)).toInt = 500 := by rw [h3]; decide
  refine ⟨fun _ => kk _, fun c => ⟨ht, fun _ => kk _, fun _ => ⟨a, a1, a2, h, h1, h2, fun _ => kk _, fun d => ⟨a, a1, a2, h, h1, h2, ?_, kk _⟩⟩⟩⟩
  rw [ki_lt, ki_z0] at c
  rw [ki_le, e500] at d
  rw [ki_in, h3]; omega
theorem rx_endOfRow {s : sz_T} {g κ : Nat → Nat} {B n : Nat} {σ : kx_S} {t : Nat} {i kd : Int32} {Q : Int32 → kx_S → Prop} (J : yJ_ s g κ B n σ) (ht : xt σ t = 12) (kk : ∀ v, Q v σ) : wX10_endOfRow t i kd σ Q := by
  have L : ∀ (m : Nat) (i : Int32), (xi σ 193 t).toInt - i.toInt < (m : Int) → 0 < m → wX10_endOfRow_2 Q m t kd i σ := by
    intro m
    induction m with
    | zero => intro i h1 h2; omega
    | succ m ih =>
      intro i h1 h2
      refine ⟨ht, fun _ => kk _, fun c => ?_⟩
      rw [ki_le] at c
      have hi := ki_hi (xi σ 193 t)
      have lo := ki_lo i
      obtain ⟨i', ei, ii⟩ := ki_incE (a := i) (by omega) (by omega)
      have b1 : (xi σ 193 t).toInt - i'.toInt < (m : Int) := by omega
      have b2 : 0 < m := by omega
      refine rx_byteAt J ht (fun v => ?_)
      refine rx_kindOf (fun w => ⟨fun _ => kk _, fun _ x ex => ?_⟩)
      rw [ex, ← ei]
      exact ih i' b1 b2
  have fin := L (((xi σ 193 t).toInt - i.toInt).toNat + 1) i (by omega) (by omega)
  exact ⟨_, fin⟩
theorem rx_advance {s : sz_T} {g κ : Nat → Nat} {B n : Nat} {σ0 σ : kx_S} {t : Nat} {Q : kx_S → Prop} (K : yW_ s g κ B n σ0 σ) (ht : xt σ t = 12) (kk : ∀ τ, yW_ s g κ B n σ0 τ → Q τ) : wX10_advance t σ Q := by
  refine ⟨ht, ?_⟩
  refine rx_endOfRow K.1 ht (fun v => ⟨ht, fun τ1 e1 => ?_⟩)
  have K1 : yW_ s g κ B n σ0 τ1 := by rw [e1]; exact yW_si (by decide) K
  have t1 : xt τ1 t = 12 := by rw [e1]; exact ht
  clear e1
  refine rx_byteAt K1.1 t1 (fun w => ?_)
  refine rx_kindOf (fun x => ⟨t1, fun τ2 e2 => ?_⟩)
  have K2 : yW_ s g κ B n σ0 τ2 := by rw [e2]; exact yW_si (by decide) K1
  have t2 : xt τ2 t = 12 := by rw [e2]; exact t1
  clear e2
  have k80 : ∀ τ, yW_ s g κ B n σ0 τ → xt τ t = 12 → wX10_advance_80 Q t τ := fun τ K' t' => ⟨t', fun _ => kk τ K', fun _ => ⟨fun _ => kk τ K', fun _ τ3 e3 => by
    rw [e3]
    exact kk _ (yW_si (by decide) K')⟩⟩
  have k44 : wX10_advance_44 (wX10_advance_80 Q) Q t τ2 := by
    refine ⟨t2, ?_⟩
    refine rx_endOfRow K2.1 t2 (fun y => ⟨t2, fun τ3 e3 => ?_⟩)
    rw [e3]
    exact k80 _ (yW_si (by decide) K2) t2
  refine ⟨fun _ => k44, fun _ => ⟨fun _ y _ τ3 e3 => ?_, fun _ => k44⟩⟩
  rw [e3]
  exact k80 _ (yW_si (by decide) K2) t2
theorem rx_isWord {s : sz_T} {g κ : Nat → Nat} {B n : Nat} {σ : kx_S} {t l : Nat} {Q : Int32 → kx_S → Prop} (J : yJ_ s g κ B n σ) (ht : xt σ t = 12) (hl : l < 12) (kk : ∀ v, Q v σ) : wX10_isWord t l σ Q := by
  have L := ks_lens l hl
  refine ⟨ht, fun _ => kk _, fun _ => ⟨hl, fun _ => ?_, fun _ => kk _⟩⟩
  have Lp : ∀ (m : Nat) (i : Int32), 0 ≤ i.toInt → i.toInt ≤ ((ks_len.getD l 0 : Nat) : Int) → ((ks_len.getD l 0 : Nat) : Int) - i.toInt < (m : Int) → wX10_isWord_28 Q m t l i σ := by
    intro m
    induction m with
    | zero => intro i h1 h2 h3; omega
    | succ m ih =>
      intro i h1 h2 h3
      refine ⟨hl, fun _ => kk _, fun c => ⟨ht, ?_⟩⟩
      rw [ki_le, L.1] at c
      obtain ⟨i', ei, ii⟩ := ki_incE (a := i) (by omega) (by omega)
      have b1 : 0 ≤ i'.toInt := by omega
      have b2 : i'.toInt ≤ ((ks_len.getD l 0 : Nat) : Int) := by omega
      have b3 : ((ks_len.getD l 0 : Nat) : Int) - i'.toInt < (m : Int) := by omega
      have b4 : vp_in i (ks_len.getD l 0) := by rw [ki_in]; omega
      refine rx_byteAt J ht (fun v => ⟨hl, b4, fun _ x ex => ?_, fun _ => kk _⟩)
      rw [ex, ← ei]
      exact ih i' b1 b2 b3
  have fin := Lp 7 0 (by decide) (by rw [ki_z0]; omega) (by rw [ki_z0]; omega)
  exact ⟨7, fin⟩
theorem rx_numberValue {s : sz_T} {g κ : Nat → Nat} {B n : Nat} {σ : kx_S} {t : Nat} {Q : Int32 → kx_S → Prop} (J : yJ_ s g κ B n σ) (ht : xt σ t = 12) (kk : ∀ v, Q v σ) : wX10_numberValue t σ Q := by
  refine ⟨ht, fun v _ => ?_⟩
  have L : ∀ (m : Nat) (a i : Int32), (xi σ 194 t).toInt - i.toInt < (m : Int) → 0 < m → wX10_numberValue_7 Q m t a i σ := by
    intro m
    induction m with
    | zero => intro a i h1 h2; omega
    | succ m ih =>
      intro a i h1 h2
      refine ⟨ht, fun _ => kk _, fun c => ?_⟩
      rw [ki_le] at c
      have hi := ki_hi (xi σ 194 t)
      have lo := ki_lo i
      obtain ⟨i', ei, ii⟩ := ki_incE (a := i) (by omega) (by omega)
      have b1 : (xi σ 194 t).toInt - i'.toInt < (m : Int) := by omega
      have b2 : 0 < m := by omega
      refine rx_byteAt J ht (fun w x _ y ey => ?_)
      rw [ey, ← ei]
      exact ih x i' b1 b2
  have fin := L (((xi σ 194 t).toInt - v.toInt).toNat + 1) 0 v (by omega) (by omega)
  exact ⟨_, fin⟩
theorem rx_put {s : sz_T} {g κ : Nat → Nat} {B n : Nat} {σ0 σ : kx_S} {a : Nat} {v : Int32} {Q : kx_S → Prop} (K : yW_ s g κ B n σ0 σ) (ha : xt σ a = 7) (kk : ∀ τ, yW_ s g κ B n σ0 τ → Q τ) : wX5_put a v σ Q := by
  obtain ⟨_, h, h1, h2, h3⟩ := yp7 K.1 ha
  have hn := (K.1.2.2.2.1 a).2.2.2.1 ha
  have e500 : (nI (xn σ h)).toInt = 500 := by rw [h3]; decide
  refine ⟨ha, h, h1, h2, fun _ => kk σ K, fun c => ⟨h, h1, h2, ?_, fun τ1 e1 τ2 e2 => ?_⟩⟩
  · rw [ki_le, e500] at c
    rw [ki_in, h3]; omega
  · rw [ki_le, e500] at c
    have ii := ki_inc (a := xi σ 114 a) (by omega) (by omega)
    rw [e2, e1]
    exact kk _ (yW_114 (by show 0 ≤ (xi σ 114 a + 1).toInt ∧ (xi σ 114 a + 1).toInt ≤ 500; rw [ii]; omega) (yW_sai K))
theorem rx_lfail {s : sz_T} {g κ : Nat → Nat} {B n : Nat} {σ0 σ : kx_S} {a : Nat} {v : Int32} {Q : kx_S → Prop} (K : yW_ s g κ B n σ0 σ) (ha : xt σ a = 7) (kk : ∀ τ, yW_ s g κ B n σ0 τ → Q τ) : wX5_fail a v σ Q := by
  obtain ⟨⟨t, t1, t2⟩, _⟩ := yp7 K.1 ha
  refine ⟨ha, fun _ => kk σ K, fun _ τ1 e1 => ⟨t, by rw [e1]; exact t1, by rw [e1]; exact t2, fun τ2 e2 => ?_⟩⟩
  rw [e2, e1]
  exact kk _ (yW_si (by decide) (yW_si (by decide) K))
theorem rx_pass {s : sz_T} {g κ : Nat → Nat} {B n : Nat} {σ0 σ : kx_S} {a : Nat} {v : Int32} {Q : kx_S → Prop} (K : yW_ s g κ B n σ0 σ) (ha : xt σ a = 7) (kk : ∀ τ, yW_ s g κ B n σ0 τ → Q τ) : wX5_pass a v σ Q := by
  obtain ⟨⟨t, t1, t2⟩, _⟩ := yp7 K.1 ha
  exact ⟨ha, fun _ => ⟨t, t1, t2, fun _ => ⟨t, t1, t2, rx_advance K t2 kk⟩, fun _ => rx_lfail K ha kk⟩, fun _ => kk σ K⟩
theorem rx_codeOfName {s : sz_T} {g κ : Nat → Nat} {B n : Nat} {σ : kx_S} {a : Nat} {Q : Int32 → kx_S → Prop} (J : yJ_ s g κ B n σ) (ha : xt σ a = 7) (kk : ∀ v, Q v σ) : wX5_codeOfName a σ Q := by
  obtain ⟨⟨t, t1, t2⟩, _⟩ := yp7 J ha
  refine ⟨ha, t, t1, t2, rx_isWord J t2 (by decide) (fun v => ⟨fun _ => ⟨ha, t, t1, t2, ?_⟩, fun _ => kk _⟩)⟩
  refine rx_isWord J t2 (by decide) (fun v => ⟨fun _ => ⟨ha, t, t1, t2, ?_⟩, fun _ => kk _⟩)
  refine rx_isWord J t2 (by decide) (fun v => ⟨fun _ => ⟨ha, t, t1, t2, ?_⟩, fun _ => kk _⟩)
  refine rx_isWord J t2 (by decide) (fun v => ⟨fun _ => ⟨ha, t, t1, t2, ?_⟩, fun _ => kk _⟩)
  refine rx_isWord J t2 (by decide) (fun v => ⟨fun _ => ⟨ha, t, t1, t2, ?_⟩, fun _ => kk _⟩)
  refine rx_isWord J t2 (by decide) (fun v => ⟨fun _ => ⟨ha, t, t1, t2, ?_⟩, fun _ => kk _⟩)
  exact rx_isWord J t2 (by decide) (fun v => ⟨fun _ => kk _, fun _ => kk _⟩)
theorem rx_faultOfPart {s : sz_T} {g κ : Nat → Nat} {B n : Nat} {σ : kx_S} {a : Nat} {Q : Int32 → kx_S → Prop} (J : yJ_ s g κ B n σ) (ha : xt σ a = 7) (kk : ∀ v, Q v σ) : wX5_faultOfPart a σ Q := by
  obtain ⟨⟨t, t1, t2⟩, _⟩ := yp7 J ha
  exact ⟨ha, t, t1, t2, fun v _ => ⟨fun _ => rx_codeOfName J ha (fun w => ⟨fun _ => kk _, fun _ => kk _⟩), fun _ => kk _, fun _ => kk _, fun _ => kk _, fun _ _ _ _ => kk _⟩⟩
/-- a piece of reading -/
def rw_ (s : sz_T) (g κ : Nat → Nat) (B n : Nat) (σ0 : kx_S) (w : kx_S → (kx_S → Prop) → Prop) : Prop := ∀ (σ : kx_S) (Q : kx_S → Prop), yW_ s g κ B n σ0 σ → (∀ τ, yW_ s g κ B n σ0 τ → Q τ) → w σ Q
abbrev rv_ : Type := Nat → Int32 → kx_S → (kx_S → Prop) → Prop
theorem rw_part {s : sz_T} {g κ : Nat → Nat} {B n : Nat} {σ0 : kx_S} {re : rv_} {a : Nat} {l : Int32} (ha : xt σ0 a = 7) (hre : rw_ s g κ B n σ0 (re a (l + 1))) : rw_ s g κ B n σ0 (wX5_readPart re a l) := by
  intro σ Q K kk
  have T : ∀ τ, yW_ s g κ B n σ0 τ → xt τ a = 7 := fun τ k => yW_tag k ha (by decide)
  have ta := T σ K
  obtain ⟨⟨t, t1, t2⟩, _⟩ := yp7 K.1 ta
  have P78 : ∀ v, wX5_readPart_78 re Q a v a σ := fun v => ⟨ta, rx_put K ta (fun τ K2 => by
    obtain ⟨⟨t', u1, u2⟩, _⟩ := yp7 K2.1 (T τ K2)
    exact ⟨T τ K2, t', u1, u2, rx_advance K2 u2 kk⟩)⟩
  refine ⟨ta, ?_⟩
  refine rx_faultOfPart K.1 ta (fun v => ⟨fun _ => ⟨ta, t, t1, t2, fun _ => ⟨t, t1, t2, fun _ => rx_codeOfName K.1 ta P78, fun _ => ⟨t, t1, t2, rx_numberValue K.1 t2 P78⟩⟩, fun _ => ⟨t, t1, t2, ?_⟩⟩, fun _ => ⟨ta, rx_lfail K ta kk⟩⟩)
  refine rx_advance K t2 (fun τ K2 => ⟨T τ K2, ?_⟩)
  refine hre τ _ K2 (fun τ3 K3 => ⟨T τ3 K3, ?_⟩)
  exact rx_pass K3 (T τ3 K3) kk
theorem rw_term {s : sz_T} {g κ : Nat → Nat} {B n : Nat} {σ0 : kx_S} {re : rv_} {a : Nat} {l : Int32} (ha : xt σ0 a = 7) (hp : rw_ s g κ B n σ0 (wX5_readPart re a l)) : rw_ s g κ B n σ0 (wX5_readTerm re a l) := by
  intro σ Q K kk
  have T : ∀ τ, yW_ s g κ B n σ0 τ → xt τ a = 7 := fun τ k => yW_tag k ha (by decide)
  have z5 : (500 : Int32).toInt = 500 := by decide
  have L : ∀ (m : Nat) (i : Int32) (τ : kx_S), 0 ≤ i.toInt → i.toInt ≤ 500 → 500 - i.toInt < (m : Int) → yW_ s g κ B n σ0 τ → wX5_readTerm_7 re Q m a l i τ := by
    intro m
    induction m with
    | zero => intro i τ h1 h2 h3; omega
    | succ m ih =>
      intro i τ h1 h2 h3 K1
      have ta := T τ K1
      obtain ⟨⟨t, t1, t2⟩, _⟩ := yp7 K1.1 ta
      refine ⟨fun _ => kk τ K1, fun c => ?_⟩
      rw [ki_le, z5] at c
      obtain ⟨i', ei, ii⟩ := ki_incE (a := i) (by omega) (by omega)
      have b1 : 0 ≤ i'.toInt := by omega
      have b2 : i'.toInt ≤ 500 := by omega
      have b3 : 500 - i'.toInt < (m : Int) := by omega
      have N : ∀ (v : Int32) (τ3 : kx_S), yW_ s g κ B n σ0 τ3 → wX5_readTerm_68 re (wX5_readTerm_7 re Q m) Q a l i v a τ3 := fun v τ3 K3 => ⟨T τ3 K3, rx_put K3 (T τ3 K3) (fun τ4 K4 x ex => by
        rw [ex, ← ei]
        exact ih i' τ4 b1 b2 b3 K4)⟩
      have O : ∀ x : Int32, wX5_readTerm_42 re (wX5_readTerm_7 re Q m) Q a l i x τ := fun x => ⟨ta, t, t1, t2, rx_advance K1 t2 (fun τ2 K2 => ⟨T τ2 K2, hp τ2 _ K2 (fun τ3 K3 => ⟨fun _ => N _ τ3 K3, fun _ => N _ τ3 K3⟩)⟩)⟩
      exact ⟨ta, fun _ => kk τ K1, fun _ => ⟨t, t1, t2, fun x _ => ⟨fun _ => O x, fun _ => ⟨fun _ => O x, fun _ => kk τ K1⟩⟩⟩⟩
  refine ⟨T σ K, ?_⟩
  refine hp σ _ K (fun τ K2 => ?_)
  have fin := L 501 0 τ (by decide) (by decide) (by decide) K2
  exact ⟨501, fin⟩
theorem rw_sum {s : sz_T} {g κ : Nat → Nat} {B n : Nat} {σ0 : kx_S} {re : rv_} {a : Nat} {l : Int32} (ha : xt σ0 a = 7) (hp : rw_ s g κ B n σ0 (wX5_readTerm re a l)) : rw_ s g κ B n σ0 (wX5_readSum re a l) := by
  intro σ Q K kk
  have T : ∀ τ, yW_ s g κ B n σ0 τ → xt τ a = 7 := fun τ k => yW_tag k ha (by decide)
  have z5 : (500 : Int32).toInt = 500 := by decide
  have L : ∀ (m : Nat) (i : Int32) (τ : kx_S), 0 ≤ i.toInt → i.toInt ≤ 500 → 500 - i.toInt < (m : Int) → yW_ s g κ B n σ0 τ → wX5_readSum_7 re Q m a l i τ := by
    intro m
    induction m with
    | zero => intro i τ h1 h2 h3; omega
    | succ m ih =>
      intro i τ h1 h2 h3 K1
      have ta := T τ K1
      obtain ⟨⟨t, t1, t2⟩, _⟩ := yp7 K1.1 ta
      refine ⟨fun _ => kk τ K1, fun c => ?_⟩
      rw [ki_le, z5] at c
      obtain ⟨i', ei, ii⟩ := ki_incE (a := i) (by omega) (by omega)
      have b1 : 0 ≤ i'.toInt := by omega
      have b2 : i'.toInt ≤ 500 := by omega
      have b3 : 500 - i'.toInt < (m : Int) := by omega
      have N : ∀ (v : Int32) (τ3 : kx_S), yW_ s g κ B n σ0 τ3 → wX5_readSum_68 re (wX5_readSum_7 re Q m) Q a l i v a τ3 := fun v τ3 K3 => ⟨T τ3 K3, rx_put K3 (T τ3 K3) (fun τ4 K4 x ex => by
        rw [ex, ← ei]
        exact ih i' τ4 b1 b2 b3 K4)⟩
      have O : ∀ x : Int32, wX5_readSum_42 re (wX5_readSum_7 re Q m) Q a l i x τ := fun x => ⟨ta, t, t1, t2, rx_advance K1 t2 (fun τ2 K2 => ⟨T τ2 K2, hp τ2 _ K2 (fun τ3 K3 => ⟨fun _ => N _ τ3 K3, fun _ => N _ τ3 K3⟩)⟩)⟩
      exact ⟨ta, fun _ => kk τ K1, fun _ => ⟨t, t1, t2, fun x _ => ⟨fun _ => O x, fun _ => ⟨fun _ => O x, fun _ => kk τ K1⟩⟩⟩⟩
  refine ⟨T σ K, ?_⟩
  refine hp σ _ K (fun τ K2 => ?_)
  have fin := L 501 0 τ (by decide) (by decide) (by decide) K2
  exact ⟨501, fin⟩
theorem rw_test {s : sz_T} {g κ : Nat → Nat} {B n : Nat} {σ0 : kx_S} {re : rv_} {a : Nat} {l : Int32} (ha : xt σ0 a = 7) (hp : rw_ s g κ B n σ0 (wX5_readSum re a l)) : rw_ s g κ B n σ0 (wX5_readTest re a l) := by
  intro σ Q K kk
  have T : ∀ τ, yW_ s g κ B n σ0 τ → xt τ a = 7 := fun τ k => yW_tag k ha (by decide)
  have D82 : ∀ (x : Int32) (τ : kx_S), yW_ s g κ B n σ0 τ → wX5_readTest_82 re Q a x τ := fun x τ K1 => ⟨fun _ => kk τ K1, fun _ => ⟨T τ K1, rx_put K1 (T τ K1) kk⟩⟩
  have D79 : ∀ (x v : Int32) (τ : kx_S), yW_ s g κ B n σ0 τ → wX5_readTest_79 re (wX5_readTest_82 re Q) Q a x v a τ := fun x v τ K1 => ⟨T τ K1, rx_put K1 (T τ K1) (fun τ2 K2 => D82 x τ2 K2)⟩
  have D53 : ∀ (x y : Int32) (τ : kx_S), yW_ s g κ B n σ0 τ → wX5_readTest_53 re (wX5_readTest_82 re Q) Q a l x y τ := fun x y τ K1 => by
    obtain ⟨⟨t, t1, t2⟩, _⟩ := yp7 K1.1 (T τ K1)
    exact ⟨T τ K1, t, t1, t2, rx_advance K1 t2 (fun τ2 K2 => ⟨T τ2 K2, hp τ2 _ K2 (fun τ3 K3 => ⟨fun _ => D79 x _ τ3 K3, fun _ => D79 x _ τ3 K3⟩)⟩)⟩
  have D21 : ∀ (x : Int32) (τ : kx_S), yW_ s g κ B n σ0 τ → wX5_readTest_21 re Q a l x τ := fun x τ K1 => ⟨T τ K1, hp τ _ K1 (fun τ2 K2 => by
    obtain ⟨⟨t, t1, t2⟩, _⟩ := yp7 K2.1 (T τ2 K2)
    exact ⟨T τ2 K2, t, t1, t2, fun v _ => ⟨fun _ => D82 x τ2 K2, fun _ => ⟨fun _ => D53 x v τ2 K2, fun _ => ⟨fun _ => D82 x τ2 K2, fun _ => D53 x v τ2 K2⟩⟩⟩⟩)⟩
  obtain ⟨⟨t, t1, t2⟩, _⟩ := yp7 K.1 (T σ K)
  refine ⟨T σ K, t, t1, t2, ?_⟩
  exact rx_isWord K.1 t2 (by decide) (fun v => ⟨fun _ => D21 v σ K, fun _ => ⟨T σ K, t, t1, t2, rx_advance K t2 (fun τ K2 => D21 v τ K2)⟩⟩)
theorem rw_expr {s : sz_T} {g κ : Nat → Nat} {B n : Nat} {σ0 : kx_S} {re : rv_} {a : Nat} {l : Int32} (ha : xt σ0 a = 7) (hp : l < 8 → rw_ s g κ B n σ0 (wX5_readTest re a l)) : rw_ s g κ B n σ0 (wX5_readExpr_b re a l) := by
  intro σ Q K kk
  have T : ∀ τ, yW_ s g κ B n σ0 τ → xt τ a = 7 := fun τ k => yW_tag k ha (by decide)
  have z5 : (500 : Int32).toInt = 500 := by decide
  obtain ⟨⟨t, t1, t2⟩, _⟩ := yp7 K.1 (T σ K)
  have D26 : ∀ v : Int32, wX5_readExpr_26 re Q a v σ := fun v => ⟨fun _ => ⟨T σ K, rx_lfail K (T σ K) kk⟩, fun _ => ⟨T σ K, rx_lfail K (T σ K) kk⟩⟩
  refine ⟨fun hl => ⟨T σ K, ?_⟩, fun _ => ⟨T σ K, t, t1, t2, rx_isWord K.1 t2 (by decide) (fun v => ⟨fun _ => ⟨T σ K, rx_faultOfPart K.1 (T σ K) D26⟩, fun _ => D26 0⟩)⟩⟩
  have hp := hp hl
  have L : ∀ (m : Nat) (i : Int32) (τ : kx_S), 0 ≤ i.toInt → i.toInt ≤ 500 → 500 - i.toInt < (m : Int) → yW_ s g κ B n σ0 τ → wX5_readExpr_48 re Q m a l i τ := by
    intro m
    induction m with
    | zero => intro i τ h1 h2 h3; omega
    | succ m ih =>
      intro i τ h1 h2 h3 K1
      have ta := T τ K1
      obtain ⟨⟨t, t1, t2⟩, _⟩ := yp7 K1.1 ta
      refine ⟨fun _ => kk τ K1, fun c => ?_⟩
      rw [ki_le, z5] at c
      obtain ⟨i', ei, ii⟩ := ki_incE (a := i) (by omega) (by omega)
      have b1 : 0 ≤ i'.toInt := by omega
      have b2 : i'.toInt ≤ 500 := by omega
      have b3 : 500 - i'.toInt < (m : Int) := by omega
      have N : ∀ (v : Int32) (τ3 : kx_S), yW_ s g κ B n σ0 τ3 → wX5_readExpr_113 re (wX5_readExpr_48 re Q m) Q a l i v a τ3 := fun v τ3 K3 => ⟨T τ3 K3, rx_put K3 (T τ3 K3) (fun τ4 K4 x ex => by
        rw [ex, ← ei]
        exact ih i' τ4 b1 b2 b3 K4)⟩
      have O : ∀ x : Int32, wX5_readExpr_89 re (wX5_readExpr_48 re Q m) Q a l i x τ := fun x => ⟨ta, t, t1, t2, rx_advance K1 t2 (fun τ2 K2 => ⟨T τ2 K2, hp τ2 _ K2 (fun τ3 K3 => ⟨fun _ => N _ τ3 K3, fun _ => N _ τ3 K3⟩)⟩)⟩
      exact ⟨ta, fun _ => kk τ K1, fun _ => ⟨t, t1, t2, rx_isWord K1.1 t2 (by decide) (fun v => ⟨fun _ => O v, fun _ => ⟨ta, t, t1, t2, rx_isWord K1.1 t2 (by decide) (fun w => ⟨fun _ => O v, fun _ => kk τ K1⟩)⟩⟩)⟩⟩
  refine hp σ _ K (fun τ K2 => ?_)
  have fin := L 501 0 τ (by decide) (by decide) (by decide) K2
  exact ⟨501, fin⟩
theorem rw_expression {s : sz_T} {g κ : Nat → Nat} {B n : Nat} {σ0 : kx_S} {a : Nat} (ha : xt σ0 a = 7) : ∀ (j : Nat) (l : Int32), j ≤ 8 → l.toInt = 8 - (j : Int) → rw_ s g κ B n σ0 (wX5_readExpr (j + 2) a l) := by
  intro j
  have z8 : (8 : Int32).toInt = 8 := by decide
  induction j with
  | zero =>
    intro l _ hl
    exact rw_expr (re := wX5_readExpr 1) ha (fun q => by rw [ki_lt, z8] at q; omega)
  | succ j ih =>
    intro l hj hl
    have li := ki_inc (a := l) (by omega) (by omega)
    exact rw_expr (re := wX5_readExpr (j + 2)) ha (fun _ => rw_test ha (rw_sum ha (rw_term ha (rw_part ha (ih (l + 1) (by omega) (by omega))))))
theorem rx_readRule {s : sz_T} {g κ : Nat → Nat} {B n : Nat} {σ0 : kx_S} {a : Nat} {i : Int32} (ha : xt σ0 a = 7) : rw_ s g κ B n σ0 (wX5_readRule a i) := by
  intro σ Q K kk
  have T : ∀ τ, yW_ s g κ B n σ0 τ → xt τ a = 7 := fun τ k => yW_tag k ha (by decide)
  obtain ⟨⟨t, t1, t2⟩, _⟩ := yp7 K.1 (T σ K)
  have D74 : ∀ (v : Int32) (τ : kx_S), yW_ s g κ B n σ0 τ → wX5_readRule_74 Q v a τ := fun v τ K1 => ⟨T τ K1, rx_put K1 (T τ K1) kk⟩
  have D32 : ∀ v : Int32, wX5_readRule_32 Q a i v σ := fun v => ⟨fun _ => ⟨T σ K, t, t1, t2, rx_advance K t2 (fun τ K2 => ⟨T τ K2, rw_expression ha 8 0 (by decide) (by decide) τ _ K2 (fun τ3 K3 => ⟨T τ3 K3, rx_pass K3 (T τ3 K3) (fun τ4 K4 => ⟨fun _ => D74 _ τ4 K4, fun _ => D74 _ τ4 K4⟩)⟩)⟩)⟩, fun _ => ⟨T σ K, rx_lfail K (T σ K) kk⟩⟩
  refine ⟨T σ K, t, t1, t2, ?_⟩
  exact rx_isWord K.1 t2 (by decide) (fun v => ⟨fun _ => D32 v, fun _ => ⟨T σ K, t, t1, t2, rx_isWord K.1 t2 (by decide) (fun w => ⟨fun _ => D32 v, fun _ => ⟨T σ K, rx_lfail K (T σ K) kk⟩⟩)⟩⟩)
theorem rx_readText {s : sz_T} {g κ : Nat → Nat} {B n : Nat} {σ : kx_S} {a : Nat} {v : Int32} {Q : kx_S → Prop} (J : yJ_ s g κ B n σ) (ha : xt σ a = 7) (kk : ∀ τ, yW_ s g κ B n σ τ → Q τ) : wX5_readText a v σ Q := by
  have T : ∀ τ, yW_ s g κ B n σ τ → xt τ a = 7 := fun τ k => yW_tag k ha (by decide)
  have z12 : (12 : Int32).toInt = 12 := by decide
  have L : ∀ (m : Nat) (i : Int32) (τ : kx_S), 0 ≤ i.toInt → i.toInt ≤ 13 → 13 - i.toInt < (m : Int) → yW_ s g κ B n σ τ → wX5_readText_25 Q m a i τ := by
    intro m
    induction m with
    | zero => intro i τ h1 h2 h3; omega
    | succ m ih =>
      intro i τ h1 h2 h3 K1
      have ta := T τ K1
      obtain ⟨⟨t, t1, t2⟩, _⟩ := yp7 K1.1 ta
      refine ⟨fun _ => kk τ K1, fun c => ?_⟩
      rw [ki_lt, z12] at c
      obtain ⟨i', ei, ii⟩ := ki_incE (a := i) (by omega) (by omega)
      have b1 : 0 ≤ i'.toInt := by omega
      have b2 : i'.toInt ≤ 13 := by omega
      have b3 : 13 - i'.toInt < (m : Int) := by omega
      refine ⟨ta, t, t1, t2, fun _ => kk τ K1, fun _ => ⟨fun _ => kk τ K1, fun _ => ?_⟩⟩
      refine rx_readRule ha τ _ K1 (fun τ2 K2 x ex => ?_)
      rw [ex, ← ei]
      exact ih i' τ2 b1 b2 b3 K2
  refine ⟨ha, fun τ1 e1 τ2 e2 τ3 e3 => ?_⟩
  have K3 : yW_ s g κ B n σ τ3 := by rw [e3, e2, e1]; exact yW_si (by decide) (yW_si (by decide) (yW_114 (by decide) (yW_refl J)))
  clear e1 e2 e3
  obtain ⟨⟨t, t1, t2⟩, _⟩ := yp7 K3.1 (T τ3 K3)
  refine ⟨t, t1, t2, t2, fun τ4 e4 τ5 e5 => ?_⟩
  have K5 : yW_ s g κ B n σ τ5 := by rw [e5, e4]; exact yW_si (by decide) (yW_si (by decide) K3)
  have t5 : xt τ5 t = 12 := by rw [e5, e4]; exact t2
  clear e4 e5
  refine rx_advance K5 t5 (fun τ6 K6 => ?_)
  have fin := L 14 0 τ6 (by decide) (by decide) (by decide) K6
  exact ⟨14, fin⟩
end
section
theorem rx_copyOf {s : sz_T} {E : Nat → Prop} {g κ : Nat → Nat} {B n : Nat} {σ : kx_S} {h : Nat} {v : Int32} {Q : Nat → kx_S → Prop} (I : yI_ s E g κ B n σ) (hB : B ≤ 3000) (hn : n ≤ 200) (th : xt σ h = 20) (nh : xn σ h = 500) (hv : 0 ≤ v.toInt ∧ v.toInt ≤ 500) (kk : ∀ p τ, yI_ s E g κ (B + 1) n τ → fg_ σ τ → xt τ p = 20 → xn τ p ≤ 500 → (∀ f a, xi τ f a = xi σ f a) → Q p τ) : wJ7_copyOf_59c91 h v σ Q := by
  have e500 : (nI (xn σ h)).toInt = 500 := by rw [nh]; decide
  have room := ry_room I.1 hB hn
  refine ⟨th, fun c => ⟨room, by rw [ki_lt, ki_z0]; omega, by rw [ki_nat]; omega, fun p hp hz τ1 e1 => ?_⟩, fun c => ⟨room, by rw [nh]; decide, fun p hp hz τ1 e1 => ?_⟩⟩
  · have I1 : yI_ s E g κ (B + 1) n τ1 := by rw [e1]; exact yI_newA I hp hz (.inl rfl)
    have F1 : fg_ σ τ1 := by rw [e1]; exact fg_newA hp
    have tp1 : xt τ1 p = 20 := by rw [e1]; exact va_up_self _ _ _
    have np1 : xn τ1 p = v.toNatClampNeg := by rw [e1]; exact va_up_self _ _ _
    have i1 : ∀ f a, xi τ1 f a = xi σ f a := fun f a => by rw [e1]; rfl
    have nh1 : xn τ1 h = 500 := (F1.2.2.1 h (by rw [th]; decide)).trans nh
    have e5001 : (nI (xn τ1 h)).toInt = 500 := by rw [nh1]; decide
    clear e1
    have z0 : Int32.toNatClampNeg 0 = 0 := by decide
    refine ⟨fg_tag F1 th (by decide), fun w ew => ?_⟩
    have hw : w = v := by
      rw [ew]
      by_cases q : v < nI (xn τ1 h)
      · rw [if_pos q]
      · rw [if_neg q]
        rw [ki_lt, e5001] at q
        exact ki_eq.2 (by rw [e5001]; omega)
    rw [hw, z0]
    refine ⟨by decide, by decide, by rw [ki_lt, ki_z0]; omega, by rw [nh1, ki_nat]; omega, by rw [np1]; omega, fun τ2 e2 => ?_⟩
    rw [e2]
    exact kk p _ I1 F1 tp1 (by show xn τ1 p ≤ 500; rw [np1, ki_nat]; omega) i1
  · rw [e1]
    refine kk p _ (yI_newA (m := xn σ h) I hp hz (.inl rfl)) (fg_newA (m := xn σ h) (t := 20) hp) (va_up_self _ _ _) ?_ (fun _ _ => rfl)
    show va_up (xn σ) p (xn σ h) p ≤ 500
    rw [va_up_self, nh]
    decide
abbrev qy_ (k L O : Nat) (z : Int32 × sz_T) : Int32 → kx_S → Prop := fun _ σ => z.1 = 0 ∧ yZ_ (k + 1) z.2 L O σ
abbrev qx_ (k L O : Nat) (z : Int32 × sz_T) : String → kx_S → Prop := fun e σ => e = pz_I ∧ z.1 = 1 ∧ yZ_ (k + 1) z.2 L O σ
theorem rx_law {k : Nat} {s : sz_T} {L O : Nat} {σ : kx_S} {m d : Int32} (hk : k < 600) (Z : yZ_ k s L O σ) : wX11_law L m d σ (qy_ k L O (z_law m d s)) (qx_ k L O (z_law m d s)) := by
  obtain ⟨g, κ, B, n, eg, eO, J, hn, hB⟩ := Z
  subst eg
  subst eO
  have b := yB_ J hk hn hB
  have hB' : B ≤ 15 + 26 * s.1.1.toNatClampNeg + 3 * (k + 1) := by omega
  have hB2 : B + 1 + 1 ≤ 15 + 26 * s.1.1.toNatClampNeg + 3 * (k + 1) := by omega
  have hB3 : B ≤ 3000 := by omega
  have hB4 : B + 1 ≤ 3000 := by omega
  have hB5 : B + 1 + 1 ≤ 3000 := by omega
  have hn2 : n ≤ 200 := by omega
  have G6 := yg6 J
  have ids := yG_idx J
  have room := ry_room J.1 hB3 hn2
  have z1000 : (1000 : Int32).toInt = 1000 := by decide
  have z6 : (6 : Int32).toInt = 6 := by decide
  have no : (m < 0 ∨ s.1.2.2.2.2.1 < m ∨ d < 0 ∨ ¬ d ≤ 1000) → wX11_law_26 (qy_ k (g 0) (g 10) (z_law m d s)) (qx_ k (g 0) (g 10) (z_law m d s)) σ := fun c => by
    refine ⟨room, rfl, ?_⟩
    rw [show z_law m d s = (1, s) from if_pos c]
    exact ⟨rfl, yZ_bump J hn hB⟩
  refine ⟨yg0 J, g 6, G6.1, G6.2, ?_⟩
  rw [ids.2.2.2.2.1]
  refine rx_within (fun c => ⟨fun _ => no ?_, fun x => absurd rfl x⟩) (fun c1 c2 => ⟨fun x => absurd x (by decide), fun _ => ?_⟩)
  · rw [ki_z0] at c
    rw [ki_lt, ki_z0, ki_lt]
    by_cases q : m.toInt < 0
    · exact .inl q
    · exact .inr (.inl (by omega))
  rw [ki_z0] at c1
  refine rx_within (fun c => ⟨fun x => absurd rfl x, fun _ => no (.inr (.inr ?_))⟩) (fun c3 c4 => ⟨fun _ => ⟨yg0 J, g 6, G6.1, G6.2, fun τ1 e1 τ2 e2 => ?_⟩, fun x => absurd x (by decide)⟩)
  · rw [ki_z0, z1000] at c
    rw [ki_lt, ki_z0, ki_le, z1000]
    by_cases q : d.toInt < 0
    · exact .inl q
    · exact .inr (by omega)
  rw [ki_z0] at c3
  rw [z1000] at c4
  have hz : z_law m d s = (0, zt_ s 0) := by
    refine if_neg (fun h => ?_)
    rw [ki_lt, ki_lt, ki_lt, ki_le, ki_z0, z1000] at h
    omega
  rw [hz]
  have J2 : yJ_ (zt_ s 0) g κ B n τ2 := by rw [e2, e1]; exact yI_si (by decide) (yI_177 (by decide) J)
  clear e1 e2 no hz
  have G3 := yg3 J2
  refine ⟨g 3, G3.1, G3.2.1, G3.2.1, fun c => ⟨yg0 J2, g 7, (yg7 J2).1, (yg7 J2).2, ?_⟩, fun _ => ⟨rfl, yZ_of J2 hn hB'⟩⟩
  rw [ki_lt, z6] at c
  refine rx_readText J2 (yg7 J2).2 (fun τ3 K3 => ?_)
  have J3 := K3.1
  have c' : (xi τ3 18 (g 3)).toInt < 6 := by rw [K3.2.2]; exact c
  clear K3 c J2 G3
  refine ⟨yg0 J3, g 7, (yg7 J3).1, (yg7 J3).2, fun _ => ⟨g 3, (yg3 J3).1, ry_room J3.1 hB3 hn2, fun p hp hpz τ4 e4 => ?_⟩, fun _ => ⟨g 7, (yg7 J3).1, (yg7 J3).2, fun τ4 e4 => ?_⟩⟩
  rotate_left
  · have J4 : yJ_ (zt_ s 0) g κ B n τ4 := by rw [e4]; exact yI_si (by decide) J3
    exact ⟨g 7, (yg7 J4).1, (yg7 J4).2, rfl, yZ_of J4 hn hB'⟩
  have p0 : p ≠ g 0 := fun e => by have := yg0 J3; rw [← e, hp] at this; omega
  have I4 : yI_ (zt_ s 0) (fun a => False ∨ a = p) g κ (B + 1) n τ4 := by rw [e4]; exact yI_new J3 hp hpz (by decide)
  have F4 : fg_ τ3 τ4 := by rw [e4]; exact fg_new hp
  have tp4 : xt τ4 p = 6 := by rw [e4]; exact va_up_self _ _ _
  have s4 : xi τ4 18 (g 3) = xi τ3 18 (g 3) := by rw [e4]; exact va_up_ne _ _ (fun e => by have := (yg3 J3).2.1; rw [e, hp] at this; omega)
  clear e4
  obtain ⟨_, h, h1, h2, h3⟩ := yp7 J3 (yg7 J3).2
  have h1' : xr τ4 113 (g 7) = some h := fg_ref F4 (yg7 J3).2 (by decide) (by decide) h1
  have h2' := fg_tag F4 h2 (by decide)
  have h3' : xn τ4 h = 500 := (F4.2.2.1 h (by rw [h2]; decide)).trans h3
  have h4 := (I4.2.2.2.1 (g 7)).2.2.2.1 (yg7 I4).2
  refine ⟨yg0 I4, g 7, (yg7 I4).1, (yg7 I4).2, h, h1', g 7, (yg7 I4).1, (yg7 I4).2, ?_⟩
  refine rx_copyOf I4 hB4 hn2 h2' h3' h4 (fun q τ5 I5 F5 tq5 nq5 i5 => ?_)
  have tp5 := fg_tag F5 tp4 (by decide)
  refine ⟨tp5, fun τ6 e6 τ7 e7 => ?_⟩
  have I7' : yI_ (zt_ s 0) (fun a => False ∨ a = p) g κ (B + 1 + 1) n τ7 := by rw [e7, e6]; exact yI_srE (yI_si (by decide) I5) (.inr rfl) (by decide) (by decide) p0
  have tp7 : xt τ7 p = 6 := by rw [e7, e6]; exact tp5
  have tq7 : xt τ7 q = 20 := by rw [e7, e6]; exact tq5
  have nq7 : xn τ7 q ≤ 500 := by rw [e7, e6]; exact nq5
  have r7 : xr τ7 97 p = some q := by rw [e7, e6]; exact va_up_self _ _ _
  have s7 : xi τ7 18 (g 3) = xi τ3 18 (g 3) := by
    rw [e7, e6]
    show xi τ5 18 (g 3) = _
    rw [i5, s4]
  clear e7 e6
  have I7 : yJ_ (zt_ s 0) g κ (B + 1 + 1) n τ7 := ⟨I7'.1, yP_add I7'.2.1 tp7 (fun x => absurd x (by decide)) (fun x => absurd x (by decide)) (fun x => absurd x (by decide)) (fun _ => ⟨q, r7, tq7, nq7⟩) (fun x => absurd x (by decide)) (by decide), I7'.2.2⟩
  clear I7'
  rw [← s7] at c'
  have G3 := yg3 I7
  have ne := yG_ne I7.2.2.1
  have sz := ry_size I7.1 G3.2.1
  have inc := ki_inc (a := xi τ7 18 (g 3)) (by omega) (by omega)
  have bl : (xi τ7 18 (g 3)).toInt < (ylb g (g 3) : Int) := by
    have : ylb g (g 3) ≥ 100 := by unfold ylb; split <;> omega
    omega
  refine ⟨G3.2.1, ?_⟩
  refine ry_add I7.1 hB5 hn2 G3.2.1 (by rw [tp7, G3.2.2]) bl (fun τ8 L8 A8 => ?_)
  have q2 : xi τ8 18 (g 2) = xi τ7 18 (g 2) := by rw [A8.2.2.2.1, va_up_ne _ _ ne.2.2.2.2.1]
  have q4 : xi τ8 18 (g 4) = xi τ7 18 (g 4) := by rw [A8.2.2.2.1, va_up_ne _ _ (fun e => ne.2.2.2.2.2.2.2.1 e.symm)]
  have q5 : xi τ8 18 (g 5) = xi τ7 18 (g 5) := by rw [A8.2.2.2.1, va_up_ne _ _ (fun e => ne.2.2.2.2.2.2.2.2.1 e.symm)]
  have q3 : xi τ8 18 (g 3) = xi τ7 18 (g 3) + 1 := by rw [A8.2.2.2.1, va_up_self]
  have SS := I7.2.2.2.2.2.2.2
  have ids7 := yG_idx I7
  have S8 := yS_add I7 A8 (fun e => ne.2.1 e.symm) (by rw [q3, inc]; omega) (by rw [q4]; exact SS.2.2.1) (by rw [q5]; exact SS.2.2.2)
  have I8 := yI_tr2 I7 L8 A8 S8 (yK9_same I7 A8 (by rw [G3.2.2]; decide))
  rw [q2, q4, q5, ids7.2.1, ids7.2.2.1, ids7.2.2.2.1] at I8
  exact ⟨yg0 I8, g 3, (yg3 I8).1, (yg3 I8).2.1, (yg3 I8).2.1, rfl, yZ_of I8 hn hB2⟩
end
section
/-! a fresh LogRiver -/
def yo0 (A : List (Nat × Nat)) (σ : kx_S) : Prop := (∀ a, xt σ a ≠ 0 → (a, xt σ a) ∈ A) ∧ (∀ a, xt σ a ≠ 0 → xt σ a ≠ 20 → xt σ a ≠ 21 → ∀ f, f ≠ 219 → xi σ f a = 0)
theorem yo0_new {A : List (Nat × Nat)} {σ : kx_S} {p t : Nat} (C : yo0 A σ) : yo0 ((p, t) :: A) (xnew σ p t) := by
  have tg : ∀ a, xt (xnew σ p t) a = if a = p then t else xt σ a := fun a => rfl
  have ig : ∀ f a, xi (xnew σ p t) f a = if a = p then 0 else xi σ f a := fun f a => rfl
  refine ⟨fun a h => ?_, fun a h h1 h2 f hf => ?_⟩
  · rw [tg] at h ⊢
    by_cases e : a = p
    · rw [if_pos e, e]; exact List.mem_cons_self
    · rw [if_neg e] at h ⊢; exact List.mem_cons_of_mem _ (C.1 a h)
  · rw [tg] at h h1 h2
    rw [ig]
    by_cases e : a = p
    · rw [if_pos e]
    · rw [if_neg e] at h h1 h2 ⊢; exact C.2 a h h1 h2 f hf
theorem yo0_newA {A : List (Nat × Nat)} {σ : kx_S} {p t m : Nat} (C : yo0 A σ) (ht : t = 20 ∨ t = 21) : yo0 ((p, t) :: A) (xnewA σ p t m) := by
  have tg : ∀ a, xt (xnewA σ p t m) a = if a = p then t else xt σ a := fun a => rfl
  refine ⟨fun a h => ?_, fun a h h1 h2 f hf => ?_⟩
  · rw [tg] at h ⊢
    by_cases e : a = p
    · rw [if_pos e, e]; exact List.mem_cons_self
    · rw [if_neg e] at h ⊢; exact List.mem_cons_of_mem _ (C.1 a h)
  · rw [tg] at h h1 h2
    by_cases e : a = p
    · rw [if_pos e] at h1 h2; omega
    · rw [if_neg e] at h h1 h2; exact C.2 a h h1 h2 f hf
theorem yo0_16 {A : List (Nat × Nat)} {σ : kx_S} {p : Nat} (C : yo0 A σ) : yo0 A (xsi σ 16 p 0) := by
  refine ⟨C.1, fun a h h1 h2 f hf => ?_⟩
  show (if f = 16 then va_up (xi σ 16) p 0 else xi σ f) a = 0
  by_cases e : f = 16
  · rw [if_pos e]
    by_cases q : a = p
    · rw [q, va_up_self]
    · rw [va_up_ne _ _ q]; exact C.2 a h h1 h2 16 (by decide)
  · rw [if_neg e]; exact C.2 a h h1 h2 f hf
theorem yo0_219 {A : List (Nat × Nat)} {σ : kx_S} {p : Nat} {v : Int32} (C : yo0 A σ) : yo0 A (xsi σ 219 p v) := by
  refine ⟨C.1, fun a h h1 h2 f hf => ?_⟩
  show (if f = 219 then va_up (xi σ 219) p v else xi σ f) a = 0
  rw [if_neg hf]; exact C.2 a h h1 h2 f hf
/-- a list as it is made, before anything else is there -/
theorem rx_list0 {A : List (Nat × Nat)} {κ : Nat → Nat} {B n : Nat} {σ : kx_S} {p t : Nat} {Q : kx_S → Prop} (hp : xt σ p = 0) (ht : kx_el t) (C : yo0 A σ) (LL : ∀ g, yL_ g κ B n σ) (kk : ∀ τ, fg_ σ τ → xt τ p = 1 → yo0 ((p, 1) :: A) τ → (∀ g, yL_ g (va_up κ p t) (B + 1) (n + 1) τ) → Q τ) : ∀ σ5, σ5 = xnew σ p 1 → wJx4a65c_init_da8c8 p σ5 Q := by
  intro σ5 e5
  subst e5
  refine ⟨va_up_self _ _ _, fun τ3 e3 => ⟨by rw [e3]; exact va_up_self _ _ _, fun τ e => ?_⟩⟩
  rw [e3] at e
  have ne : ∀ a, xt σ a ≠ 0 → a ≠ p := fun a h e => h (by rw [e]; exact hp)
  have i18 : xi τ 18 = va_up (xi σ 18) p 0 := by rw [e]; rfl
  have r17 : xr τ 17 = va_up (xr σ 17) p (some (xz σ)) := by
    rw [e]
    funext a
    show va_up (va_up (xr σ 17) p none) p (some (xz σ)) a = _
    by_cases q : a = p
    · rw [q, va_up_self, va_up_self]
    · rw [va_up_ne _ _ q, va_up_ne _ _ q, va_up_ne _ _ q]
  refine kk τ ⟨fun a h => ?_, fun f a hf h => ?_, fun a _ => by rw [e]; rfl, by rw [e]; rfl⟩ (by rw [e]; exact va_up_self _ _ _) (by rw [e]; exact yo0_16 (yo0_new C)) (fun g => yL_new (LL g) hp ht (by rw [e]; rfl) i18 r17 (by rw [e]; rfl) (by rw [e]; rfl) (by rw [e]; rfl) (by rw [e]; rfl))
  · rw [e]; exact va_up_ne _ _ (ne a h)
  · rw [e]
    show (if f = 17 then _ else va_up (xr σ f) p none) a = _
    rw [if_neg hf, va_up_ne _ _ (ne a h)]
theorem fg_srX {σ : kx_S} {f a b k : Nat} {v w : Option Nat} (h : xr σ k b = w) (ne : ¬ (k = f ∧ b = a)) : xr (xsr σ f a v) k b = w := by
  show (if k = f then va_up (xr σ f) a v else xr σ k) b = w
  by_cases e : k = f
  · rw [if_pos e]
    by_cases q : b = a
    · exact absurd ⟨e, q⟩ ne
    · rw [va_up_ne _ _ q, ← e]; exact h
  · rw [if_neg e]; exact h
def s0_ : sz_T := ((0, 0, 0, 0, 0, 0), fun _ => 0, fun _ => 0, fun _ => 0, fun _ => 0, fun _ => 0)
theorem rx_init {σ : kx_S} {L : Nat} (hL : xt σ L = 13) (C : yo0 [(L, 13)] σ) (LL : ∀ g, yL_ g (fun _ => 8) 1 0 σ) : wX11_init L σ (fun τ => ∃ O, yZ_ 0 s0_ L O τ) := by
  have t_L_σ := hL
  have C_σ := C
  have LL_σ := LL
  refine ⟨ry_room (LL_σ (fun _ => 0)) (by decide) (by decide), fun p1 h_p1 z_p1 => ?_⟩
  have ne_L_p1 : L ≠ p1 := fun e => by have h := t_L_σ; rw [e, h_p1] at h; omega
  refine rx_list0 (t := 10) h_p1 (by unfold kx_el; decide) C_σ LL_σ (fun τ1 F_τ1 t_p1_τ1 C_τ1 LL_τ1 => ?_)
  have t_L_τ1 : xt τ1 L = 13 := fg_tag F_τ1 t_L_σ (by decide)
  refine ⟨t_L_τ1, fun τ2 e_τ2 => ?_⟩
  have t_L_τ2 : xt τ2 L = 13 := by rw [e_τ2]; exact t_L_τ1
  have t_p1_τ2 : xt τ2 p1 = 1 := by rw [e_τ2]; exact t_p1_τ1
  have r208_L_τ2 : xr τ2 208 L = some p1 := by rw [e_τ2]; exact va_up_self _ _ _
  have C_τ2 : yo0 [(p1, 1), (L, 13)] τ2 := by rw [e_τ2]; exact C_τ1
  have LL_τ2 : ∀ g, yL_ g (va_up (fun _ => 8) p1 10) 2 1 τ2 := by rw [e_τ2]; exact LL_τ1
  clear e_τ2
  refine ⟨ry_room (LL_τ2 (fun _ => 0)) (by decide) (by decide), fun p2 h_p2 z_p2 => ?_⟩
  have ne_L_p2 : L ≠ p2 := fun e => by have h := t_L_τ2; rw [e, h_p2] at h; omega
  have ne_p1_p2 : p1 ≠ p2 := fun e => by have h := t_p1_τ2; rw [e, h_p2] at h; omega
  refine rx_list0 (t := 8) h_p2 (by unfold kx_el; decide) C_τ2 LL_τ2 (fun τ3 F_τ3 t_p2_τ3 C_τ3 LL_τ3 => ?_)
  have t_L_τ3 : xt τ3 L = 13 := fg_tag F_τ3 t_L_τ2 (by decide)
  have t_p1_τ3 : xt τ3 p1 = 1 := fg_tag F_τ3 t_p1_τ2 (by decide)
  have r208_L_τ3 : xr τ3 208 L = some p1 := fg_ref F_τ3 t_L_τ2 (by decide) (by decide) r208_L_τ2
  refine ⟨t_L_τ3, fun τ4 e_τ4 => ?_⟩
  have t_L_τ4 : xt τ4 L = 13 := by rw [e_τ4]; exact t_L_τ3
  have t_p1_τ4 : xt τ4 p1 = 1 := by rw [e_τ4]; exact t_p1_τ3
  have t_p2_τ4 : xt τ4 p2 = 1 := by rw [e_τ4]; exact t_p2_τ3
  have r208_L_τ4 : xr τ4 208 L = some p1 := by rw [e_τ4]; exact fg_srX r208_L_τ3 (fun h => absurd h.1 (by decide))
  have r209_L_τ4 : xr τ4 209 L = some p2 := by rw [e_τ4]; exact va_up_self _ _ _
  have C_τ4 : yo0 [(p2, 1), (p1, 1), (L, 13)] τ4 := by rw [e_τ4]; exact C_τ3
  have LL_τ4 : ∀ g, yL_ g (va_up (va_up (fun _ => 8) p1 10) p2 8) 3 2 τ4 := by rw [e_τ4]; exact LL_τ3
  clear e_τ4
  refine ⟨ry_room (LL_τ4 (fun _ => 0)) (by decide) (by decide), fun p3 h_p3 z_p3 => ?_⟩
  have ne_L_p3 : L ≠ p3 := fun e => by have h := t_L_τ4; rw [e, h_p3] at h; omega
  have ne_p1_p3 : p1 ≠ p3 := fun e => by have h := t_p1_τ4; rw [e, h_p3] at h; omega
  have ne_p2_p3 : p2 ≠ p3 := fun e => by have h := t_p2_τ4; rw [e, h_p3] at h; omega
  refine rx_list0 (t := 6) h_p3 (by unfold kx_el; decide) C_τ4 LL_τ4 (fun τ5 F_τ5 t_p3_τ5 C_τ5 LL_τ5 => ?_)
  have t_L_τ5 : xt τ5 L = 13 := fg_tag F_τ5 t_L_τ4 (by decide)
  have t_p1_τ5 : xt τ5 p1 = 1 := fg_tag F_τ5 t_p1_τ4 (by decide)
  have t_p2_τ5 : xt τ5 p2 = 1 := fg_tag F_τ5 t_p2_τ4 (by decide)
  have r208_L_τ5 : xr τ5 208 L = some p1 := fg_ref F_τ5 t_L_τ4 (by decide) (by decide) r208_L_τ4
  have r209_L_τ5 : xr τ5 209 L = some p2 := fg_ref F_τ5 t_L_τ4 (by decide) (by decide) r209_L_τ4
  refine ⟨t_L_τ5, fun τ6 e_τ6 => ?_⟩
  have t_L_τ6 : xt τ6 L = 13 := by rw [e_τ6]; exact t_L_τ5
  have t_p1_τ6 : xt τ6 p1 = 1 := by rw [e_τ6]; exact t_p1_τ5
  have t_p2_τ6 : xt τ6 p2 = 1 := by rw [e_τ6]; exact t_p2_τ5
  have t_p3_τ6 : xt τ6 p3 = 1 := by rw [e_τ6]; exact t_p3_τ5
  have r208_L_τ6 : xr τ6 208 L = some p1 := by rw [e_τ6]; exact fg_srX r208_L_τ5 (fun h => absurd h.1 (by decide))
  have r209_L_τ6 : xr τ6 209 L = some p2 := by rw [e_τ6]; exact fg_srX r209_L_τ5 (fun h => absurd h.1 (by decide))
  have r210_L_τ6 : xr τ6 210 L = some p3 := by rw [e_τ6]; exact va_up_self _ _ _
  have C_τ6 : yo0 [(p3, 1), (p2, 1), (p1, 1), (L, 13)] τ6 := by rw [e_τ6]; exact C_τ5
  have LL_τ6 : ∀ g, yL_ g (va_up (va_up (va_up (fun _ => 8) p1 10) p2 8) p3 6) 4 3 τ6 := by rw [e_τ6]; exact LL_τ5
  clear e_τ6
  refine ⟨ry_room (LL_τ6 (fun _ => 0)) (by decide) (by decide), fun p4 h_p4 z_p4 => ?_⟩
  have ne_L_p4 : L ≠ p4 := fun e => by have h := t_L_τ6; rw [e, h_p4] at h; omega
  have ne_p1_p4 : p1 ≠ p4 := fun e => by have h := t_p1_τ6; rw [e, h_p4] at h; omega
  have ne_p2_p4 : p2 ≠ p4 := fun e => by have h := t_p2_τ6; rw [e, h_p4] at h; omega
  have ne_p3_p4 : p3 ≠ p4 := fun e => by have h := t_p3_τ6; rw [e, h_p4] at h; omega
  refine rx_list0 (t := 4) h_p4 (by unfold kx_el; decide) C_τ6 LL_τ6 (fun τ7 F_τ7 t_p4_τ7 C_τ7 LL_τ7 => ?_)
  have t_L_τ7 : xt τ7 L = 13 := fg_tag F_τ7 t_L_τ6 (by decide)
  have t_p1_τ7 : xt τ7 p1 = 1 := fg_tag F_τ7 t_p1_τ6 (by decide)
  have t_p2_τ7 : xt τ7 p2 = 1 := fg_tag F_τ7 t_p2_τ6 (by decide)
  have t_p3_τ7 : xt τ7 p3 = 1 := fg_tag F_τ7 t_p3_τ6 (by decide)
  have r208_L_τ7 : xr τ7 208 L = some p1 := fg_ref F_τ7 t_L_τ6 (by decide) (by decide) r208_L_τ6
  have r209_L_τ7 : xr τ7 209 L = some p2 := fg_ref F_τ7 t_L_τ6 (by decide) (by decide) r209_L_τ6
  have r210_L_τ7 : xr τ7 210 L = some p3 := fg_ref F_τ7 t_L_τ6 (by decide) (by decide) r210_L_τ6
  refine ⟨t_L_τ7, fun τ8 e_τ8 => ?_⟩
  have t_L_τ8 : xt τ8 L = 13 := by rw [e_τ8]; exact t_L_τ7
  have t_p1_τ8 : xt τ8 p1 = 1 := by rw [e_τ8]; exact t_p1_τ7
  have t_p2_τ8 : xt τ8 p2 = 1 := by rw [e_τ8]; exact t_p2_τ7
  have t_p3_τ8 : xt τ8 p3 = 1 := by rw [e_τ8]; exact t_p3_τ7
  have t_p4_τ8 : xt τ8 p4 = 1 := by rw [e_τ8]; exact t_p4_τ7
  have r208_L_τ8 : xr τ8 208 L = some p1 := by rw [e_τ8]; exact fg_srX r208_L_τ7 (fun h => absurd h.1 (by decide))
  have r209_L_τ8 : xr τ8 209 L = some p2 := by rw [e_τ8]; exact fg_srX r209_L_τ7 (fun h => absurd h.1 (by decide))
  have r210_L_τ8 : xr τ8 210 L = some p3 := by rw [e_τ8]; exact fg_srX r210_L_τ7 (fun h => absurd h.1 (by decide))
  have r211_L_τ8 : xr τ8 211 L = some p4 := by rw [e_τ8]; exact va_up_self _ _ _
  have C_τ8 : yo0 [(p4, 1), (p3, 1), (p2, 1), (p1, 1), (L, 13)] τ8 := by rw [e_τ8]; exact C_τ7
  have LL_τ8 : ∀ g, yL_ g (va_up (va_up (va_up (va_up (fun _ => 8) p1 10) p2 8) p3 6) p4 4) 5 4 τ8 := by rw [e_τ8]; exact LL_τ7
  clear e_τ8
  refine ⟨ry_room (LL_τ8 (fun _ => 0)) (by decide) (by decide), fun p5 h_p5 z_p5 => ?_⟩
  have ne_L_p5 : L ≠ p5 := fun e => by have h := t_L_τ8; rw [e, h_p5] at h; omega
  have ne_p1_p5 : p1 ≠ p5 := fun e => by have h := t_p1_τ8; rw [e, h_p5] at h; omega
  have ne_p2_p5 : p2 ≠ p5 := fun e => by have h := t_p2_τ8; rw [e, h_p5] at h; omega
  have ne_p3_p5 : p3 ≠ p5 := fun e => by have h := t_p3_τ8; rw [e, h_p5] at h; omega
  have ne_p4_p5 : p4 ≠ p5 := fun e => by have h := t_p4_τ8; rw [e, h_p5] at h; omega
  refine rx_list0 (t := 9) h_p5 (by unfold kx_el; decide) C_τ8 LL_τ8 (fun τ9 F_τ9 t_p5_τ9 C_τ9 LL_τ9 => ?_)
  have t_L_τ9 : xt τ9 L = 13 := fg_tag F_τ9 t_L_τ8 (by decide)
  have t_p1_τ9 : xt τ9 p1 = 1 := fg_tag F_τ9 t_p1_τ8 (by decide)
  have t_p2_τ9 : xt τ9 p2 = 1 := fg_tag F_τ9 t_p2_τ8 (by decide)
  have t_p3_τ9 : xt τ9 p3 = 1 := fg_tag F_τ9 t_p3_τ8 (by decide)
  have t_p4_τ9 : xt τ9 p4 = 1 := fg_tag F_τ9 t_p4_τ8 (by decide)
  have r208_L_τ9 : xr τ9 208 L = some p1 := fg_ref F_τ9 t_L_τ8 (by decide) (by decide) r208_L_τ8
  have r209_L_τ9 : xr τ9 209 L = some p2 := fg_ref F_τ9 t_L_τ8 (by decide) (by decide) r209_L_τ8
  have r210_L_τ9 : xr τ9 210 L = some p3 := fg_ref F_τ9 t_L_τ8 (by decide) (by decide) r210_L_τ8
  have r211_L_τ9 : xr τ9 211 L = some p4 := fg_ref F_τ9 t_L_τ8 (by decide) (by decide) r211_L_τ8
  refine ⟨t_L_τ9, fun τ10 e_τ10 => ?_⟩
  have t_L_τ10 : xt τ10 L = 13 := by rw [e_τ10]; exact t_L_τ9
  have t_p1_τ10 : xt τ10 p1 = 1 := by rw [e_τ10]; exact t_p1_τ9
  have t_p2_τ10 : xt τ10 p2 = 1 := by rw [e_τ10]; exact t_p2_τ9
  have t_p3_τ10 : xt τ10 p3 = 1 := by rw [e_τ10]; exact t_p3_τ9
  have t_p4_τ10 : xt τ10 p4 = 1 := by rw [e_τ10]; exact t_p4_τ9
  have t_p5_τ10 : xt τ10 p5 = 1 := by rw [e_τ10]; exact t_p5_τ9
  have r208_L_τ10 : xr τ10 208 L = some p1 := by rw [e_τ10]; exact fg_srX r208_L_τ9 (fun h => absurd h.1 (by decide))
  have r209_L_τ10 : xr τ10 209 L = some p2 := by rw [e_τ10]; exact fg_srX r209_L_τ9 (fun h => absurd h.1 (by decide))
  have r210_L_τ10 : xr τ10 210 L = some p3 := by rw [e_τ10]; exact fg_srX r210_L_τ9 (fun h => absurd h.1 (by decide))
  have r211_L_τ10 : xr τ10 211 L = some p4 := by rw [e_τ10]; exact fg_srX r211_L_τ9 (fun h => absurd h.1 (by decide))
  have r212_L_τ10 : xr τ10 212 L = some p5 := by rw [e_τ10]; exact va_up_self _ _ _
  have C_τ10 : yo0 [(p5, 1), (p4, 1), (p3, 1), (p2, 1), (p1, 1), (L, 13)] τ10 := by rw [e_τ10]; exact C_τ9
  have LL_τ10 : ∀ g, yL_ g (va_up (va_up (va_up (va_up (va_up (fun _ => 8) p1 10) p2 8) p3 6) p4 4) p5 9) 6 5 τ10 := by rw [e_τ10]; exact LL_τ9
  clear e_τ10
  refine ⟨ry_room (LL_τ10 (fun _ => 0)) (by decide) (by decide), fun p6 h_p6 z_p6 τ11 e_τ11 => ?_⟩
  have ne_L_p6 : L ≠ p6 := fun e => by have h := t_L_τ10; rw [e, h_p6] at h; omega
  have ne_p1_p6 : p1 ≠ p6 := fun e => by have h := t_p1_τ10; rw [e, h_p6] at h; omega
  have ne_p2_p6 : p2 ≠ p6 := fun e => by have h := t_p2_τ10; rw [e, h_p6] at h; omega
  have ne_p3_p6 : p3 ≠ p6 := fun e => by have h := t_p3_τ10; rw [e, h_p6] at h; omega
  have ne_p4_p6 : p4 ≠ p6 := fun e => by have h := t_p4_τ10; rw [e, h_p6] at h; omega
  have ne_p5_p6 : p5 ≠ p6 := fun e => by have h := t_p5_τ10; rw [e, h_p6] at h; omega
  have F_τ11 : fg_ τ10 τ11 := by rw [e_τ11]; exact fg_new h_p6
  have t_L_τ11 : xt τ11 L = 13 := fg_tag F_τ11 t_L_τ10 (by decide)
  have t_p1_τ11 : xt τ11 p1 = 1 := fg_tag F_τ11 t_p1_τ10 (by decide)
  have t_p2_τ11 : xt τ11 p2 = 1 := fg_tag F_τ11 t_p2_τ10 (by decide)
  have t_p3_τ11 : xt τ11 p3 = 1 := fg_tag F_τ11 t_p3_τ10 (by decide)
  have t_p4_τ11 : xt τ11 p4 = 1 := fg_tag F_τ11 t_p4_τ10 (by decide)
  have t_p5_τ11 : xt τ11 p5 = 1 := fg_tag F_τ11 t_p5_τ10 (by decide)
  have r208_L_τ11 : xr τ11 208 L = some p1 := fg_ref F_τ11 t_L_τ10 (by decide) (by decide) r208_L_τ10
  have r209_L_τ11 : xr τ11 209 L = some p2 := fg_ref F_τ11 t_L_τ10 (by decide) (by decide) r209_L_τ10
  have r210_L_τ11 : xr τ11 210 L = some p3 := fg_ref F_τ11 t_L_τ10 (by decide) (by decide) r210_L_τ10
  have r211_L_τ11 : xr τ11 211 L = some p4 := fg_ref F_τ11 t_L_τ10 (by decide) (by decide) r211_L_τ10
  have r212_L_τ11 : xr τ11 212 L = some p5 := fg_ref F_τ11 t_L_τ10 (by decide) (by decide) r212_L_τ10
  have t_p6_τ11 : xt τ11 p6 = 11 := by rw [e_τ11]; exact va_up_self _ _ _
  have C_τ11 : yo0 [(p6, 11), (p5, 1), (p4, 1), (p3, 1), (p2, 1), (p1, 1), (L, 13)] τ11 := by rw [e_τ11]; exact yo0_new C_τ10
  have LL_τ11 : ∀ g, yL_ g (va_up (va_up (va_up (va_up (va_up (fun _ => 8) p1 10) p2 8) p3 6) p4 4) p5 9) 7 5 τ11 := fun g => by rw [e_τ11]; exact yL_other (LL_τ10 g) h_p6 z_p6 (by decide) rfl (fun a q => va_up_ne _ _ q) (fun a q => va_up_ne _ _ q) (fun a _ => rfl) (fun a _ => rfl) rfl rfl
  clear e_τ11
  refine ⟨ry_room (LL_τ11 (fun _ => 0)) (by decide) (by decide), by decide, by decide, fun q6 h_q6 z_q6 τ12 e_τ12 => ?_⟩
  have ne_L_q6 : L ≠ q6 := fun e => by have h := t_L_τ11; rw [e, h_q6] at h; omega
  have ne_p1_q6 : p1 ≠ q6 := fun e => by have h := t_p1_τ11; rw [e, h_q6] at h; omega
  have ne_p2_q6 : p2 ≠ q6 := fun e => by have h := t_p2_τ11; rw [e, h_q6] at h; omega
  have ne_p3_q6 : p3 ≠ q6 := fun e => by have h := t_p3_τ11; rw [e, h_q6] at h; omega
  have ne_p4_q6 : p4 ≠ q6 := fun e => by have h := t_p4_τ11; rw [e, h_q6] at h; omega
  have ne_p5_q6 : p5 ≠ q6 := fun e => by have h := t_p5_τ11; rw [e, h_q6] at h; omega
  have ne_p6_q6 : p6 ≠ q6 := fun e => by have h := t_p6_τ11; rw [e, h_q6] at h; omega
  have F_τ12 : fg_ τ11 τ12 := by rw [e_τ12]; exact fg_newA h_q6
  have t_L_τ12 : xt τ12 L = 13 := fg_tag F_τ12 t_L_τ11 (by decide)
  have t_p1_τ12 : xt τ12 p1 = 1 := fg_tag F_τ12 t_p1_τ11 (by decide)
  have t_p2_τ12 : xt τ12 p2 = 1 := fg_tag F_τ12 t_p2_τ11 (by decide)
  have t_p3_τ12 : xt τ12 p3 = 1 := fg_tag F_τ12 t_p3_τ11 (by decide)
  have t_p4_τ12 : xt τ12 p4 = 1 := fg_tag F_τ12 t_p4_τ11 (by decide)
  have t_p5_τ12 : xt τ12 p5 = 1 := fg_tag F_τ12 t_p5_τ11 (by decide)
  have t_p6_τ12 : xt τ12 p6 = 11 := fg_tag F_τ12 t_p6_τ11 (by decide)
  have r208_L_τ12 : xr τ12 208 L = some p1 := fg_ref F_τ12 t_L_τ11 (by decide) (by decide) r208_L_τ11
  have r209_L_τ12 : xr τ12 209 L = some p2 := fg_ref F_τ12 t_L_τ11 (by decide) (by decide) r209_L_τ11
  have r210_L_τ12 : xr τ12 210 L = some p3 := fg_ref F_τ12 t_L_τ11 (by decide) (by decide) r210_L_τ11
  have r211_L_τ12 : xr τ12 211 L = some p4 := fg_ref F_τ12 t_L_τ11 (by decide) (by decide) r211_L_τ11
  have r212_L_τ12 : xr τ12 212 L = some p5 := fg_ref F_τ12 t_L_τ11 (by decide) (by decide) r212_L_τ11
  have t_q6_τ12 : xt τ12 q6 = 20 := by rw [e_τ12]; exact va_up_self _ _ _
  have n_q6_τ12 : xn τ12 q6 = 500 := by rw [e_τ12]; exact va_up_self _ _ _
  have C_τ12 : yo0 [(q6, 20), (p6, 11), (p5, 1), (p4, 1), (p3, 1), (p2, 1), (p1, 1), (L, 13)] τ12 := by rw [e_τ12]; exact yo0_newA C_τ11 (by decide)
  have LL_τ12 : ∀ g, yL_ g (va_up (va_up (va_up (va_up (va_up (fun _ => 8) p1 10) p2 8) p3 6) p4 4) p5 9) 8 5 τ12 := fun g => by rw [e_τ12]; exact yL_other (LL_τ11 g) h_q6 z_q6 (by decide) rfl (fun a _ => rfl) (fun a _ => rfl) (fun a q => va_up_ne _ _ q) (fun a q => va_up_ne _ _ q) rfl rfl
  clear e_τ12
  refine ⟨t_p6_τ12, fun τ13 e_τ13 => ?_⟩
  have t_L_τ13 : xt τ13 L = 13 := by rw [e_τ13]; exact t_L_τ12
  have t_p1_τ13 : xt τ13 p1 = 1 := by rw [e_τ13]; exact t_p1_τ12
  have t_p2_τ13 : xt τ13 p2 = 1 := by rw [e_τ13]; exact t_p2_τ12
  have t_p3_τ13 : xt τ13 p3 = 1 := by rw [e_τ13]; exact t_p3_τ12
  have t_p4_τ13 : xt τ13 p4 = 1 := by rw [e_τ13]; exact t_p4_τ12
  have t_p5_τ13 : xt τ13 p5 = 1 := by rw [e_τ13]; exact t_p5_τ12
  have t_p6_τ13 : xt τ13 p6 = 11 := by rw [e_τ13]; exact t_p6_τ12
  have t_q6_τ13 : xt τ13 q6 = 20 := by rw [e_τ13]; exact t_q6_τ12
  have r208_L_τ13 : xr τ13 208 L = some p1 := by rw [e_τ13]; exact fg_srX r208_L_τ12 (fun h => absurd h.1 (by decide))
  have r209_L_τ13 : xr τ13 209 L = some p2 := by rw [e_τ13]; exact fg_srX r209_L_τ12 (fun h => absurd h.1 (by decide))
  have r210_L_τ13 : xr τ13 210 L = some p3 := by rw [e_τ13]; exact fg_srX r210_L_τ12 (fun h => absurd h.1 (by decide))
  have r211_L_τ13 : xr τ13 211 L = some p4 := by rw [e_τ13]; exact fg_srX r211_L_τ12 (fun h => absurd h.1 (by decide))
  have r212_L_τ13 : xr τ13 212 L = some p5 := by rw [e_τ13]; exact fg_srX r212_L_τ12 (fun h => absurd h.1 (by decide))
  have n_q6_τ13 : xn τ13 q6 = 500 := by rw [e_τ13]; exact n_q6_τ12
  have r176_p6_τ13 : xr τ13 176 p6 = some q6 := by rw [e_τ13]; exact va_up_self _ _ _
  have C_τ13 : yo0 [(q6, 20), (p6, 11), (p5, 1), (p4, 1), (p3, 1), (p2, 1), (p1, 1), (L, 13)] τ13 := by rw [e_τ13]; exact C_τ12
  have LL_τ13 : ∀ g, yL_ g (va_up (va_up (va_up (va_up (va_up (fun _ => 8) p1 10) p2 8) p3 6) p4 4) p5 9) 8 5 τ13 := by rw [e_τ13]; exact LL_τ12
  clear e_τ13
  refine ⟨t_L_τ13, fun τ14 e_τ14 => ?_⟩
  have t_L_τ14 : xt τ14 L = 13 := by rw [e_τ14]; exact t_L_τ13
  have t_p1_τ14 : xt τ14 p1 = 1 := by rw [e_τ14]; exact t_p1_τ13
  have t_p2_τ14 : xt τ14 p2 = 1 := by rw [e_τ14]; exact t_p2_τ13
  have t_p3_τ14 : xt τ14 p3 = 1 := by rw [e_τ14]; exact t_p3_τ13
  have t_p4_τ14 : xt τ14 p4 = 1 := by rw [e_τ14]; exact t_p4_τ13
  have t_p5_τ14 : xt τ14 p5 = 1 := by rw [e_τ14]; exact t_p5_τ13
  have t_p6_τ14 : xt τ14 p6 = 11 := by rw [e_τ14]; exact t_p6_τ13
  have t_q6_τ14 : xt τ14 q6 = 20 := by rw [e_τ14]; exact t_q6_τ13
  have r208_L_τ14 : xr τ14 208 L = some p1 := by rw [e_τ14]; exact fg_srX r208_L_τ13 (fun h => absurd h.1 (by decide))
  have r209_L_τ14 : xr τ14 209 L = some p2 := by rw [e_τ14]; exact fg_srX r209_L_τ13 (fun h => absurd h.1 (by decide))
  have r210_L_τ14 : xr τ14 210 L = some p3 := by rw [e_τ14]; exact fg_srX r210_L_τ13 (fun h => absurd h.1 (by decide))
  have r211_L_τ14 : xr τ14 211 L = some p4 := by rw [e_τ14]; exact fg_srX r211_L_τ13 (fun h => absurd h.1 (by decide))
  have r212_L_τ14 : xr τ14 212 L = some p5 := by rw [e_τ14]; exact fg_srX r212_L_τ13 (fun h => absurd h.1 (by decide))
  have r176_p6_τ14 : xr τ14 176 p6 = some q6 := by rw [e_τ14]; exact fg_srX r176_p6_τ13 (fun h => absurd h.1 (by decide))
  have n_q6_τ14 : xn τ14 q6 = 500 := by rw [e_τ14]; exact n_q6_τ13
  have r213_L_τ14 : xr τ14 213 L = some p6 := by rw [e_τ14]; exact va_up_self _ _ _
  have C_τ14 : yo0 [(q6, 20), (p6, 11), (p5, 1), (p4, 1), (p3, 1), (p2, 1), (p1, 1), (L, 13)] τ14 := by rw [e_τ14]; exact C_τ13
  have LL_τ14 : ∀ g, yL_ g (va_up (va_up (va_up (va_up (va_up (fun _ => 8) p1 10) p2 8) p3 6) p4 4) p5 9) 8 5 τ14 := by rw [e_τ14]; exact LL_τ13
  clear e_τ14
  refine ⟨ry_room (LL_τ14 (fun _ => 0)) (by decide) (by decide), fun p7 h_p7 z_p7 τ15 e_τ15 => ?_⟩
  have ne_L_p7 : L ≠ p7 := fun e => by have h := t_L_τ14; rw [e, h_p7] at h; omega
  have ne_p1_p7 : p1 ≠ p7 := fun e => by have h := t_p1_τ14; rw [e, h_p7] at h; omega
  have ne_p2_p7 : p2 ≠ p7 := fun e => by have h := t_p2_τ14; rw [e, h_p7] at h; omega
  have ne_p3_p7 : p3 ≠ p7 := fun e => by have h := t_p3_τ14; rw [e, h_p7] at h; omega
  have ne_p4_p7 : p4 ≠ p7 := fun e => by have h := t_p4_τ14; rw [e, h_p7] at h; omega
  have ne_p5_p7 : p5 ≠ p7 := fun e => by have h := t_p5_τ14; rw [e, h_p7] at h; omega
  have ne_p6_p7 : p6 ≠ p7 := fun e => by have h := t_p6_τ14; rw [e, h_p7] at h; omega
  have ne_q6_p7 : q6 ≠ p7 := fun e => by have h := t_q6_τ14; rw [e, h_p7] at h; omega
  have F_τ15 : fg_ τ14 τ15 := by rw [e_τ15]; exact fg_new h_p7
  have t_L_τ15 : xt τ15 L = 13 := fg_tag F_τ15 t_L_τ14 (by decide)
  have t_p1_τ15 : xt τ15 p1 = 1 := fg_tag F_τ15 t_p1_τ14 (by decide)
  have t_p2_τ15 : xt τ15 p2 = 1 := fg_tag F_τ15 t_p2_τ14 (by decide)
  have t_p3_τ15 : xt τ15 p3 = 1 := fg_tag F_τ15 t_p3_τ14 (by decide)
  have t_p4_τ15 : xt τ15 p4 = 1 := fg_tag F_τ15 t_p4_τ14 (by decide)
  have t_p5_τ15 : xt τ15 p5 = 1 := fg_tag F_τ15 t_p5_τ14 (by decide)
  have t_p6_τ15 : xt τ15 p6 = 11 := fg_tag F_τ15 t_p6_τ14 (by decide)
  have t_q6_τ15 : xt τ15 q6 = 20 := fg_tag F_τ15 t_q6_τ14 (by decide)
  have r208_L_τ15 : xr τ15 208 L = some p1 := fg_ref F_τ15 t_L_τ14 (by decide) (by decide) r208_L_τ14
  have r209_L_τ15 : xr τ15 209 L = some p2 := fg_ref F_τ15 t_L_τ14 (by decide) (by decide) r209_L_τ14
  have r210_L_τ15 : xr τ15 210 L = some p3 := fg_ref F_τ15 t_L_τ14 (by decide) (by decide) r210_L_τ14
  have r211_L_τ15 : xr τ15 211 L = some p4 := fg_ref F_τ15 t_L_τ14 (by decide) (by decide) r211_L_τ14
  have r212_L_τ15 : xr τ15 212 L = some p5 := fg_ref F_τ15 t_L_τ14 (by decide) (by decide) r212_L_τ14
  have r176_p6_τ15 : xr τ15 176 p6 = some q6 := fg_ref F_τ15 t_p6_τ14 (by decide) (by decide) r176_p6_τ14
  have r213_L_τ15 : xr τ15 213 L = some p6 := fg_ref F_τ15 t_L_τ14 (by decide) (by decide) r213_L_τ14
  have n_q6_τ15 : xn τ15 q6 = 500 := (F_τ15.2.2.1 q6 (by rw [t_q6_τ14]; decide)).trans n_q6_τ14
  have t_p7_τ15 : xt τ15 p7 = 7 := by rw [e_τ15]; exact va_up_self _ _ _
  have C_τ15 : yo0 [(p7, 7), (q6, 20), (p6, 11), (p5, 1), (p4, 1), (p3, 1), (p2, 1), (p1, 1), (L, 13)] τ15 := by rw [e_τ15]; exact yo0_new C_τ14
  have LL_τ15 : ∀ g, yL_ g (va_up (va_up (va_up (va_up (va_up (fun _ => 8) p1 10) p2 8) p3 6) p4 4) p5 9) 9 5 τ15 := fun g => by rw [e_τ15]; exact yL_other (LL_τ14 g) h_p7 z_p7 (by decide) rfl (fun a q => va_up_ne _ _ q) (fun a q => va_up_ne _ _ q) (fun a _ => rfl) (fun a _ => rfl) rfl rfl
  clear e_τ15
  refine ⟨t_L_τ15, p6, r213_L_τ15, ?_⟩
  refine ⟨ry_room (LL_τ15 (fun _ => 0)) (by decide) (by decide), fun q7 h_q7 z_q7 τ16 e_τ16 => ?_⟩
  have ne_L_q7 : L ≠ q7 := fun e => by have h := t_L_τ15; rw [e, h_q7] at h; omega
  have ne_p1_q7 : p1 ≠ q7 := fun e => by have h := t_p1_τ15; rw [e, h_q7] at h; omega
  have ne_p2_q7 : p2 ≠ q7 := fun e => by have h := t_p2_τ15; rw [e, h_q7] at h; omega
  have ne_p3_q7 : p3 ≠ q7 := fun e => by have h := t_p3_τ15; rw [e, h_q7] at h; omega
  have ne_p4_q7 : p4 ≠ q7 := fun e => by have h := t_p4_τ15; rw [e, h_q7] at h; omega
  have ne_p5_q7 : p5 ≠ q7 := fun e => by have h := t_p5_τ15; rw [e, h_q7] at h; omega
  have ne_p6_q7 : p6 ≠ q7 := fun e => by have h := t_p6_τ15; rw [e, h_q7] at h; omega
  have ne_q6_q7 : q6 ≠ q7 := fun e => by have h := t_q6_τ15; rw [e, h_q7] at h; omega
  have ne_p7_q7 : p7 ≠ q7 := fun e => by have h := t_p7_τ15; rw [e, h_q7] at h; omega
  have F_τ16 : fg_ τ15 τ16 := by rw [e_τ16]; exact fg_new h_q7
  have t_L_τ16 : xt τ16 L = 13 := fg_tag F_τ16 t_L_τ15 (by decide)
  have t_p1_τ16 : xt τ16 p1 = 1 := fg_tag F_τ16 t_p1_τ15 (by decide)
  have t_p2_τ16 : xt τ16 p2 = 1 := fg_tag F_τ16 t_p2_τ15 (by decide)
  have t_p3_τ16 : xt τ16 p3 = 1 := fg_tag F_τ16 t_p3_τ15 (by decide)
  have t_p4_τ16 : xt τ16 p4 = 1 := fg_tag F_τ16 t_p4_τ15 (by decide)
  have t_p5_τ16 : xt τ16 p5 = 1 := fg_tag F_τ16 t_p5_τ15 (by decide)
  have t_p6_τ16 : xt τ16 p6 = 11 := fg_tag F_τ16 t_p6_τ15 (by decide)
  have t_q6_τ16 : xt τ16 q6 = 20 := fg_tag F_τ16 t_q6_τ15 (by decide)
  have t_p7_τ16 : xt τ16 p7 = 7 := fg_tag F_τ16 t_p7_τ15 (by decide)
  have r208_L_τ16 : xr τ16 208 L = some p1 := fg_ref F_τ16 t_L_τ15 (by decide) (by decide) r208_L_τ15
  have r209_L_τ16 : xr τ16 209 L = some p2 := fg_ref F_τ16 t_L_τ15 (by decide) (by decide) r209_L_τ15
  have r210_L_τ16 : xr τ16 210 L = some p3 := fg_ref F_τ16 t_L_τ15 (by decide) (by decide) r210_L_τ15
  have r211_L_τ16 : xr τ16 211 L = some p4 := fg_ref F_τ16 t_L_τ15 (by decide) (by decide) r211_L_τ15
  have r212_L_τ16 : xr τ16 212 L = some p5 := fg_ref F_τ16 t_L_τ15 (by decide) (by decide) r212_L_τ15
  have r176_p6_τ16 : xr τ16 176 p6 = some q6 := fg_ref F_τ16 t_p6_τ15 (by decide) (by decide) r176_p6_τ15
  have r213_L_τ16 : xr τ16 213 L = some p6 := fg_ref F_τ16 t_L_τ15 (by decide) (by decide) r213_L_τ15
  have n_q6_τ16 : xn τ16 q6 = 500 := (F_τ16.2.2.1 q6 (by rw [t_q6_τ15]; decide)).trans n_q6_τ15
  have t_q7_τ16 : xt τ16 q7 = 12 := by rw [e_τ16]; exact va_up_self _ _ _
  have C_τ16 : yo0 [(q7, 12), (p7, 7), (q6, 20), (p6, 11), (p5, 1), (p4, 1), (p3, 1), (p2, 1), (p1, 1), (L, 13)] τ16 := by rw [e_τ16]; exact yo0_new C_τ15
  have LL_τ16 : ∀ g, yL_ g (va_up (va_up (va_up (va_up (va_up (fun _ => 8) p1 10) p2 8) p3 6) p4 4) p5 9) 10 5 τ16 := fun g => by rw [e_τ16]; exact yL_other (LL_τ15 g) h_q7 z_q7 (by decide) rfl (fun a q => va_up_ne _ _ q) (fun a q => va_up_ne _ _ q) (fun a _ => rfl) (fun a _ => rfl) rfl rfl
  clear e_τ16
  refine ⟨t_q7_τ16, fun τ17 e_τ17 => ?_⟩
  have t_L_τ17 : xt τ17 L = 13 := by rw [e_τ17]; exact t_L_τ16
  have t_p1_τ17 : xt τ17 p1 = 1 := by rw [e_τ17]; exact t_p1_τ16
  have t_p2_τ17 : xt τ17 p2 = 1 := by rw [e_τ17]; exact t_p2_τ16
  have t_p3_τ17 : xt τ17 p3 = 1 := by rw [e_τ17]; exact t_p3_τ16
  have t_p4_τ17 : xt τ17 p4 = 1 := by rw [e_τ17]; exact t_p4_τ16
  have t_p5_τ17 : xt τ17 p5 = 1 := by rw [e_τ17]; exact t_p5_τ16
  have t_p6_τ17 : xt τ17 p6 = 11 := by rw [e_τ17]; exact t_p6_τ16
  have t_q6_τ17 : xt τ17 q6 = 20 := by rw [e_τ17]; exact t_q6_τ16
  have t_p7_τ17 : xt τ17 p7 = 7 := by rw [e_τ17]; exact t_p7_τ16
  have t_q7_τ17 : xt τ17 q7 = 12 := by rw [e_τ17]; exact t_q7_τ16
  have r208_L_τ17 : xr τ17 208 L = some p1 := by rw [e_τ17]; exact fg_srX r208_L_τ16 (fun h => absurd h.1 (by decide))
  have r209_L_τ17 : xr τ17 209 L = some p2 := by rw [e_τ17]; exact fg_srX r209_L_τ16 (fun h => absurd h.1 (by decide))
  have r210_L_τ17 : xr τ17 210 L = some p3 := by rw [e_τ17]; exact fg_srX r210_L_τ16 (fun h => absurd h.1 (by decide))
  have r211_L_τ17 : xr τ17 211 L = some p4 := by rw [e_τ17]; exact fg_srX r211_L_τ16 (fun h => absurd h.1 (by decide))
  have r212_L_τ17 : xr τ17 212 L = some p5 := by rw [e_τ17]; exact fg_srX r212_L_τ16 (fun h => absurd h.1 (by decide))
  have r176_p6_τ17 : xr τ17 176 p6 = some q6 := by rw [e_τ17]; exact fg_srX r176_p6_τ16 (fun h => absurd h.1 (by decide))
  have r213_L_τ17 : xr τ17 213 L = some p6 := by rw [e_τ17]; exact fg_srX r213_L_τ16 (fun h => absurd h.1 (by decide))
  have n_q6_τ17 : xn τ17 q6 = 500 := by rw [e_τ17]; exact n_q6_τ16
  have r192_q7_τ17 : xr τ17 192 q7 = some p6 := by rw [e_τ17]; exact va_up_self _ _ _
  have C_τ17 : yo0 [(q7, 12), (p7, 7), (q6, 20), (p6, 11), (p5, 1), (p4, 1), (p3, 1), (p2, 1), (p1, 1), (L, 13)] τ17 := by rw [e_τ17]; exact C_τ16
  have LL_τ17 : ∀ g, yL_ g (va_up (va_up (va_up (va_up (va_up (fun _ => 8) p1 10) p2 8) p3 6) p4 4) p5 9) 10 5 τ17 := by rw [e_τ17]; exact LL_τ16
  clear e_τ17
  refine ⟨t_p7_τ17, fun τ18 e_τ18 => ?_⟩
  have t_L_τ18 : xt τ18 L = 13 := by rw [e_τ18]; exact t_L_τ17
  have t_p1_τ18 : xt τ18 p1 = 1 := by rw [e_τ18]; exact t_p1_τ17
  have t_p2_τ18 : xt τ18 p2 = 1 := by rw [e_τ18]; exact t_p2_τ17
  have t_p3_τ18 : xt τ18 p3 = 1 := by rw [e_τ18]; exact t_p3_τ17
  have t_p4_τ18 : xt τ18 p4 = 1 := by rw [e_τ18]; exact t_p4_τ17
  have t_p5_τ18 : xt τ18 p5 = 1 := by rw [e_τ18]; exact t_p5_τ17
  have t_p6_τ18 : xt τ18 p6 = 11 := by rw [e_τ18]; exact t_p6_τ17
  have t_q6_τ18 : xt τ18 q6 = 20 := by rw [e_τ18]; exact t_q6_τ17
  have t_p7_τ18 : xt τ18 p7 = 7 := by rw [e_τ18]; exact t_p7_τ17
  have t_q7_τ18 : xt τ18 q7 = 12 := by rw [e_τ18]; exact t_q7_τ17
  have r208_L_τ18 : xr τ18 208 L = some p1 := by rw [e_τ18]; exact fg_srX r208_L_τ17 (fun h => absurd h.1 (by decide))
  have r209_L_τ18 : xr τ18 209 L = some p2 := by rw [e_τ18]; exact fg_srX r209_L_τ17 (fun h => absurd h.1 (by decide))
  have r210_L_τ18 : xr τ18 210 L = some p3 := by rw [e_τ18]; exact fg_srX r210_L_τ17 (fun h => absurd h.1 (by decide))
  have r211_L_τ18 : xr τ18 211 L = some p4 := by rw [e_τ18]; exact fg_srX r211_L_τ17 (fun h => absurd h.1 (by decide))
  have r212_L_τ18 : xr τ18 212 L = some p5 := by rw [e_τ18]; exact fg_srX r212_L_τ17 (fun h => absurd h.1 (by decide))
  have r176_p6_τ18 : xr τ18 176 p6 = some q6 := by rw [e_τ18]; exact fg_srX r176_p6_τ17 (fun h => absurd h.1 (by decide))
  have r213_L_τ18 : xr τ18 213 L = some p6 := by rw [e_τ18]; exact fg_srX r213_L_τ17 (fun h => absurd h.1 (by decide))
  have r192_q7_τ18 : xr τ18 192 q7 = some p6 := by rw [e_τ18]; exact fg_srX r192_q7_τ17 (fun h => absurd h.1 (by decide))
  have n_q6_τ18 : xn τ18 q6 = 500 := by rw [e_τ18]; exact n_q6_τ17
  have r112_p7_τ18 : xr τ18 112 p7 = some q7 := by rw [e_τ18]; exact va_up_self _ _ _
  have C_τ18 : yo0 [(q7, 12), (p7, 7), (q6, 20), (p6, 11), (p5, 1), (p4, 1), (p3, 1), (p2, 1), (p1, 1), (L, 13)] τ18 := by rw [e_τ18]; exact C_τ17
  have LL_τ18 : ∀ g, yL_ g (va_up (va_up (va_up (va_up (va_up (fun _ => 8) p1 10) p2 8) p3 6) p4 4) p5 9) 10 5 τ18 := by rw [e_τ18]; exact LL_τ17
  clear e_τ18
  refine ⟨ry_room (LL_τ18 (fun _ => 0)) (by decide) (by decide), by decide, by decide, fun c7 h_c7 z_c7 τ19 e_τ19 => ?_⟩
  have ne_L_c7 : L ≠ c7 := fun e => by have h := t_L_τ18; rw [e, h_c7] at h; omega
  have ne_p1_c7 : p1 ≠ c7 := fun e => by have h := t_p1_τ18; rw [e, h_c7] at h; omega
  have ne_p2_c7 : p2 ≠ c7 := fun e => by have h := t_p2_τ18; rw [e, h_c7] at h; omega
  have ne_p3_c7 : p3 ≠ c7 := fun e => by have h := t_p3_τ18; rw [e, h_c7] at h; omega
  have ne_p4_c7 : p4 ≠ c7 := fun e => by have h := t_p4_τ18; rw [e, h_c7] at h; omega
  have ne_p5_c7 : p5 ≠ c7 := fun e => by have h := t_p5_τ18; rw [e, h_c7] at h; omega
  have ne_p6_c7 : p6 ≠ c7 := fun e => by have h := t_p6_τ18; rw [e, h_c7] at h; omega
  have ne_q6_c7 : q6 ≠ c7 := fun e => by have h := t_q6_τ18; rw [e, h_c7] at h; omega
  have ne_p7_c7 : p7 ≠ c7 := fun e => by have h := t_p7_τ18; rw [e, h_c7] at h; omega
  have ne_q7_c7 : q7 ≠ c7 := fun e => by have h := t_q7_τ18; rw [e, h_c7] at h; omega
  have F_τ19 : fg_ τ18 τ19 := by rw [e_τ19]; exact fg_newA h_c7
  have t_L_τ19 : xt τ19 L = 13 := fg_tag F_τ19 t_L_τ18 (by decide)
  have t_p1_τ19 : xt τ19 p1 = 1 := fg_tag F_τ19 t_p1_τ18 (by decide)
  have t_p2_τ19 : xt τ19 p2 = 1 := fg_tag F_τ19 t_p2_τ18 (by decide)
  have t_p3_τ19 : xt τ19 p3 = 1 := fg_tag F_τ19 t_p3_τ18 (by decide)
  have t_p4_τ19 : xt τ19 p4 = 1 := fg_tag F_τ19 t_p4_τ18 (by decide)
  have t_p5_τ19 : xt τ19 p5 = 1 := fg_tag F_τ19 t_p5_τ18 (by decide)
  have t_p6_τ19 : xt τ19 p6 = 11 := fg_tag F_τ19 t_p6_τ18 (by decide)
  have t_q6_τ19 : xt τ19 q6 = 20 := fg_tag F_τ19 t_q6_τ18 (by decide)
  have t_p7_τ19 : xt τ19 p7 = 7 := fg_tag F_τ19 t_p7_τ18 (by decide)
  have t_q7_τ19 : xt τ19 q7 = 12 := fg_tag F_τ19 t_q7_τ18 (by decide)
  have r208_L_τ19 : xr τ19 208 L = some p1 := fg_ref F_τ19 t_L_τ18 (by decide) (by decide) r208_L_τ18
  have r209_L_τ19 : xr τ19 209 L = some p2 := fg_ref F_τ19 t_L_τ18 (by decide) (by decide) r209_L_τ18
  have r210_L_τ19 : xr τ19 210 L = some p3 := fg_ref F_τ19 t_L_τ18 (by decide) (by decide) r210_L_τ18
  have r211_L_τ19 : xr τ19 211 L = some p4 := fg_ref F_τ19 t_L_τ18 (by decide) (by decide) r211_L_τ18
  have r212_L_τ19 : xr τ19 212 L = some p5 := fg_ref F_τ19 t_L_τ18 (by decide) (by decide) r212_L_τ18
  have r176_p6_τ19 : xr τ19 176 p6 = some q6 := fg_ref F_τ19 t_p6_τ18 (by decide) (by decide) r176_p6_τ18
  have r213_L_τ19 : xr τ19 213 L = some p6 := fg_ref F_τ19 t_L_τ18 (by decide) (by decide) r213_L_τ18
  have r192_q7_τ19 : xr τ19 192 q7 = some p6 := fg_ref F_τ19 t_q7_τ18 (by decide) (by decide) r192_q7_τ18
  have r112_p7_τ19 : xr τ19 112 p7 = some q7 := fg_ref F_τ19 t_p7_τ18 (by decide) (by decide) r112_p7_τ18
  have n_q6_τ19 : xn τ19 q6 = 500 := (F_τ19.2.2.1 q6 (by rw [t_q6_τ18]; decide)).trans n_q6_τ18
  have t_c7_τ19 : xt τ19 c7 = 20 := by rw [e_τ19]; exact va_up_self _ _ _
  have n_c7_τ19 : xn τ19 c7 = 500 := by rw [e_τ19]; exact va_up_self _ _ _
  have C_τ19 : yo0 [(c7, 20), (q7, 12), (p7, 7), (q6, 20), (p6, 11), (p5, 1), (p4, 1), (p3, 1), (p2, 1), (p1, 1), (L, 13)] τ19 := by rw [e_τ19]; exact yo0_newA C_τ18 (by decide)
  have LL_τ19 : ∀ g, yL_ g (va_up (va_up (va_up (va_up (va_up (fun _ => 8) p1 10) p2 8) p3 6) p4 4) p5 9) 11 5 τ19 := fun g => by rw [e_τ19]; exact yL_other (LL_τ18 g) h_c7 z_c7 (by decide) rfl (fun a _ => rfl) (fun a _ => rfl) (fun a q => va_up_ne _ _ q) (fun a q => va_up_ne _ _ q) rfl rfl
  clear e_τ19
  refine ⟨t_p7_τ19, fun τ20 e_τ20 => ?_⟩
  have t_L_τ20 : xt τ20 L = 13 := by rw [e_τ20]; exact t_L_τ19
  have t_p1_τ20 : xt τ20 p1 = 1 := by rw [e_τ20]; exact t_p1_τ19
  have t_p2_τ20 : xt τ20 p2 = 1 := by rw [e_τ20]; exact t_p2_τ19
  have t_p3_τ20 : xt τ20 p3 = 1 := by rw [e_τ20]; exact t_p3_τ19
  have t_p4_τ20 : xt τ20 p4 = 1 := by rw [e_τ20]; exact t_p4_τ19
  have t_p5_τ20 : xt τ20 p5 = 1 := by rw [e_τ20]; exact t_p5_τ19
  have t_p6_τ20 : xt τ20 p6 = 11 := by rw [e_τ20]; exact t_p6_τ19
  have t_q6_τ20 : xt τ20 q6 = 20 := by rw [e_τ20]; exact t_q6_τ19
  have t_p7_τ20 : xt τ20 p7 = 7 := by rw [e_τ20]; exact t_p7_τ19
  have t_q7_τ20 : xt τ20 q7 = 12 := by rw [e_τ20]; exact t_q7_τ19
  have t_c7_τ20 : xt τ20 c7 = 20 := by rw [e_τ20]; exact t_c7_τ19
  have r208_L_τ20 : xr τ20 208 L = some p1 := by rw [e_τ20]; exact fg_srX r208_L_τ19 (fun h => absurd h.1 (by decide))
  have r209_L_τ20 : xr τ20 209 L = some p2 := by rw [e_τ20]; exact fg_srX r209_L_τ19 (fun h => absurd h.1 (by decide))
  have r210_L_τ20 : xr τ20 210 L = some p3 := by rw [e_τ20]; exact fg_srX r210_L_τ19 (fun h => absurd h.1 (by decide))
  have r211_L_τ20 : xr τ20 211 L = some p4 := by rw [e_τ20]; exact fg_srX r211_L_τ19 (fun h => absurd h.1 (by decide))
  have r212_L_τ20 : xr τ20 212 L = some p5 := by rw [e_τ20]; exact fg_srX r212_L_τ19 (fun h => absurd h.1 (by decide))
  have r176_p6_τ20 : xr τ20 176 p6 = some q6 := by rw [e_τ20]; exact fg_srX r176_p6_τ19 (fun h => absurd h.1 (by decide))
  have r213_L_τ20 : xr τ20 213 L = some p6 := by rw [e_τ20]; exact fg_srX r213_L_τ19 (fun h => absurd h.1 (by decide))
  have r192_q7_τ20 : xr τ20 192 q7 = some p6 := by rw [e_τ20]; exact fg_srX r192_q7_τ19 (fun h => absurd h.1 (by decide))
  have r112_p7_τ20 : xr τ20 112 p7 = some q7 := by rw [e_τ20]; exact fg_srX r112_p7_τ19 (fun h => absurd h.1 (by decide))
  have n_q6_τ20 : xn τ20 q6 = 500 := by rw [e_τ20]; exact n_q6_τ19
  have n_c7_τ20 : xn τ20 c7 = 500 := by rw [e_τ20]; exact n_c7_τ19
  have r113_p7_τ20 : xr τ20 113 p7 = some c7 := by rw [e_τ20]; exact va_up_self _ _ _
  have C_τ20 : yo0 [(c7, 20), (q7, 12), (p7, 7), (q6, 20), (p6, 11), (p5, 1), (p4, 1), (p3, 1), (p2, 1), (p1, 1), (L, 13)] τ20 := by rw [e_τ20]; exact C_τ19
  have LL_τ20 : ∀ g, yL_ g (va_up (va_up (va_up (va_up (va_up (fun _ => 8) p1 10) p2 8) p3 6) p4 4) p5 9) 11 5 τ20 := by rw [e_τ20]; exact LL_τ19
  clear e_τ20
  refine ⟨t_L_τ20, fun τ21 e_τ21 => ?_⟩
  have t_L_τ21 : xt τ21 L = 13 := by rw [e_τ21]; exact t_L_τ20
  have t_p1_τ21 : xt τ21 p1 = 1 := by rw [e_τ21]; exact t_p1_τ20
  have t_p2_τ21 : xt τ21 p2 = 1 := by rw [e_τ21]; exact t_p2_τ20
  have t_p3_τ21 : xt τ21 p3 = 1 := by rw [e_τ21]; exact t_p3_τ20
  have t_p4_τ21 : xt τ21 p4 = 1 := by rw [e_τ21]; exact t_p4_τ20
  have t_p5_τ21 : xt τ21 p5 = 1 := by rw [e_τ21]; exact t_p5_τ20
  have t_p6_τ21 : xt τ21 p6 = 11 := by rw [e_τ21]; exact t_p6_τ20
  have t_q6_τ21 : xt τ21 q6 = 20 := by rw [e_τ21]; exact t_q6_τ20
  have t_p7_τ21 : xt τ21 p7 = 7 := by rw [e_τ21]; exact t_p7_τ20
  have t_q7_τ21 : xt τ21 q7 = 12 := by rw [e_τ21]; exact t_q7_τ20
  have t_c7_τ21 : xt τ21 c7 = 20 := by rw [e_τ21]; exact t_c7_τ20
  have r208_L_τ21 : xr τ21 208 L = some p1 := by rw [e_τ21]; exact fg_srX r208_L_τ20 (fun h => absurd h.1 (by decide))
  have r209_L_τ21 : xr τ21 209 L = some p2 := by rw [e_τ21]; exact fg_srX r209_L_τ20 (fun h => absurd h.1 (by decide))
  have r210_L_τ21 : xr τ21 210 L = some p3 := by rw [e_τ21]; exact fg_srX r210_L_τ20 (fun h => absurd h.1 (by decide))
  have r211_L_τ21 : xr τ21 211 L = some p4 := by rw [e_τ21]; exact fg_srX r211_L_τ20 (fun h => absurd h.1 (by decide))
  have r212_L_τ21 : xr τ21 212 L = some p5 := by rw [e_τ21]; exact fg_srX r212_L_τ20 (fun h => absurd h.1 (by decide))
  have r176_p6_τ21 : xr τ21 176 p6 = some q6 := by rw [e_τ21]; exact fg_srX r176_p6_τ20 (fun h => absurd h.1 (by decide))
  have r213_L_τ21 : xr τ21 213 L = some p6 := by rw [e_τ21]; exact fg_srX r213_L_τ20 (fun h => absurd h.1 (by decide))
  have r192_q7_τ21 : xr τ21 192 q7 = some p6 := by rw [e_τ21]; exact fg_srX r192_q7_τ20 (fun h => absurd h.1 (by decide))
  have r112_p7_τ21 : xr τ21 112 p7 = some q7 := by rw [e_τ21]; exact fg_srX r112_p7_τ20 (fun h => absurd h.1 (by decide))
  have r113_p7_τ21 : xr τ21 113 p7 = some c7 := by rw [e_τ21]; exact fg_srX r113_p7_τ20 (fun h => absurd h.1 (by decide))
  have n_q6_τ21 : xn τ21 q6 = 500 := by rw [e_τ21]; exact n_q6_τ20
  have n_c7_τ21 : xn τ21 c7 = 500 := by rw [e_τ21]; exact n_c7_τ20
  have r214_L_τ21 : xr τ21 214 L = some p7 := by rw [e_τ21]; exact va_up_self _ _ _
  have C_τ21 : yo0 [(c7, 20), (q7, 12), (p7, 7), (q6, 20), (p6, 11), (p5, 1), (p4, 1), (p3, 1), (p2, 1), (p1, 1), (L, 13)] τ21 := by rw [e_τ21]; exact C_τ20
  have LL_τ21 : ∀ g, yL_ g (va_up (va_up (va_up (va_up (va_up (fun _ => 8) p1 10) p2 8) p3 6) p4 4) p5 9) 11 5 τ21 := by rw [e_τ21]; exact LL_τ20
  clear e_τ21
  refine ⟨ry_room (LL_τ21 (fun _ => 0)) (by decide) (by decide), fun p8 h_p8 z_p8 τ22 e_τ22 => ?_⟩
  have ne_L_p8 : L ≠ p8 := fun e => by have h := t_L_τ21; rw [e, h_p8] at h; omega
  have ne_p1_p8 : p1 ≠ p8 := fun e => by have h := t_p1_τ21; rw [e, h_p8] at h; omega
  have ne_p2_p8 : p2 ≠ p8 := fun e => by have h := t_p2_τ21; rw [e, h_p8] at h; omega
  have ne_p3_p8 : p3 ≠ p8 := fun e => by have h := t_p3_τ21; rw [e, h_p8] at h; omega
  have ne_p4_p8 : p4 ≠ p8 := fun e => by have h := t_p4_τ21; rw [e, h_p8] at h; omega
  have ne_p5_p8 : p5 ≠ p8 := fun e => by have h := t_p5_τ21; rw [e, h_p8] at h; omega
  have ne_p6_p8 : p6 ≠ p8 := fun e => by have h := t_p6_τ21; rw [e, h_p8] at h; omega
  have ne_q6_p8 : q6 ≠ p8 := fun e => by have h := t_q6_τ21; rw [e, h_p8] at h; omega
  have ne_p7_p8 : p7 ≠ p8 := fun e => by have h := t_p7_τ21; rw [e, h_p8] at h; omega
  have ne_q7_p8 : q7 ≠ p8 := fun e => by have h := t_q7_τ21; rw [e, h_p8] at h; omega
  have ne_c7_p8 : c7 ≠ p8 := fun e => by have h := t_c7_τ21; rw [e, h_p8] at h; omega
  have F_τ22 : fg_ τ21 τ22 := by rw [e_τ22]; exact fg_new h_p8
  have t_L_τ22 : xt τ22 L = 13 := fg_tag F_τ22 t_L_τ21 (by decide)
  have t_p1_τ22 : xt τ22 p1 = 1 := fg_tag F_τ22 t_p1_τ21 (by decide)
  have t_p2_τ22 : xt τ22 p2 = 1 := fg_tag F_τ22 t_p2_τ21 (by decide)
  have t_p3_τ22 : xt τ22 p3 = 1 := fg_tag F_τ22 t_p3_τ21 (by decide)
  have t_p4_τ22 : xt τ22 p4 = 1 := fg_tag F_τ22 t_p4_τ21 (by decide)
  have t_p5_τ22 : xt τ22 p5 = 1 := fg_tag F_τ22 t_p5_τ21 (by decide)
  have t_p6_τ22 : xt τ22 p6 = 11 := fg_tag F_τ22 t_p6_τ21 (by decide)
  have t_q6_τ22 : xt τ22 q6 = 20 := fg_tag F_τ22 t_q6_τ21 (by decide)
  have t_p7_τ22 : xt τ22 p7 = 7 := fg_tag F_τ22 t_p7_τ21 (by decide)
  have t_q7_τ22 : xt τ22 q7 = 12 := fg_tag F_τ22 t_q7_τ21 (by decide)
  have t_c7_τ22 : xt τ22 c7 = 20 := fg_tag F_τ22 t_c7_τ21 (by decide)
  have r208_L_τ22 : xr τ22 208 L = some p1 := fg_ref F_τ22 t_L_τ21 (by decide) (by decide) r208_L_τ21
  have r209_L_τ22 : xr τ22 209 L = some p2 := fg_ref F_τ22 t_L_τ21 (by decide) (by decide) r209_L_τ21
  have r210_L_τ22 : xr τ22 210 L = some p3 := fg_ref F_τ22 t_L_τ21 (by decide) (by decide) r210_L_τ21
  have r211_L_τ22 : xr τ22 211 L = some p4 := fg_ref F_τ22 t_L_τ21 (by decide) (by decide) r211_L_τ21
  have r212_L_τ22 : xr τ22 212 L = some p5 := fg_ref F_τ22 t_L_τ21 (by decide) (by decide) r212_L_τ21
  have r176_p6_τ22 : xr τ22 176 p6 = some q6 := fg_ref F_τ22 t_p6_τ21 (by decide) (by decide) r176_p6_τ21
  have r213_L_τ22 : xr τ22 213 L = some p6 := fg_ref F_τ22 t_L_τ21 (by decide) (by decide) r213_L_τ21
  have r192_q7_τ22 : xr τ22 192 q7 = some p6 := fg_ref F_τ22 t_q7_τ21 (by decide) (by decide) r192_q7_τ21
  have r112_p7_τ22 : xr τ22 112 p7 = some q7 := fg_ref F_τ22 t_p7_τ21 (by decide) (by decide) r112_p7_τ21
  have r113_p7_τ22 : xr τ22 113 p7 = some c7 := fg_ref F_τ22 t_p7_τ21 (by decide) (by decide) r113_p7_τ21
  have r214_L_τ22 : xr τ22 214 L = some p7 := fg_ref F_τ22 t_L_τ21 (by decide) (by decide) r214_L_τ21
  have n_q6_τ22 : xn τ22 q6 = 500 := (F_τ22.2.2.1 q6 (by rw [t_q6_τ21]; decide)).trans n_q6_τ21
  have n_c7_τ22 : xn τ22 c7 = 500 := (F_τ22.2.2.1 c7 (by rw [t_c7_τ21]; decide)).trans n_c7_τ21
  have t_p8_τ22 : xt τ22 p8 = 5 := by rw [e_τ22]; exact va_up_self _ _ _
  have C_τ22 : yo0 [(p8, 5), (c7, 20), (q7, 12), (p7, 7), (q6, 20), (p6, 11), (p5, 1), (p4, 1), (p3, 1), (p2, 1), (p1, 1), (L, 13)] τ22 := by rw [e_τ22]; exact yo0_new C_τ21
  have LL_τ22 : ∀ g, yL_ g (va_up (va_up (va_up (va_up (va_up (fun _ => 8) p1 10) p2 8) p3 6) p4 4) p5 9) 12 5 τ22 := fun g => by rw [e_τ22]; exact yL_other (LL_τ21 g) h_p8 z_p8 (by decide) rfl (fun a q => va_up_ne _ _ q) (fun a q => va_up_ne _ _ q) (fun a _ => rfl) (fun a _ => rfl) rfl rfl
  clear e_τ22
  refine ⟨ry_room (LL_τ22 (fun _ => 0)) (by decide) (by decide), by decide, by decide, fun s8 h_s8 z_s8 τ23 e_τ23 => ?_⟩
  have ne_L_s8 : L ≠ s8 := fun e => by have h := t_L_τ22; rw [e, h_s8] at h; omega
  have ne_p1_s8 : p1 ≠ s8 := fun e => by have h := t_p1_τ22; rw [e, h_s8] at h; omega
  have ne_p2_s8 : p2 ≠ s8 := fun e => by have h := t_p2_τ22; rw [e, h_s8] at h; omega
  have ne_p3_s8 : p3 ≠ s8 := fun e => by have h := t_p3_τ22; rw [e, h_s8] at h; omega
  have ne_p4_s8 : p4 ≠ s8 := fun e => by have h := t_p4_τ22; rw [e, h_s8] at h; omega
  have ne_p5_s8 : p5 ≠ s8 := fun e => by have h := t_p5_τ22; rw [e, h_s8] at h; omega
  have ne_p6_s8 : p6 ≠ s8 := fun e => by have h := t_p6_τ22; rw [e, h_s8] at h; omega
  have ne_q6_s8 : q6 ≠ s8 := fun e => by have h := t_q6_τ22; rw [e, h_s8] at h; omega
  have ne_p7_s8 : p7 ≠ s8 := fun e => by have h := t_p7_τ22; rw [e, h_s8] at h; omega
  have ne_q7_s8 : q7 ≠ s8 := fun e => by have h := t_q7_τ22; rw [e, h_s8] at h; omega
  have ne_c7_s8 : c7 ≠ s8 := fun e => by have h := t_c7_τ22; rw [e, h_s8] at h; omega
  have ne_p8_s8 : p8 ≠ s8 := fun e => by have h := t_p8_τ22; rw [e, h_s8] at h; omega
  have F_τ23 : fg_ τ22 τ23 := by rw [e_τ23]; exact fg_newA h_s8
  have t_L_τ23 : xt τ23 L = 13 := fg_tag F_τ23 t_L_τ22 (by decide)
  have t_p1_τ23 : xt τ23 p1 = 1 := fg_tag F_τ23 t_p1_τ22 (by decide)
  have t_p2_τ23 : xt τ23 p2 = 1 := fg_tag F_τ23 t_p2_τ22 (by decide)
  have t_p3_τ23 : xt τ23 p3 = 1 := fg_tag F_τ23 t_p3_τ22 (by decide)
  have t_p4_τ23 : xt τ23 p4 = 1 := fg_tag F_τ23 t_p4_τ22 (by decide)
  have t_p5_τ23 : xt τ23 p5 = 1 := fg_tag F_τ23 t_p5_τ22 (by decide)
  have t_p6_τ23 : xt τ23 p6 = 11 := fg_tag F_τ23 t_p6_τ22 (by decide)
  have t_q6_τ23 : xt τ23 q6 = 20 := fg_tag F_τ23 t_q6_τ22 (by decide)
  have t_p7_τ23 : xt τ23 p7 = 7 := fg_tag F_τ23 t_p7_τ22 (by decide)
  have t_q7_τ23 : xt τ23 q7 = 12 := fg_tag F_τ23 t_q7_τ22 (by decide)
  have t_c7_τ23 : xt τ23 c7 = 20 := fg_tag F_τ23 t_c7_τ22 (by decide)
  have t_p8_τ23 : xt τ23 p8 = 5 := fg_tag F_τ23 t_p8_τ22 (by decide)
  have r208_L_τ23 : xr τ23 208 L = some p1 := fg_ref F_τ23 t_L_τ22 (by decide) (by decide) r208_L_τ22
  have r209_L_τ23 : xr τ23 209 L = some p2 := fg_ref F_τ23 t_L_τ22 (by decide) (by decide) r209_L_τ22
  have r210_L_τ23 : xr τ23 210 L = some p3 := fg_ref F_τ23 t_L_τ22 (by decide) (by decide) r210_L_τ22
  have r211_L_τ23 : xr τ23 211 L = some p4 := fg_ref F_τ23 t_L_τ22 (by decide) (by decide) r211_L_τ22
  have r212_L_τ23 : xr τ23 212 L = some p5 := fg_ref F_τ23 t_L_τ22 (by decide) (by decide) r212_L_τ22
  have r176_p6_τ23 : xr τ23 176 p6 = some q6 := fg_ref F_τ23 t_p6_τ22 (by decide) (by decide) r176_p6_τ22
  have r213_L_τ23 : xr τ23 213 L = some p6 := fg_ref F_τ23 t_L_τ22 (by decide) (by decide) r213_L_τ22
  have r192_q7_τ23 : xr τ23 192 q7 = some p6 := fg_ref F_τ23 t_q7_τ22 (by decide) (by decide) r192_q7_τ22
  have r112_p7_τ23 : xr τ23 112 p7 = some q7 := fg_ref F_τ23 t_p7_τ22 (by decide) (by decide) r112_p7_τ22
  have r113_p7_τ23 : xr τ23 113 p7 = some c7 := fg_ref F_τ23 t_p7_τ22 (by decide) (by decide) r113_p7_τ22
  have r214_L_τ23 : xr τ23 214 L = some p7 := fg_ref F_τ23 t_L_τ22 (by decide) (by decide) r214_L_τ22
  have n_q6_τ23 : xn τ23 q6 = 500 := (F_τ23.2.2.1 q6 (by rw [t_q6_τ22]; decide)).trans n_q6_τ22
  have n_c7_τ23 : xn τ23 c7 = 500 := (F_τ23.2.2.1 c7 (by rw [t_c7_τ22]; decide)).trans n_c7_τ22
  have t_s8_τ23 : xt τ23 s8 = 20 := by rw [e_τ23]; exact va_up_self _ _ _
  have n_s8_τ23 : xn τ23 s8 = 33 := by rw [e_τ23]; exact va_up_self _ _ _
  have C_τ23 : yo0 [(s8, 20), (p8, 5), (c7, 20), (q7, 12), (p7, 7), (q6, 20), (p6, 11), (p5, 1), (p4, 1), (p3, 1), (p2, 1), (p1, 1), (L, 13)] τ23 := by rw [e_τ23]; exact yo0_newA C_τ22 (by decide)
  have LL_τ23 : ∀ g, yL_ g (va_up (va_up (va_up (va_up (va_up (fun _ => 8) p1 10) p2 8) p3 6) p4 4) p5 9) 13 5 τ23 := fun g => by rw [e_τ23]; exact yL_other (LL_τ22 g) h_s8 z_s8 (by decide) rfl (fun a _ => rfl) (fun a _ => rfl) (fun a q => va_up_ne _ _ q) (fun a q => va_up_ne _ _ q) rfl rfl
  clear e_τ23
  refine ⟨t_p8_τ23, fun τ24 e_τ24 => ?_⟩
  have t_L_τ24 : xt τ24 L = 13 := by rw [e_τ24]; exact t_L_τ23
  have t_p1_τ24 : xt τ24 p1 = 1 := by rw [e_τ24]; exact t_p1_τ23
  have t_p2_τ24 : xt τ24 p2 = 1 := by rw [e_τ24]; exact t_p2_τ23
  have t_p3_τ24 : xt τ24 p3 = 1 := by rw [e_τ24]; exact t_p3_τ23
  have t_p4_τ24 : xt τ24 p4 = 1 := by rw [e_τ24]; exact t_p4_τ23
  have t_p5_τ24 : xt τ24 p5 = 1 := by rw [e_τ24]; exact t_p5_τ23
  have t_p6_τ24 : xt τ24 p6 = 11 := by rw [e_τ24]; exact t_p6_τ23
  have t_q6_τ24 : xt τ24 q6 = 20 := by rw [e_τ24]; exact t_q6_τ23
  have t_p7_τ24 : xt τ24 p7 = 7 := by rw [e_τ24]; exact t_p7_τ23
  have t_q7_τ24 : xt τ24 q7 = 12 := by rw [e_τ24]; exact t_q7_τ23
  have t_c7_τ24 : xt τ24 c7 = 20 := by rw [e_τ24]; exact t_c7_τ23
  have t_p8_τ24 : xt τ24 p8 = 5 := by rw [e_τ24]; exact t_p8_τ23
  have t_s8_τ24 : xt τ24 s8 = 20 := by rw [e_τ24]; exact t_s8_τ23
  have r208_L_τ24 : xr τ24 208 L = some p1 := by rw [e_τ24]; exact fg_srX r208_L_τ23 (fun h => absurd h.1 (by decide))
  have r209_L_τ24 : xr τ24 209 L = some p2 := by rw [e_τ24]; exact fg_srX r209_L_τ23 (fun h => absurd h.1 (by decide))
  have r210_L_τ24 : xr τ24 210 L = some p3 := by rw [e_τ24]; exact fg_srX r210_L_τ23 (fun h => absurd h.1 (by decide))
  have r211_L_τ24 : xr τ24 211 L = some p4 := by rw [e_τ24]; exact fg_srX r211_L_τ23 (fun h => absurd h.1 (by decide))
  have r212_L_τ24 : xr τ24 212 L = some p5 := by rw [e_τ24]; exact fg_srX r212_L_τ23 (fun h => absurd h.1 (by decide))
  have r176_p6_τ24 : xr τ24 176 p6 = some q6 := by rw [e_τ24]; exact fg_srX r176_p6_τ23 (fun h => absurd h.1 (by decide))
  have r213_L_τ24 : xr τ24 213 L = some p6 := by rw [e_τ24]; exact fg_srX r213_L_τ23 (fun h => absurd h.1 (by decide))
  have r192_q7_τ24 : xr τ24 192 q7 = some p6 := by rw [e_τ24]; exact fg_srX r192_q7_τ23 (fun h => absurd h.1 (by decide))
  have r112_p7_τ24 : xr τ24 112 p7 = some q7 := by rw [e_τ24]; exact fg_srX r112_p7_τ23 (fun h => absurd h.1 (by decide))
  have r113_p7_τ24 : xr τ24 113 p7 = some c7 := by rw [e_τ24]; exact fg_srX r113_p7_τ23 (fun h => absurd h.1 (by decide))
  have r214_L_τ24 : xr τ24 214 L = some p7 := by rw [e_τ24]; exact fg_srX r214_L_τ23 (fun h => absurd h.1 (by decide))
  have n_q6_τ24 : xn τ24 q6 = 500 := by rw [e_τ24]; exact n_q6_τ23
  have n_c7_τ24 : xn τ24 c7 = 500 := by rw [e_τ24]; exact n_c7_τ23
  have n_s8_τ24 : xn τ24 s8 = 33 := by rw [e_τ24]; exact n_s8_τ23
  have r80_p8_τ24 : xr τ24 80 p8 = some s8 := by rw [e_τ24]; exact va_up_self _ _ _
  have C_τ24 : yo0 [(s8, 20), (p8, 5), (c7, 20), (q7, 12), (p7, 7), (q6, 20), (p6, 11), (p5, 1), (p4, 1), (p3, 1), (p2, 1), (p1, 1), (L, 13)] τ24 := by rw [e_τ24]; exact C_τ23
  have LL_τ24 : ∀ g, yL_ g (va_up (va_up (va_up (va_up (va_up (fun _ => 8) p1 10) p2 8) p3 6) p4 4) p5 9) 13 5 τ24 := by rw [e_τ24]; exact LL_τ23
  clear e_τ24
  refine ⟨ry_room (LL_τ24 (fun _ => 0)) (by decide) (by decide), by decide, by decide, fun n8 h_n8 z_n8 τ25 e_τ25 => ?_⟩
  have ne_L_n8 : L ≠ n8 := fun e => by have h := t_L_τ24; rw [e, h_n8] at h; omega
  have ne_p1_n8 : p1 ≠ n8 := fun e => by have h := t_p1_τ24; rw [e, h_n8] at h; omega
  have ne_p2_n8 : p2 ≠ n8 := fun e => by have h := t_p2_τ24; rw [e, h_n8] at h; omega
  have ne_p3_n8 : p3 ≠ n8 := fun e => by have h := t_p3_τ24; rw [e, h_n8] at h; omega
  have ne_p4_n8 : p4 ≠ n8 := fun e => by have h := t_p4_τ24; rw [e, h_n8] at h; omega
  have ne_p5_n8 : p5 ≠ n8 := fun e => by have h := t_p5_τ24; rw [e, h_n8] at h; omega
  have ne_p6_n8 : p6 ≠ n8 := fun e => by have h := t_p6_τ24; rw [e, h_n8] at h; omega
  have ne_q6_n8 : q6 ≠ n8 := fun e => by have h := t_q6_τ24; rw [e, h_n8] at h; omega
  have ne_p7_n8 : p7 ≠ n8 := fun e => by have h := t_p7_τ24; rw [e, h_n8] at h; omega
  have ne_q7_n8 : q7 ≠ n8 := fun e => by have h := t_q7_τ24; rw [e, h_n8] at h; omega
  have ne_c7_n8 : c7 ≠ n8 := fun e => by have h := t_c7_τ24; rw [e, h_n8] at h; omega
  have ne_p8_n8 : p8 ≠ n8 := fun e => by have h := t_p8_τ24; rw [e, h_n8] at h; omega
  have ne_s8_n8 : s8 ≠ n8 := fun e => by have h := t_s8_τ24; rw [e, h_n8] at h; omega
  have F_τ25 : fg_ τ24 τ25 := by rw [e_τ25]; exact fg_newA h_n8
  have t_L_τ25 : xt τ25 L = 13 := fg_tag F_τ25 t_L_τ24 (by decide)
  have t_p1_τ25 : xt τ25 p1 = 1 := fg_tag F_τ25 t_p1_τ24 (by decide)
  have t_p2_τ25 : xt τ25 p2 = 1 := fg_tag F_τ25 t_p2_τ24 (by decide)
  have t_p3_τ25 : xt τ25 p3 = 1 := fg_tag F_τ25 t_p3_τ24 (by decide)
  have t_p4_τ25 : xt τ25 p4 = 1 := fg_tag F_τ25 t_p4_τ24 (by decide)
  have t_p5_τ25 : xt τ25 p5 = 1 := fg_tag F_τ25 t_p5_τ24 (by decide)
  have t_p6_τ25 : xt τ25 p6 = 11 := fg_tag F_τ25 t_p6_τ24 (by decide)
  have t_q6_τ25 : xt τ25 q6 = 20 := fg_tag F_τ25 t_q6_τ24 (by decide)
  have t_p7_τ25 : xt τ25 p7 = 7 := fg_tag F_τ25 t_p7_τ24 (by decide)
  have t_q7_τ25 : xt τ25 q7 = 12 := fg_tag F_τ25 t_q7_τ24 (by decide)
  have t_c7_τ25 : xt τ25 c7 = 20 := fg_tag F_τ25 t_c7_τ24 (by decide)
  have t_p8_τ25 : xt τ25 p8 = 5 := fg_tag F_τ25 t_p8_τ24 (by decide)
  have t_s8_τ25 : xt τ25 s8 = 20 := fg_tag F_τ25 t_s8_τ24 (by decide)
  have r208_L_τ25 : xr τ25 208 L = some p1 := fg_ref F_τ25 t_L_τ24 (by decide) (by decide) r208_L_τ24
  have r209_L_τ25 : xr τ25 209 L = some p2 := fg_ref F_τ25 t_L_τ24 (by decide) (by decide) r209_L_τ24
  have r210_L_τ25 : xr τ25 210 L = some p3 := fg_ref F_τ25 t_L_τ24 (by decide) (by decide) r210_L_τ24
  have r211_L_τ25 : xr τ25 211 L = some p4 := fg_ref F_τ25 t_L_τ24 (by decide) (by decide) r211_L_τ24
  have r212_L_τ25 : xr τ25 212 L = some p5 := fg_ref F_τ25 t_L_τ24 (by decide) (by decide) r212_L_τ24
  have r176_p6_τ25 : xr τ25 176 p6 = some q6 := fg_ref F_τ25 t_p6_τ24 (by decide) (by decide) r176_p6_τ24
  have r213_L_τ25 : xr τ25 213 L = some p6 := fg_ref F_τ25 t_L_τ24 (by decide) (by decide) r213_L_τ24
  have r192_q7_τ25 : xr τ25 192 q7 = some p6 := fg_ref F_τ25 t_q7_τ24 (by decide) (by decide) r192_q7_τ24
  have r112_p7_τ25 : xr τ25 112 p7 = some q7 := fg_ref F_τ25 t_p7_τ24 (by decide) (by decide) r112_p7_τ24
  have r113_p7_τ25 : xr τ25 113 p7 = some c7 := fg_ref F_τ25 t_p7_τ24 (by decide) (by decide) r113_p7_τ24
  have r214_L_τ25 : xr τ25 214 L = some p7 := fg_ref F_τ25 t_L_τ24 (by decide) (by decide) r214_L_τ24
  have r80_p8_τ25 : xr τ25 80 p8 = some s8 := fg_ref F_τ25 t_p8_τ24 (by decide) (by decide) r80_p8_τ24
  have n_q6_τ25 : xn τ25 q6 = 500 := (F_τ25.2.2.1 q6 (by rw [t_q6_τ24]; decide)).trans n_q6_τ24
  have n_c7_τ25 : xn τ25 c7 = 500 := (F_τ25.2.2.1 c7 (by rw [t_c7_τ24]; decide)).trans n_c7_τ24
  have n_s8_τ25 : xn τ25 s8 = 33 := (F_τ25.2.2.1 s8 (by rw [t_s8_τ24]; decide)).trans n_s8_τ24
  have t_n8_τ25 : xt τ25 n8 = 20 := by rw [e_τ25]; exact va_up_self _ _ _
  have n_n8_τ25 : xn τ25 n8 = 7 := by rw [e_τ25]; exact va_up_self _ _ _
  have C_τ25 : yo0 [(n8, 20), (s8, 20), (p8, 5), (c7, 20), (q7, 12), (p7, 7), (q6, 20), (p6, 11), (p5, 1), (p4, 1), (p3, 1), (p2, 1), (p1, 1), (L, 13)] τ25 := by rw [e_τ25]; exact yo0_newA C_τ24 (by decide)
  have LL_τ25 : ∀ g, yL_ g (va_up (va_up (va_up (va_up (va_up (fun _ => 8) p1 10) p2 8) p3 6) p4 4) p5 9) 14 5 τ25 := fun g => by rw [e_τ25]; exact yL_other (LL_τ24 g) h_n8 z_n8 (by decide) rfl (fun a _ => rfl) (fun a _ => rfl) (fun a q => va_up_ne _ _ q) (fun a q => va_up_ne _ _ q) rfl rfl
  clear e_τ25
  refine ⟨t_p8_τ25, fun τ26 e_τ26 => ?_⟩
  have t_L_τ26 : xt τ26 L = 13 := by rw [e_τ26]; exact t_L_τ25
  have t_p1_τ26 : xt τ26 p1 = 1 := by rw [e_τ26]; exact t_p1_τ25
  have t_p2_τ26 : xt τ26 p2 = 1 := by rw [e_τ26]; exact t_p2_τ25
  have t_p3_τ26 : xt τ26 p3 = 1 := by rw [e_τ26]; exact t_p3_τ25
  have t_p4_τ26 : xt τ26 p4 = 1 := by rw [e_τ26]; exact t_p4_τ25
  have t_p5_τ26 : xt τ26 p5 = 1 := by rw [e_τ26]; exact t_p5_τ25
  have t_p6_τ26 : xt τ26 p6 = 11 := by rw [e_τ26]; exact t_p6_τ25
  have t_q6_τ26 : xt τ26 q6 = 20 := by rw [e_τ26]; exact t_q6_τ25
  have t_p7_τ26 : xt τ26 p7 = 7 := by rw [e_τ26]; exact t_p7_τ25
  have t_q7_τ26 : xt τ26 q7 = 12 := by rw [e_τ26]; exact t_q7_τ25
  have t_c7_τ26 : xt τ26 c7 = 20 := by rw [e_τ26]; exact t_c7_τ25
  have t_p8_τ26 : xt τ26 p8 = 5 := by rw [e_τ26]; exact t_p8_τ25
  have t_s8_τ26 : xt τ26 s8 = 20 := by rw [e_τ26]; exact t_s8_τ25
  have t_n8_τ26 : xt τ26 n8 = 20 := by rw [e_τ26]; exact t_n8_τ25
  have r208_L_τ26 : xr τ26 208 L = some p1 := by rw [e_τ26]; exact fg_srX r208_L_τ25 (fun h => absurd h.1 (by decide))
  have r209_L_τ26 : xr τ26 209 L = some p2 := by rw [e_τ26]; exact fg_srX r209_L_τ25 (fun h => absurd h.1 (by decide))
  have r210_L_τ26 : xr τ26 210 L = some p3 := by rw [e_τ26]; exact fg_srX r210_L_τ25 (fun h => absurd h.1 (by decide))
  have r211_L_τ26 : xr τ26 211 L = some p4 := by rw [e_τ26]; exact fg_srX r211_L_τ25 (fun h => absurd h.1 (by decide))
  have r212_L_τ26 : xr τ26 212 L = some p5 := by rw [e_τ26]; exact fg_srX r212_L_τ25 (fun h => absurd h.1 (by decide))
  have r176_p6_τ26 : xr τ26 176 p6 = some q6 := by rw [e_τ26]; exact fg_srX r176_p6_τ25 (fun h => absurd h.1 (by decide))
  have r213_L_τ26 : xr τ26 213 L = some p6 := by rw [e_τ26]; exact fg_srX r213_L_τ25 (fun h => absurd h.1 (by decide))
  have r192_q7_τ26 : xr τ26 192 q7 = some p6 := by rw [e_τ26]; exact fg_srX r192_q7_τ25 (fun h => absurd h.1 (by decide))
  have r112_p7_τ26 : xr τ26 112 p7 = some q7 := by rw [e_τ26]; exact fg_srX r112_p7_τ25 (fun h => absurd h.1 (by decide))
  have r113_p7_τ26 : xr τ26 113 p7 = some c7 := by rw [e_τ26]; exact fg_srX r113_p7_τ25 (fun h => absurd h.1 (by decide))
  have r214_L_τ26 : xr τ26 214 L = some p7 := by rw [e_τ26]; exact fg_srX r214_L_τ25 (fun h => absurd h.1 (by decide))
  have r80_p8_τ26 : xr τ26 80 p8 = some s8 := by rw [e_τ26]; exact fg_srX r80_p8_τ25 (fun h => absurd h.1 (by decide))
  have n_q6_τ26 : xn τ26 q6 = 500 := by rw [e_τ26]; exact n_q6_τ25
  have n_c7_τ26 : xn τ26 c7 = 500 := by rw [e_τ26]; exact n_c7_τ25
  have n_s8_τ26 : xn τ26 s8 = 33 := by rw [e_τ26]; exact n_s8_τ25
  have n_n8_τ26 : xn τ26 n8 = 7 := by rw [e_τ26]; exact n_n8_τ25
  have r81_p8_τ26 : xr τ26 81 p8 = some n8 := by rw [e_τ26]; exact va_up_self _ _ _
  have C_τ26 : yo0 [(n8, 20), (s8, 20), (p8, 5), (c7, 20), (q7, 12), (p7, 7), (q6, 20), (p6, 11), (p5, 1), (p4, 1), (p3, 1), (p2, 1), (p1, 1), (L, 13)] τ26 := by rw [e_τ26]; exact C_τ25
  have LL_τ26 : ∀ g, yL_ g (va_up (va_up (va_up (va_up (va_up (fun _ => 8) p1 10) p2 8) p3 6) p4 4) p5 9) 14 5 τ26 := by rw [e_τ26]; exact LL_τ25
  clear e_τ26
  refine ⟨t_L_τ26, fun τ27 e_τ27 => ?_⟩
  have t_L_τ27 : xt τ27 L = 13 := by rw [e_τ27]; exact t_L_τ26
  have t_p1_τ27 : xt τ27 p1 = 1 := by rw [e_τ27]; exact t_p1_τ26
  have t_p2_τ27 : xt τ27 p2 = 1 := by rw [e_τ27]; exact t_p2_τ26
  have t_p3_τ27 : xt τ27 p3 = 1 := by rw [e_τ27]; exact t_p3_τ26
  have t_p4_τ27 : xt τ27 p4 = 1 := by rw [e_τ27]; exact t_p4_τ26
  have t_p5_τ27 : xt τ27 p5 = 1 := by rw [e_τ27]; exact t_p5_τ26
  have t_p6_τ27 : xt τ27 p6 = 11 := by rw [e_τ27]; exact t_p6_τ26
  have t_q6_τ27 : xt τ27 q6 = 20 := by rw [e_τ27]; exact t_q6_τ26
  have t_p7_τ27 : xt τ27 p7 = 7 := by rw [e_τ27]; exact t_p7_τ26
  have t_q7_τ27 : xt τ27 q7 = 12 := by rw [e_τ27]; exact t_q7_τ26
  have t_c7_τ27 : xt τ27 c7 = 20 := by rw [e_τ27]; exact t_c7_τ26
  have t_p8_τ27 : xt τ27 p8 = 5 := by rw [e_τ27]; exact t_p8_τ26
  have t_s8_τ27 : xt τ27 s8 = 20 := by rw [e_τ27]; exact t_s8_τ26
  have t_n8_τ27 : xt τ27 n8 = 20 := by rw [e_τ27]; exact t_n8_τ26
  have r208_L_τ27 : xr τ27 208 L = some p1 := by rw [e_τ27]; exact fg_srX r208_L_τ26 (fun h => absurd h.1 (by decide))
  have r209_L_τ27 : xr τ27 209 L = some p2 := by rw [e_τ27]; exact fg_srX r209_L_τ26 (fun h => absurd h.1 (by decide))
  have r210_L_τ27 : xr τ27 210 L = some p3 := by rw [e_τ27]; exact fg_srX r210_L_τ26 (fun h => absurd h.1 (by decide))
  have r211_L_τ27 : xr τ27 211 L = some p4 := by rw [e_τ27]; exact fg_srX r211_L_τ26 (fun h => absurd h.1 (by decide))
  have r212_L_τ27 : xr τ27 212 L = some p5 := by rw [e_τ27]; exact fg_srX r212_L_τ26 (fun h => absurd h.1 (by decide))
  have r176_p6_τ27 : xr τ27 176 p6 = some q6 := by rw [e_τ27]; exact fg_srX r176_p6_τ26 (fun h => absurd h.1 (by decide))
  have r213_L_τ27 : xr τ27 213 L = some p6 := by rw [e_τ27]; exact fg_srX r213_L_τ26 (fun h => absurd h.1 (by decide))
  have r192_q7_τ27 : xr τ27 192 q7 = some p6 := by rw [e_τ27]; exact fg_srX r192_q7_τ26 (fun h => absurd h.1 (by decide))
  have r112_p7_τ27 : xr τ27 112 p7 = some q7 := by rw [e_τ27]; exact fg_srX r112_p7_τ26 (fun h => absurd h.1 (by decide))
  have r113_p7_τ27 : xr τ27 113 p7 = some c7 := by rw [e_τ27]; exact fg_srX r113_p7_τ26 (fun h => absurd h.1 (by decide))
  have r214_L_τ27 : xr τ27 214 L = some p7 := by rw [e_τ27]; exact fg_srX r214_L_τ26 (fun h => absurd h.1 (by decide))
  have r80_p8_τ27 : xr τ27 80 p8 = some s8 := by rw [e_τ27]; exact fg_srX r80_p8_τ26 (fun h => absurd h.1 (by decide))
  have r81_p8_τ27 : xr τ27 81 p8 = some n8 := by rw [e_τ27]; exact fg_srX r81_p8_τ26 (fun h => absurd h.1 (by decide))
  have n_q6_τ27 : xn τ27 q6 = 500 := by rw [e_τ27]; exact n_q6_τ26
  have n_c7_τ27 : xn τ27 c7 = 500 := by rw [e_τ27]; exact n_c7_τ26
  have n_s8_τ27 : xn τ27 s8 = 33 := by rw [e_τ27]; exact n_s8_τ26
  have n_n8_τ27 : xn τ27 n8 = 7 := by rw [e_τ27]; exact n_n8_τ26
  have r215_L_τ27 : xr τ27 215 L = some p8 := by rw [e_τ27]; exact va_up_self _ _ _
  have C_τ27 : yo0 [(n8, 20), (s8, 20), (p8, 5), (c7, 20), (q7, 12), (p7, 7), (q6, 20), (p6, 11), (p5, 1), (p4, 1), (p3, 1), (p2, 1), (p1, 1), (L, 13)] τ27 := by rw [e_τ27]; exact C_τ26
  have LL_τ27 : ∀ g, yL_ g (va_up (va_up (va_up (va_up (va_up (fun _ => 8) p1 10) p2 8) p3 6) p4 4) p5 9) 14 5 τ27 := by rw [e_τ27]; exact LL_τ26
  clear e_τ27
  refine ⟨ry_room (LL_τ27 (fun _ => 0)) (by decide) (by decide), by decide, by decide, fun p9 h_p9 z_p9 τ28 e_τ28 => ?_⟩
  have ne_L_p9 : L ≠ p9 := fun e => by have h := t_L_τ27; rw [e, h_p9] at h; omega
  have ne_p1_p9 : p1 ≠ p9 := fun e => by have h := t_p1_τ27; rw [e, h_p9] at h; omega
  have ne_p2_p9 : p2 ≠ p9 := fun e => by have h := t_p2_τ27; rw [e, h_p9] at h; omega
  have ne_p3_p9 : p3 ≠ p9 := fun e => by have h := t_p3_τ27; rw [e, h_p9] at h; omega
  have ne_p4_p9 : p4 ≠ p9 := fun e => by have h := t_p4_τ27; rw [e, h_p9] at h; omega
  have ne_p5_p9 : p5 ≠ p9 := fun e => by have h := t_p5_τ27; rw [e, h_p9] at h; omega
  have ne_p6_p9 : p6 ≠ p9 := fun e => by have h := t_p6_τ27; rw [e, h_p9] at h; omega
  have ne_q6_p9 : q6 ≠ p9 := fun e => by have h := t_q6_τ27; rw [e, h_p9] at h; omega
  have ne_p7_p9 : p7 ≠ p9 := fun e => by have h := t_p7_τ27; rw [e, h_p9] at h; omega
  have ne_q7_p9 : q7 ≠ p9 := fun e => by have h := t_q7_τ27; rw [e, h_p9] at h; omega
  have ne_c7_p9 : c7 ≠ p9 := fun e => by have h := t_c7_τ27; rw [e, h_p9] at h; omega
  have ne_p8_p9 : p8 ≠ p9 := fun e => by have h := t_p8_τ27; rw [e, h_p9] at h; omega
  have ne_s8_p9 : s8 ≠ p9 := fun e => by have h := t_s8_τ27; rw [e, h_p9] at h; omega
  have ne_n8_p9 : n8 ≠ p9 := fun e => by have h := t_n8_τ27; rw [e, h_p9] at h; omega
  have F_τ28 : fg_ τ27 τ28 := by rw [e_τ28]; exact fg_newA h_p9
  have t_L_τ28 : xt τ28 L = 13 := fg_tag F_τ28 t_L_τ27 (by decide)
  have t_p1_τ28 : xt τ28 p1 = 1 := fg_tag F_τ28 t_p1_τ27 (by decide)
  have t_p2_τ28 : xt τ28 p2 = 1 := fg_tag F_τ28 t_p2_τ27 (by decide)
  have t_p3_τ28 : xt τ28 p3 = 1 := fg_tag F_τ28 t_p3_τ27 (by decide)
  have t_p4_τ28 : xt τ28 p4 = 1 := fg_tag F_τ28 t_p4_τ27 (by decide)
  have t_p5_τ28 : xt τ28 p5 = 1 := fg_tag F_τ28 t_p5_τ27 (by decide)
  have t_p6_τ28 : xt τ28 p6 = 11 := fg_tag F_τ28 t_p6_τ27 (by decide)
  have t_q6_τ28 : xt τ28 q6 = 20 := fg_tag F_τ28 t_q6_τ27 (by decide)
  have t_p7_τ28 : xt τ28 p7 = 7 := fg_tag F_τ28 t_p7_τ27 (by decide)
  have t_q7_τ28 : xt τ28 q7 = 12 := fg_tag F_τ28 t_q7_τ27 (by decide)
  have t_c7_τ28 : xt τ28 c7 = 20 := fg_tag F_τ28 t_c7_τ27 (by decide)
  have t_p8_τ28 : xt τ28 p8 = 5 := fg_tag F_τ28 t_p8_τ27 (by decide)
  have t_s8_τ28 : xt τ28 s8 = 20 := fg_tag F_τ28 t_s8_τ27 (by decide)
  have t_n8_τ28 : xt τ28 n8 = 20 := fg_tag F_τ28 t_n8_τ27 (by decide)
  have r208_L_τ28 : xr τ28 208 L = some p1 := fg_ref F_τ28 t_L_τ27 (by decide) (by decide) r208_L_τ27
  have r209_L_τ28 : xr τ28 209 L = some p2 := fg_ref F_τ28 t_L_τ27 (by decide) (by decide) r209_L_τ27
  have r210_L_τ28 : xr τ28 210 L = some p3 := fg_ref F_τ28 t_L_τ27 (by decide) (by decide) r210_L_τ27
  have r211_L_τ28 : xr τ28 211 L = some p4 := fg_ref F_τ28 t_L_τ27 (by decide) (by decide) r211_L_τ27
  have r212_L_τ28 : xr τ28 212 L = some p5 := fg_ref F_τ28 t_L_τ27 (by decide) (by decide) r212_L_τ27
  have r176_p6_τ28 : xr τ28 176 p6 = some q6 := fg_ref F_τ28 t_p6_τ27 (by decide) (by decide) r176_p6_τ27
  have r213_L_τ28 : xr τ28 213 L = some p6 := fg_ref F_τ28 t_L_τ27 (by decide) (by decide) r213_L_τ27
  have r192_q7_τ28 : xr τ28 192 q7 = some p6 := fg_ref F_τ28 t_q7_τ27 (by decide) (by decide) r192_q7_τ27
  have r112_p7_τ28 : xr τ28 112 p7 = some q7 := fg_ref F_τ28 t_p7_τ27 (by decide) (by decide) r112_p7_τ27
  have r113_p7_τ28 : xr τ28 113 p7 = some c7 := fg_ref F_τ28 t_p7_τ27 (by decide) (by decide) r113_p7_τ27
  have r214_L_τ28 : xr τ28 214 L = some p7 := fg_ref F_τ28 t_L_τ27 (by decide) (by decide) r214_L_τ27
  have r80_p8_τ28 : xr τ28 80 p8 = some s8 := fg_ref F_τ28 t_p8_τ27 (by decide) (by decide) r80_p8_τ27
  have r81_p8_τ28 : xr τ28 81 p8 = some n8 := fg_ref F_τ28 t_p8_τ27 (by decide) (by decide) r81_p8_τ27
  have r215_L_τ28 : xr τ28 215 L = some p8 := fg_ref F_τ28 t_L_τ27 (by decide) (by decide) r215_L_τ27
  have n_q6_τ28 : xn τ28 q6 = 500 := (F_τ28.2.2.1 q6 (by rw [t_q6_τ27]; decide)).trans n_q6_τ27
  have n_c7_τ28 : xn τ28 c7 = 500 := (F_τ28.2.2.1 c7 (by rw [t_c7_τ27]; decide)).trans n_c7_τ27
  have n_s8_τ28 : xn τ28 s8 = 33 := (F_τ28.2.2.1 s8 (by rw [t_s8_τ27]; decide)).trans n_s8_τ27
  have n_n8_τ28 : xn τ28 n8 = 7 := (F_τ28.2.2.1 n8 (by rw [t_n8_τ27]; decide)).trans n_n8_τ27
  have t_p9_τ28 : xt τ28 p9 = 21 := by rw [e_τ28]; exact va_up_self _ _ _
  have n_p9_τ28 : xn τ28 p9 = 16 := by rw [e_τ28]; exact va_up_self _ _ _
  have C_τ28 : yo0 [(p9, 21), (n8, 20), (s8, 20), (p8, 5), (c7, 20), (q7, 12), (p7, 7), (q6, 20), (p6, 11), (p5, 1), (p4, 1), (p3, 1), (p2, 1), (p1, 1), (L, 13)] τ28 := by rw [e_τ28]; exact yo0_newA C_τ27 (by decide)
  have LL_τ28 : ∀ g, yL_ g (va_up (va_up (va_up (va_up (va_up (fun _ => 8) p1 10) p2 8) p3 6) p4 4) p5 9) 15 5 τ28 := fun g => by rw [e_τ28]; exact yL_other (LL_τ27 g) h_p9 z_p9 (by decide) rfl (fun a _ => rfl) (fun a _ => rfl) (fun a q => va_up_ne _ _ q) (fun a q => va_up_ne _ _ q) rfl rfl
  clear e_τ28
  refine ⟨t_L_τ28, fun τ29 e_τ29 => ?_⟩
  have t_L_τ29 : xt τ29 L = 13 := by rw [e_τ29]; exact t_L_τ28
  have t_p1_τ29 : xt τ29 p1 = 1 := by rw [e_τ29]; exact t_p1_τ28
  have t_p2_τ29 : xt τ29 p2 = 1 := by rw [e_τ29]; exact t_p2_τ28
  have t_p3_τ29 : xt τ29 p3 = 1 := by rw [e_τ29]; exact t_p3_τ28
  have t_p4_τ29 : xt τ29 p4 = 1 := by rw [e_τ29]; exact t_p4_τ28
  have t_p5_τ29 : xt τ29 p5 = 1 := by rw [e_τ29]; exact t_p5_τ28
  have t_p6_τ29 : xt τ29 p6 = 11 := by rw [e_τ29]; exact t_p6_τ28
  have t_q6_τ29 : xt τ29 q6 = 20 := by rw [e_τ29]; exact t_q6_τ28
  have t_p7_τ29 : xt τ29 p7 = 7 := by rw [e_τ29]; exact t_p7_τ28
  have t_q7_τ29 : xt τ29 q7 = 12 := by rw [e_τ29]; exact t_q7_τ28
  have t_c7_τ29 : xt τ29 c7 = 20 := by rw [e_τ29]; exact t_c7_τ28
  have t_p8_τ29 : xt τ29 p8 = 5 := by rw [e_τ29]; exact t_p8_τ28
  have t_s8_τ29 : xt τ29 s8 = 20 := by rw [e_τ29]; exact t_s8_τ28
  have t_n8_τ29 : xt τ29 n8 = 20 := by rw [e_τ29]; exact t_n8_τ28
  have t_p9_τ29 : xt τ29 p9 = 21 := by rw [e_τ29]; exact t_p9_τ28
  have r208_L_τ29 : xr τ29 208 L = some p1 := by rw [e_τ29]; exact fg_srX r208_L_τ28 (fun h => absurd h.1 (by decide))
  have r209_L_τ29 : xr τ29 209 L = some p2 := by rw [e_τ29]; exact fg_srX r209_L_τ28 (fun h => absurd h.1 (by decide))
  have r210_L_τ29 : xr τ29 210 L = some p3 := by rw [e_τ29]; exact fg_srX r210_L_τ28 (fun h => absurd h.1 (by decide))
  have r211_L_τ29 : xr τ29 211 L = some p4 := by rw [e_τ29]; exact fg_srX r211_L_τ28 (fun h => absurd h.1 (by decide))
  have r212_L_τ29 : xr τ29 212 L = some p5 := by rw [e_τ29]; exact fg_srX r212_L_τ28 (fun h => absurd h.1 (by decide))
  have r176_p6_τ29 : xr τ29 176 p6 = some q6 := by rw [e_τ29]; exact fg_srX r176_p6_τ28 (fun h => absurd h.1 (by decide))
  have r213_L_τ29 : xr τ29 213 L = some p6 := by rw [e_τ29]; exact fg_srX r213_L_τ28 (fun h => absurd h.1 (by decide))
  have r192_q7_τ29 : xr τ29 192 q7 = some p6 := by rw [e_τ29]; exact fg_srX r192_q7_τ28 (fun h => absurd h.1 (by decide))
  have r112_p7_τ29 : xr τ29 112 p7 = some q7 := by rw [e_τ29]; exact fg_srX r112_p7_τ28 (fun h => absurd h.1 (by decide))
  have r113_p7_τ29 : xr τ29 113 p7 = some c7 := by rw [e_τ29]; exact fg_srX r113_p7_τ28 (fun h => absurd h.1 (by decide))
  have r214_L_τ29 : xr τ29 214 L = some p7 := by rw [e_τ29]; exact fg_srX r214_L_τ28 (fun h => absurd h.1 (by decide))
  have r80_p8_τ29 : xr τ29 80 p8 = some s8 := by rw [e_τ29]; exact fg_srX r80_p8_τ28 (fun h => absurd h.1 (by decide))
  have r81_p8_τ29 : xr τ29 81 p8 = some n8 := by rw [e_τ29]; exact fg_srX r81_p8_τ28 (fun h => absurd h.1 (by decide))
  have r215_L_τ29 : xr τ29 215 L = some p8 := by rw [e_τ29]; exact fg_srX r215_L_τ28 (fun h => absurd h.1 (by decide))
  have n_q6_τ29 : xn τ29 q6 = 500 := by rw [e_τ29]; exact n_q6_τ28
  have n_c7_τ29 : xn τ29 c7 = 500 := by rw [e_τ29]; exact n_c7_τ28
  have n_s8_τ29 : xn τ29 s8 = 33 := by rw [e_τ29]; exact n_s8_τ28
  have n_n8_τ29 : xn τ29 n8 = 7 := by rw [e_τ29]; exact n_n8_τ28
  have n_p9_τ29 : xn τ29 p9 = 16 := by rw [e_τ29]; exact n_p9_τ28
  have r216_L_τ29 : xr τ29 216 L = some p9 := by rw [e_τ29]; exact va_up_self _ _ _
  have C_τ29 : yo0 [(p9, 21), (n8, 20), (s8, 20), (p8, 5), (c7, 20), (q7, 12), (p7, 7), (q6, 20), (p6, 11), (p5, 1), (p4, 1), (p3, 1), (p2, 1), (p1, 1), (L, 13)] τ29 := by rw [e_τ29]; exact C_τ28
  have LL_τ29 : ∀ g, yL_ g (va_up (va_up (va_up (va_up (va_up (fun _ => 8) p1 10) p2 8) p3 6) p4 4) p5 9) 15 5 τ29 := by rw [e_τ29]; exact LL_τ28
  clear e_τ29
  intro τ30 e_τ30
  have t_L_τ30 : xt τ30 L = 13 := by rw [e_τ30]; exact t_L_τ29
  have t_p1_τ30 : xt τ30 p1 = 1 := by rw [e_τ30]; exact t_p1_τ29
  have t_p2_τ30 : xt τ30 p2 = 1 := by rw [e_τ30]; exact t_p2_τ29
  have t_p3_τ30 : xt τ30 p3 = 1 := by rw [e_τ30]; exact t_p3_τ29
  have t_p4_τ30 : xt τ30 p4 = 1 := by rw [e_τ30]; exact t_p4_τ29
  have t_p5_τ30 : xt τ30 p5 = 1 := by rw [e_τ30]; exact t_p5_τ29
  have t_p6_τ30 : xt τ30 p6 = 11 := by rw [e_τ30]; exact t_p6_τ29
  have t_q6_τ30 : xt τ30 q6 = 20 := by rw [e_τ30]; exact t_q6_τ29
  have t_p7_τ30 : xt τ30 p7 = 7 := by rw [e_τ30]; exact t_p7_τ29
  have t_q7_τ30 : xt τ30 q7 = 12 := by rw [e_τ30]; exact t_q7_τ29
  have t_c7_τ30 : xt τ30 c7 = 20 := by rw [e_τ30]; exact t_c7_τ29
  have t_p8_τ30 : xt τ30 p8 = 5 := by rw [e_τ30]; exact t_p8_τ29
  have t_s8_τ30 : xt τ30 s8 = 20 := by rw [e_τ30]; exact t_s8_τ29
  have t_n8_τ30 : xt τ30 n8 = 20 := by rw [e_τ30]; exact t_n8_τ29
  have t_p9_τ30 : xt τ30 p9 = 21 := by rw [e_τ30]; exact t_p9_τ29
  have r208_L_τ30 : xr τ30 208 L = some p1 := by rw [e_τ30]; exact r208_L_τ29
  have r209_L_τ30 : xr τ30 209 L = some p2 := by rw [e_τ30]; exact r209_L_τ29
  have r210_L_τ30 : xr τ30 210 L = some p3 := by rw [e_τ30]; exact r210_L_τ29
  have r211_L_τ30 : xr τ30 211 L = some p4 := by rw [e_τ30]; exact r211_L_τ29
  have r212_L_τ30 : xr τ30 212 L = some p5 := by rw [e_τ30]; exact r212_L_τ29
  have r176_p6_τ30 : xr τ30 176 p6 = some q6 := by rw [e_τ30]; exact r176_p6_τ29
  have r213_L_τ30 : xr τ30 213 L = some p6 := by rw [e_τ30]; exact r213_L_τ29
  have r192_q7_τ30 : xr τ30 192 q7 = some p6 := by rw [e_τ30]; exact r192_q7_τ29
  have r112_p7_τ30 : xr τ30 112 p7 = some q7 := by rw [e_τ30]; exact r112_p7_τ29
  have r113_p7_τ30 : xr τ30 113 p7 = some c7 := by rw [e_τ30]; exact r113_p7_τ29
  have r214_L_τ30 : xr τ30 214 L = some p7 := by rw [e_τ30]; exact r214_L_τ29
  have r80_p8_τ30 : xr τ30 80 p8 = some s8 := by rw [e_τ30]; exact r80_p8_τ29
  have r81_p8_τ30 : xr τ30 81 p8 = some n8 := by rw [e_τ30]; exact r81_p8_τ29
  have r215_L_τ30 : xr τ30 215 L = some p8 := by rw [e_τ30]; exact r215_L_τ29
  have r216_L_τ30 : xr τ30 216 L = some p9 := by rw [e_τ30]; exact r216_L_τ29
  have n_q6_τ30 : xn τ30 q6 = 500 := by rw [e_τ30]; exact n_q6_τ29
  have n_c7_τ30 : xn τ30 c7 = 500 := by rw [e_τ30]; exact n_c7_τ29
  have n_s8_τ30 : xn τ30 s8 = 33 := by rw [e_τ30]; exact n_s8_τ29
  have n_n8_τ30 : xn τ30 n8 = 7 := by rw [e_τ30]; exact n_n8_τ29
  have n_p9_τ30 : xn τ30 p9 = 16 := by rw [e_τ30]; exact n_p9_τ29
  have C_τ30 : yo0 [(p9, 21), (n8, 20), (s8, 20), (p8, 5), (c7, 20), (q7, 12), (p7, 7), (q6, 20), (p6, 11), (p5, 1), (p4, 1), (p3, 1), (p2, 1), (p1, 1), (L, 13)] τ30 := by rw [e_τ30]; exact yo0_219 C_τ29
  have LL_τ30 : ∀ g, yL_ g (va_up (va_up (va_up (va_up (va_up (fun _ => 8) p1 10) p2 8) p3 6) p4 4) p5 9) 15 5 τ30 := by rw [e_τ30]; exact LL_τ29
  obtain ⟨g, eg⟩ : ∃ g : Nat → Nat, g = fun i => match i with | 0 => L | 1 => p1 | 2 => p2 | 3 => p3 | 4 => p4 | 5 => p5 | 6 => p6 | 7 => p7 | 8 => p8 | _ => p9 := ⟨_, rfl⟩
  have g10 : g 10 = p9 := congrFun eg 10
  have g0 : g 0 = L := congrFun eg 0
  have g1 : g 1 = p1 := congrFun eg 1
  have g2 : g 2 = p2 := congrFun eg 2
  have g3 : g 3 = p3 := congrFun eg 3
  have g4 : g 4 = p4 := congrFun eg 4
  have g5 : g 5 = p5 := congrFun eg 5
  have g6 : g 6 = p6 := congrFun eg 6
  have g7 : g 7 = p7 := congrFun eg 7
  have g8 : g 8 = p8 := congrFun eg 8
  have g9 : g 9 = p9 := congrFun eg 9
  clear eg
  have z : ∀ a t, xt τ30 a = t → t ≠ 0 → t ≠ 20 → t ≠ 21 → ∀ f, f ≠ 219 → xi τ30 f a = 0 := fun a t h h0 h1 h2 f hf => C_τ30.2 a (by rw [h]; exact h0) (by rw [h]; exact h1) (by rw [h]; exact h2) f hf
  have only : ∀ a t, xt τ30 a = t → t ≠ 0 → (a, t) ∈ [(p9, 21), (n8, 20), (s8, 20), (p8, 5), (c7, 20), (q7, 12), (p7, 7), (q6, 20), (p6, 11), (p5, 1), (p4, 1), (p3, 1), (p2, 1), (p1, 1), (L, 13)] := fun a t h h0 => by have q := C_τ30.1 a (by rw [h]; exact h0); rw [h] at q; exact q
  have no : ∀ a t, xt τ30 a = t → t = 2 ∨ t = 3 ∨ t = 4 ∨ t = 6 ∨ t = 8 ∨ t = 9 ∨ t = 10 → False := fun a t h ht => by
    have q := only a t h (by omega)
    simp only [List.mem_cons, Prod.mk.injEq, List.not_mem_nil, or_false] at q
    omega
  have u5 : ∀ a, xt τ30 a = 5 → a = p8 := fun a h => by
    have q := only a 5 h (by decide)
    simp only [List.mem_cons, Prod.mk.injEq, List.not_mem_nil, or_false] at q
    omega
  have u7 : ∀ a, xt τ30 a = 7 → a = p7 := fun a h => by
    have q := only a 7 h (by decide)
    simp only [List.mem_cons, Prod.mk.injEq, List.not_mem_nil, or_false] at q
    omega
  have u11 : ∀ a, xt τ30 a = 11 → a = p6 := fun a h => by
    have q := only a 11 h (by decide)
    simp only [List.mem_cons, Prod.mk.injEq, List.not_mem_nil, or_false] at q
    omega
  have u12 : ∀ a, xt τ30 a = 12 → a = q7 := fun a h => by
    have q := only a 12 h (by decide)
    simp only [List.mem_cons, Prod.mk.injEq, List.not_mem_nil, or_false] at q
    omega
  have k1 : (va_up (va_up (va_up (va_up (va_up (fun _ => 8) p1 10) p2 8) p3 6) p4 4) p5 9) p1 = 10 := by rw [va_up_ne _ _ ne_p1_p5, va_up_ne _ _ ne_p1_p4, va_up_ne _ _ ne_p1_p3, va_up_ne _ _ ne_p1_p2, va_up_self]
  have k2 : (va_up (va_up (va_up (va_up (va_up (fun _ => 8) p1 10) p2 8) p3 6) p4 4) p5 9) p2 = 8 := by rw [va_up_ne _ _ ne_p2_p5, va_up_ne _ _ ne_p2_p4, va_up_ne _ _ ne_p2_p3, va_up_self]
  have k3 : (va_up (va_up (va_up (va_up (va_up (fun _ => 8) p1 10) p2 8) p3 6) p4 4) p5 9) p3 = 6 := by rw [va_up_ne _ _ ne_p3_p5, va_up_ne _ _ ne_p3_p4, va_up_self]
  have k4 : (va_up (va_up (va_up (va_up (va_up (fun _ => 8) p1 10) p2 8) p3 6) p4 4) p5 9) p4 = 4 := by rw [va_up_ne _ _ ne_p4_p5, va_up_self]
  have k5 : (va_up (va_up (va_up (va_up (va_up (fun _ => 8) p1 10) p2 8) p3 6) p4 4) p5 9) p5 = 9 := by rw [va_up_self]
  have i1 : xi τ30 18 p1 = 0 := z p1 1 t_p1_τ30 (by decide) (by decide) (by decide) 18 (by decide)
  have i2 : xi τ30 18 p2 = 0 := z p2 1 t_p2_τ30 (by decide) (by decide) (by decide) 18 (by decide)
  have i3 : xi τ30 18 p3 = 0 := z p3 1 t_p3_τ30 (by decide) (by decide) (by decide) 18 (by decide)
  have i4 : xi τ30 18 p4 = 0 := z p4 1 t_p4_τ30 (by decide) (by decide) (by decide) 18 (by decide)
  have i5 : xi τ30 18 p5 = 0 := z p5 1 t_p5_τ30 (by decide) (by decide) (by decide) 18 (by decide)
  have i6 : xi τ30 177 p6 = 0 := z p6 11 t_p6_τ30 (by decide) (by decide) (by decide) 177 (by decide)
  have i0 : xi τ30 217 L = 0 := z L 13 t_L_τ30 (by decide) (by decide) (by decide) 217 (by decide)
  refine ⟨p9, g, (va_up (va_up (va_up (va_up (va_up (fun _ => 8) p1 10) p2 8) p3 6) p4 4) p5 9), 15, 5, g0, g10, ⟨LL_τ30 g, fun a _ => ?_, ?_, fun a => ?_, ?_, fun r hr => ?_, fun r _ => ⟨rfl, rfl, rfl, rfl, rfl⟩, ?_⟩, by decide, by decide⟩
  · refine ⟨fun h => (no a 2 h (by decide)).elim, fun h => (no a 3 h (by decide)).elim, fun h => (no a 4 h (by decide)).elim, fun h => ?_, fun h => (no a 6 h (by decide)).elim, fun h => ?_, fun h => (no a 10 h (by decide)).elim, fun h => ?_, fun h => ?_⟩
    · rw [u5 a h]; exact ⟨⟨s8, r80_p8_τ30, t_s8_τ30, n_s8_τ30⟩, n8, r81_p8_τ30, t_n8_τ30, n_n8_τ30⟩
    · rw [u7 a h]; exact ⟨⟨q7, r112_p7_τ30, t_q7_τ30⟩, c7, r113_p7_τ30, t_c7_τ30, n_c7_τ30⟩
    · rw [u11 a h]; exact ⟨q6, r176_p6_τ30, t_q6_τ30, n_q6_τ30⟩
    · rw [u12 a h]; exact ⟨p6, r192_q7_τ30, t_p6_τ30⟩
  · unfold yG_
    rw [g0, g1, g2, g3, g4, g5, g6, g7, g8, g9, g10]
    exact ⟨t_L_τ30, ⟨r208_L_τ30, t_p1_τ30, k1⟩, ⟨r209_L_τ30, t_p2_τ30, k2⟩, ⟨r210_L_τ30, t_p3_τ30, k3⟩, ⟨r211_L_τ30, t_p4_τ30, k4⟩, ⟨r212_L_τ30, t_p5_τ30, k5⟩, ⟨r213_L_τ30, t_p6_τ30⟩, ⟨r214_L_τ30, t_p7_τ30⟩, ⟨r215_L_τ30, t_p8_τ30⟩, ⟨r216_L_τ30, t_p9_τ30, n_p9_τ30⟩, ⟨t_p9_τ30, by rw [n_p9_τ30]; decide⟩⟩
  · refine ⟨fun h => (no a 2 h (by decide)).elim, fun h => (no a 3 h (by decide)).elim, fun h => ?_, fun h => ?_, fun h => (no a 8 h (by decide)).elim, fun h => (no a 10 h (by decide)).elim, fun h => ?_, fun h _ => ?_⟩
    · rw [z a 5 h (by decide) (by decide) (by decide) 82 (by decide), z a 5 h (by decide) (by decide) (by decide) 83 (by decide)]; decide
    · rw [z a 7 h (by decide) (by decide) (by decide) 114 (by decide)]; decide
    · rw [z a 11 h (by decide) (by decide) (by decide) 177 (by decide)]; decide
    · rw [z a 1 h (by decide) (by decide) (by decide) 18 (by decide), g5, i5]; decide
  · rw [g1, g2, g4, g5, g6, g0, i1, i2, i4, i5, i6, i0]; rfl
  · rw [g1, i1, ki_z0] at hr; omega
  · rw [g1, g3, g4, g5, i1, i3, i4, i5]; decide
end
section
/-! the reference: what is so of every end that is safe -/
def gw_ (I : km_S → Prop) (W : List Nat) : Prop := ∀ u, I u → ∀ f, f ∈ W → (∀ v, I (km_si u f v)) ∧ (∀ i v, I (km_sa u f i v)) ∧ (∀ v, I (km_sl u f v)) ∧ ∀ i v, I (km_sp u i v)
theorem gw_sub {I : km_S → Prop} {W V : List Nat} (h : gw_ I W) (s : ∀ f ∈ V, f ∈ W) : gw_ I V := fun u i f hf => h u i f (s f hf)

def vX12_fail (μ : km_S) (Q : Int32 → km_S → Prop) : Prop := ∀ μ1, μ1 = km_si μ 1 1 → Q 0 μ1
set_option maxRecDepth 100000 in
set_option maxHeartbeats 4000000 in
theorem jcX12_fail {Q Q' Q'' : Int32 → km_S → Prop} (hQ : ∀ y0 y1, Q y0 y1 → Q' y0 y1 → Q'' y0 y1) : ∀ (μ : km_S), wX12_fail μ Q → vX12_fail μ Q' → wX12_fail μ Q'' := by
  intro μ h v
  unfold wX12_fail at h
  unfold vX12_fail at v
  unfold wX12_fail
  intro μ1 e1
  have h := h μ1 e1
  have v := v μ1 e1
  exact hQ _ _ h v
set_option maxRecDepth 100000 in
set_option maxHeartbeats 4000000 in
theorem jaX12_fail {Q Q' : Int32 → km_S → Prop} (hQ : ∀ y0 y1, Q y0 y1 → Q' y0 y1) : ∀ (μ : km_S), wX12_fail μ Q → vX12_fail μ Q' := by
  intro μ h
  unfold wX12_fail at h
  unfold vX12_fail
  intro μ1 e1
  have h := h μ1 e1
  exact hQ _ _ h
set_option maxRecDepth 100000 in
set_option maxHeartbeats 4000000 in
theorem jfX12_fail {I : km_S → Prop} (W : gw_ I [1]) {Q : Int32 → km_S → Prop} (hQ : ∀ y0 y1, I y1 → Q y0 y1) : ∀ (μ : km_S), I μ → vX12_fail μ Q := by
  intro μ i
  unfold vX12_fail
  intro μ1 e1
  have iμ1 : I μ1 := by rw [e1]; exact ((W _ i) 1 (by decide)).1 _
  exact hQ _ _ iμ1
def vX12_isReach (l1 : Int32) (μ : km_S) (Q : Int32 → km_S → Prop) : Prop := ((l1 < 0 → Q 0 μ) ∧ (¬ (l1 < 0) → (((km_i μ 3) ≤ l1 → Q 0 μ) ∧ (¬ ((km_i μ 3) ≤ l1) → Q 1 μ))))
set_option maxRecDepth 100000 in
set_option maxHeartbeats 4000000 in
theorem jcX12_isReach {Q Q' Q'' : Int32 → km_S → Prop} (hQ : ∀ y0 y1, Q y0 y1 → Q' y0 y1 → Q'' y0 y1) : ∀ (l1 : Int32) (μ : km_S), wX12_isReach l1 μ Q → vX12_isReach l1 μ Q' → wX12_isReach l1 μ Q'' := by
  intro l1 μ h v
  unfold wX12_isReach at h
  unfold vX12_isReach at v
  unfold wX12_isReach
  refine ⟨?_, ?_⟩
  · have h := h.1
    have v := v.1
    intro e1
    have h := h e1
    have v := v e1
    exact hQ _ _ h v
  · have h := h.2
    have v := v.2
    intro e2
    have h := h e2
    have v := v e2
    refine ⟨?_, ?_⟩
    · have h := h.1
      have v := v.1
      intro e3
      have h := h e3
      have v := v e3
      exact hQ _ _ h v
    · have h := h.2
      have v := v.2
      intro e4
      have h := h e4
      have v := v e4
      exact hQ _ _ h v
set_option maxRecDepth 100000 in
set_option maxHeartbeats 4000000 in
theorem jaX12_isReach {Q Q' : Int32 → km_S → Prop} (hQ : ∀ y0 y1, Q y0 y1 → Q' y0 y1) : ∀ (l1 : Int32) (μ : km_S), wX12_isReach l1 μ Q → vX12_isReach l1 μ Q' := by
  intro l1 μ h
  unfold wX12_isReach at h
  unfold vX12_isReach
  refine ⟨?_, ?_⟩
  · have h := h.1
    intro e1
    have h := h e1
    exact hQ _ _ h
  · have h := h.2
    intro e2
    have h := h e2
    refine ⟨?_, ?_⟩
    · have h := h.1
      intro e3
      have h := h e3
      exact hQ _ _ h
    · have h := h.2
      intro e4
      have h := h e4
      exact hQ _ _ h
set_option maxRecDepth 100000 in
set_option maxHeartbeats 4000000 in
theorem jfX12_isReach {I : km_S → Prop} (W : gw_ I []) {Q : Int32 → km_S → Prop} (hQ : ∀ y0 y1, I y1 → Q y0 y1) : ∀ (l1 : Int32) (μ : km_S), I μ → vX12_isReach l1 μ Q := by
  intro l1 μ i
  unfold vX12_isReach
  refine ⟨?_, ?_⟩
  · intro e1
    exact hQ _ _ i
  · intro e2
    refine ⟨?_, ?_⟩
    · intro e3
      exact hQ _ _ i
    · intro e4
      exact hQ _ _ i
def vX12_at0 (l0 : Int32) (l1 : Int32) (μ : km_S) (Q : Int32 → km_S → Prop) : Prop := Q ((12 * l0) + l1) μ
set_option maxRecDepth 100000 in
set_option maxHeartbeats 4000000 in
theorem jcX12_at0 {Q Q' Q'' : Int32 → km_S → Prop} (hQ : ∀ y0 y1, Q y0 y1 → Q' y0 y1 → Q'' y0 y1) : ∀ (l0 : Int32) (l1 : Int32) (μ : km_S), wX12_at0 l0 l1 μ Q → vX12_at0 l0 l1 μ Q' → wX12_at0 l0 l1 μ Q'' := by
  intro l0 l1 μ h v
  unfold wX12_at0 at h
  unfold vX12_at0 at v
  unfold wX12_at0
  exact hQ _ _ h v
set_option maxRecDepth 100000 in
set_option maxHeartbeats 4000000 in
theorem jaX12_at0 {Q Q' : Int32 → km_S → Prop} (hQ : ∀ y0 y1, Q y0 y1 → Q' y0 y1) : ∀ (l0 : Int32) (l1 : Int32) (μ : km_S), wX12_at0 l0 l1 μ Q → vX12_at0 l0 l1 μ Q' := by
  intro l0 l1 μ h
  unfold wX12_at0 at h
  unfold vX12_at0
  exact hQ _ _ h
set_option maxRecDepth 100000 in
set_option maxHeartbeats 4000000 in
theorem jfX12_at0 {I : km_S → Prop} (W : gw_ I []) {Q : Int32 → km_S → Prop} (hQ : ∀ y0 y1, I y1 → Q y0 y1) : ∀ (l0 : Int32) (l1 : Int32) (μ : km_S), I μ → vX12_at0 l0 l1 μ Q := by
  intro l0 l1 μ i
  unfold vX12_at0
  exact hQ _ _ i
def vX12_isLog (l1 : Int32) (μ : km_S) (Q : Int32 → km_S → Prop) : Prop := ((l1 < 0 → Q 0 μ) ∧ (¬ (l1 < 0) → (((km_i μ 4) ≤ l1 → Q 0 μ) ∧ (¬ ((km_i μ 4) ≤ l1) → Q 1 μ))))
set_option maxRecDepth 100000 in
set_option maxHeartbeats 4000000 in
theorem jcX12_isLog {Q Q' Q'' : Int32 → km_S → Prop} (hQ : ∀ y0 y1, Q y0 y1 → Q' y0 y1 → Q'' y0 y1) : ∀ (l1 : Int32) (μ : km_S), wX12_isLog l1 μ Q → vX12_isLog l1 μ Q' → wX12_isLog l1 μ Q'' := by
  intro l1 μ h v
  unfold wX12_isLog at h
  unfold vX12_isLog at v
  unfold wX12_isLog
  refine ⟨?_, ?_⟩
  · have h := h.1
    have v := v.1
    intro e1
    have h := h e1
    have v := v e1
    exact hQ _ _ h v
  · have h := h.2
    have v := v.2
    intro e2
    have h := h e2
    have v := v e2
    refine ⟨?_, ?_⟩
    · have h := h.1
      have v := v.1
      intro e3
      have h := h e3
      have v := v e3
      exact hQ _ _ h v
    · have h := h.2
      have v := v.2
      intro e4
      have h := h e4
      have v := v e4
      exact hQ _ _ h v
set_option maxRecDepth 100000 in
set_option maxHeartbeats 4000000 in
theorem jaX12_isLog {Q Q' : Int32 → km_S → Prop} (hQ : ∀ y0 y1, Q y0 y1 → Q' y0 y1) : ∀ (l1 : Int32) (μ : km_S), wX12_isLog l1 μ Q → vX12_isLog l1 μ Q' := by
  intro l1 μ h
  unfold wX12_isLog at h
  unfold vX12_isLog
  refine ⟨?_, ?_⟩
  · have h := h.1
    intro e1
    have h := h e1
    exact hQ _ _ h
  · have h := h.2
    intro e2
    have h := h e2
    refine ⟨?_, ?_⟩
    · have h := h.1
      intro e3
      have h := h e3
      exact hQ _ _ h
    · have h := h.2
      intro e4
      have h := h e4
      exact hQ _ _ h
set_option maxRecDepth 100000 in
set_option maxHeartbeats 4000000 in
theorem jfX12_isLog {I : km_S → Prop} (W : gw_ I []) {Q : Int32 → km_S → Prop} (hQ : ∀ y0 y1, I y1 → Q y0 y1) : ∀ (l1 : Int32) (μ : km_S), I μ → vX12_isLog l1 μ Q := by
  intro l1 μ i
  unfold vX12_isLog
  refine ⟨?_, ?_⟩
  · intro e1
    exact hQ _ _ i
  · intro e2
    refine ⟨?_, ?_⟩
    · intro e3
      exact hQ _ _ i
    · intro e4
      exact hQ _ _ i
def vX12_isCell (l1 : Int32) (l2 : Int32) (μ : km_S) (Q : Int32 → km_S → Prop) : Prop := vX12_isReach l1 μ (fun r2 μ1 => ((r2 = 0 → Q 0 μ1) ∧ (¬ (r2 = 0) → ((l2 < 0 → Q 0 μ1) ∧ (¬ (l2 < 0) → vp_in l1 10 → (((km_a μ1 14 l1.toNatClampNeg) ≤ l2 → Q 0 μ1) ∧ (¬ ((km_a μ1 14 l1.toNatClampNeg) ≤ l2) → Q 1 μ1)))))))
set_option maxRecDepth 100000 in
set_option maxHeartbeats 4000000 in
theorem jcX12_isCell {Q Q' Q'' : Int32 → km_S → Prop} (hQ : ∀ y0 y1, Q y0 y1 → Q' y0 y1 → Q'' y0 y1) : ∀ (l1 : Int32) (l2 : Int32) (μ : km_S), wX12_isCell l1 l2 μ Q → vX12_isCell l1 l2 μ Q' → wX12_isCell l1 l2 μ Q'' := by
  intro l1 l2 μ h v
  unfold wX12_isCell at h
  unfold vX12_isCell at v
  unfold wX12_isCell
  refine jcX12_isReach ?_ _ _ h v
  intro r2 μ1 h v
  refine ⟨?_, ?_⟩
  · have h := h.1
    have v := v.1
    intro e1
    have h := h e1
    have v := v e1
    exact hQ _ _ h v
  · have h := h.2
    have v := v.2
    intro e2
    have h := h e2
    have v := v e2
    refine ⟨?_, ?_⟩
    · have h := h.1
      have v := v.1
      intro e3
      have h := h e3
      have v := v e3
      exact hQ _ _ h v
    · have h := h.2
      have v := v.2
      intro e4
      have h := h e4
      have v := v e4
      refine ⟨h.1, ?_⟩
      have v := v h.1
      have h := h.2
      refine ⟨?_, ?_⟩
      · have h := h.1
        have v := v.1
        intro e6
        have h := h e6
        have v := v e6
        exact hQ _ _ h v
      · have h := h.2
        have v := v.2
        intro e7
        have h := h e7
        have v := v e7
        exact hQ _ _ h v
set_option maxRecDepth 100000 in
set_option maxHeartbeats 4000000 in
theorem jaX12_isCell {Q Q' : Int32 → km_S → Prop} (hQ : ∀ y0 y1, Q y0 y1 → Q' y0 y1) : ∀ (l1 : Int32) (l2 : Int32) (μ : km_S), wX12_isCell l1 l2 μ Q → vX12_isCell l1 l2 μ Q' := by
  intro l1 l2 μ h
  unfold wX12_isCell at h
  unfold vX12_isCell
  refine jaX12_isReach ?_ _ _ h
  intro r2 μ1 h
  refine ⟨?_, ?_⟩
  · have h := h.1
    intro e1
    have h := h e1
    exact hQ _ _ h
  · have h := h.2
    intro e2
    have h := h e2
    refine ⟨?_, ?_⟩
    · have h := h.1
      intro e3
      have h := h e3
      exact hQ _ _ h
    · have h := h.2
      intro e4
      have h := h e4
      intro e5
      have h := h.2
      refine ⟨?_, ?_⟩
      · have h := h.1
        intro e6
        have h := h e6
        exact hQ _ _ h
      · have h := h.2
        intro e7
        have h := h e7
        exact hQ _ _ h
set_option maxRecDepth 100000 in
set_option maxHeartbeats 4000000 in
theorem jfX12_isCell {I : km_S → Prop} (W : gw_ I []) {Q : Int32 → km_S → Prop} (hQ : ∀ y0 y1, I y1 → Q y0 y1) : ∀ (l1 : Int32) (l2 : Int32) (μ : km_S), I μ → vX12_isCell l1 l2 μ Q := by
  intro l1 l2 μ i
  unfold vX12_isCell
  refine jfX12_isReach (I := I) (gw_sub W (by decide)) ?_ _ _ i
  intro r2 μ1 iμ1
  refine ⟨?_, ?_⟩
  · intro e1
    exact hQ _ _ iμ1
  · intro e2
    refine ⟨?_, ?_⟩
    · intro e3
      exact hQ _ _ iμ1
    · intro e4
      intro e5
      refine ⟨?_, ?_⟩
      · intro e6
        exact hQ _ _ iμ1
      · intro e7
        exact hQ _ _ iμ1
def vX12_isLetter (l0 : Int32) (μ : km_S) (Q : Int32 → km_S → Prop) : Prop := ((l0 < 97 → Q 0 μ) ∧ (¬ (l0 < 97) → ((122 < l0 → Q 0 μ) ∧ (¬ (122 < l0) → Q 1 μ))))
set_option maxRecDepth 100000 in
set_option maxHeartbeats 4000000 in
theorem jcX12_isLetter {Q Q' Q'' : Int32 → km_S → Prop} (hQ : ∀ y0 y1, Q y0 y1 → Q' y0 y1 → Q'' y0 y1) : ∀ (l0 : Int32) (μ : km_S), wX12_isLetter l0 μ Q → vX12_isLetter l0 μ Q' → wX12_isLetter l0 μ Q'' := by
  intro l0 μ h v
  unfold wX12_isLetter at h
  unfold vX12_isLetter at v
  unfold wX12_isLetter
  refine ⟨?_, ?_⟩
  · have h := h.1
    have v := v.1
    intro e1
    have h := h e1
    have v := v e1
    exact hQ _ _ h v
  · have h := h.2
    have v := v.2
    intro e2
    have h := h e2
    have v := v e2
    refine ⟨?_, ?_⟩
    · have h := h.1
      have v := v.1
      intro e3
      have h := h e3
      have v := v e3
      exact hQ _ _ h v
    · have h := h.2
      have v := v.2
      intro e4
      have h := h e4
      have v := v e4
      exact hQ _ _ h v
set_option maxRecDepth 100000 in
set_option maxHeartbeats 4000000 in
theorem jaX12_isLetter {Q Q' : Int32 → km_S → Prop} (hQ : ∀ y0 y1, Q y0 y1 → Q' y0 y1) : ∀ (l0 : Int32) (μ : km_S), wX12_isLetter l0 μ Q → vX12_isLetter l0 μ Q' := by
  intro l0 μ h
  unfold wX12_isLetter at h
  unfold vX12_isLetter
  refine ⟨?_, ?_⟩
  · have h := h.1
    intro e1
    have h := h e1
    exact hQ _ _ h
  · have h := h.2
    intro e2
    have h := h e2
    refine ⟨?_, ?_⟩
    · have h := h.1
      intro e3
      have h := h e3
      exact hQ _ _ h
    · have h := h.2
      intro e4
      have h := h e4
      exact hQ _ _ h
set_option maxRecDepth 100000 in
set_option maxHeartbeats 4000000 in
theorem jfX12_isLetter {I : km_S → Prop} (W : gw_ I []) {Q : Int32 → km_S → Prop} (hQ : ∀ y0 y1, I y1 → Q y0 y1) : ∀ (l0 : Int32) (μ : km_S), I μ → vX12_isLetter l0 μ Q := by
  intro l0 μ i
  unfold vX12_isLetter
  refine ⟨?_, ?_⟩
  · intro e1
    exact hQ _ _ i
  · intro e2
    refine ⟨?_, ?_⟩
    · intro e3
      exact hQ _ _ i
    · intro e4
      exact hQ _ _ i
def vX12_isDigit (l0 : Int32) (μ : km_S) (Q : Int32 → km_S → Prop) : Prop := ((l0 < 48 → Q 0 μ) ∧ (¬ (l0 < 48) → ((57 < l0 → Q 0 μ) ∧ (¬ (57 < l0) → Q 1 μ))))
set_option maxRecDepth 100000 in
set_option maxHeartbeats 4000000 in
theorem jcX12_isDigit {Q Q' Q'' : Int32 → km_S → Prop} (hQ : ∀ y0 y1, Q y0 y1 → Q' y0 y1 → Q'' y0 y1) : ∀ (l0 : Int32) (μ : km_S), wX12_isDigit l0 μ Q → vX12_isDigit l0 μ Q' → wX12_isDigit l0 μ Q'' := by
  intro l0 μ h v
  unfold wX12_isDigit at h
  unfold vX12_isDigit at v
  unfold wX12_isDigit
  refine ⟨?_, ?_⟩
  · have h := h.1
    have v := v.1
    intro e1
    have h := h e1
    have v := v e1
    exact hQ _ _ h v
  · have h := h.2
    have v := v.2
    intro e2
    have h := h e2
    have v := v e2
    refine ⟨?_, ?_⟩
    · have h := h.1
      have v := v.1
      intro e3
      have h := h e3
      have v := v e3
      exact hQ _ _ h v
    · have h := h.2
      have v := v.2
      intro e4
      have h := h e4
      have v := v e4
      exact hQ _ _ h v
set_option maxRecDepth 100000 in
set_option maxHeartbeats 4000000 in
theorem jaX12_isDigit {Q Q' : Int32 → km_S → Prop} (hQ : ∀ y0 y1, Q y0 y1 → Q' y0 y1) : ∀ (l0 : Int32) (μ : km_S), wX12_isDigit l0 μ Q → vX12_isDigit l0 μ Q' := by
  intro l0 μ h
  unfold wX12_isDigit at h
  unfold vX12_isDigit
  refine ⟨?_, ?_⟩
  · have h := h.1
    intro e1
    have h := h e1
    exact hQ _ _ h
  · have h := h.2
    intro e2
    have h := h e2
    refine ⟨?_, ?_⟩
    · have h := h.1
      intro e3
      have h := h e3
      exact hQ _ _ h
    · have h := h.2
      intro e4
      have h := h e4
      exact hQ _ _ h
set_option maxRecDepth 100000 in
set_option maxHeartbeats 4000000 in
theorem jfX12_isDigit {I : km_S → Prop} (W : gw_ I []) {Q : Int32 → km_S → Prop} (hQ : ∀ y0 y1, I y1 → Q y0 y1) : ∀ (l0 : Int32) (μ : km_S), I μ → vX12_isDigit l0 μ Q := by
  intro l0 μ i
  unfold vX12_isDigit
  refine ⟨?_, ?_⟩
  · intro e1
    exact hQ _ _ i
  · intro e2
    refine ⟨?_, ?_⟩
    · intro e3
      exact hQ _ _ i
    · intro e4
      exact hQ _ _ i
def vX12_byteAt (l1 : Int32) (μ : km_S) (Q : Int32 → km_S → Prop) : Prop := (((km_i μ 61) ≤ l1 → Q (-1) μ) ∧ (¬ ((km_i μ 61) ≤ l1) → vp_in l1 500 → Q (km_a μ 52 l1.toNatClampNeg) μ))
set_option maxRecDepth 100000 in
set_option maxHeartbeats 4000000 in
theorem jcX12_byteAt {Q Q' Q'' : Int32 → km_S → Prop} (hQ : ∀ y0 y1, Q y0 y1 → Q' y0 y1 → Q'' y0 y1) : ∀ (l1 : Int32) (μ : km_S), wX12_byteAt l1 μ Q → vX12_byteAt l1 μ Q' → wX12_byteAt l1 μ Q'' := by
  intro l1 μ h v
  unfold wX12_byteAt at h
  unfold vX12_byteAt at v
  unfold wX12_byteAt
  refine ⟨?_, ?_⟩
  · have h := h.1
    have v := v.1
    intro e1
    have h := h e1
    have v := v e1
    exact hQ _ _ h v
  · have h := h.2
    have v := v.2
    intro e2
    have h := h e2
    have v := v e2
    refine ⟨h.1, ?_⟩
    have v := v h.1
    have h := h.2
    exact hQ _ _ h v
set_option maxRecDepth 100000 in
set_option maxHeartbeats 4000000 in
theorem jaX12_byteAt {Q Q' : Int32 → km_S → Prop} (hQ : ∀ y0 y1, Q y0 y1 → Q' y0 y1) : ∀ (l1 : Int32) (μ : km_S), wX12_byteAt l1 μ Q → vX12_byteAt l1 μ Q' := by
  intro l1 μ h
  unfold wX12_byteAt at h
  unfold vX12_byteAt
  refine ⟨?_, ?_⟩
  · have h := h.1
    intro e1
    have h := h e1
    exact hQ _ _ h
  · have h := h.2
    intro e2
    have h := h e2
    intro e3
    have h := h.2
    exact hQ _ _ h
set_option maxRecDepth 100000 in
set_option maxHeartbeats 4000000 in
theorem jfX12_byteAt {I : km_S → Prop} (W : gw_ I []) {Q : Int32 → km_S → Prop} (hQ : ∀ y0 y1, I y1 → Q y0 y1) : ∀ (l1 : Int32) (μ : km_S), I μ → vX12_byteAt l1 μ Q := by
  intro l1 μ i
  unfold vX12_byteAt
  refine ⟨?_, ?_⟩
  · intro e1
    exact hQ _ _ i
  · intro e2
    intro e3
    exact hQ _ _ i
def vX12_isSign (l1 : Int32) (μ : km_S) (Q : Int32 → km_S → Prop) : Prop := ((¬ (km_i μ 62) = 3 → Q 0 μ) ∧ ((km_i μ 62) = 3 → ((¬ (km_i μ 63) = l1 → Q 0 μ) ∧ ((km_i μ 63) = l1 → Q 1 μ))))
set_option maxRecDepth 100000 in
set_option maxHeartbeats 4000000 in
theorem jcX12_isSign {Q Q' Q'' : Int32 → km_S → Prop} (hQ : ∀ y0 y1, Q y0 y1 → Q' y0 y1 → Q'' y0 y1) : ∀ (l1 : Int32) (μ : km_S), wX12_isSign l1 μ Q → vX12_isSign l1 μ Q' → wX12_isSign l1 μ Q'' := by
  intro l1 μ h v
  unfold wX12_isSign at h
  unfold vX12_isSign at v
  unfold wX12_isSign
  refine ⟨?_, ?_⟩
  · have h := h.1
    have v := v.1
    intro e1
    have h := h e1
    have v := v e1
    exact hQ _ _ h v
  · have h := h.2
    have v := v.2
    intro e2
    have h := h e2
    have v := v e2
    refine ⟨?_, ?_⟩
    · have h := h.1
      have v := v.1
      intro e3
      have h := h e3
      have v := v e3
      exact hQ _ _ h v
    · have h := h.2
      have v := v.2
      intro e4
      have h := h e4
      have v := v e4
      exact hQ _ _ h v
set_option maxRecDepth 100000 in
set_option maxHeartbeats 4000000 in
theorem jaX12_isSign {Q Q' : Int32 → km_S → Prop} (hQ : ∀ y0 y1, Q y0 y1 → Q' y0 y1) : ∀ (l1 : Int32) (μ : km_S), wX12_isSign l1 μ Q → vX12_isSign l1 μ Q' := by
  intro l1 μ h
  unfold wX12_isSign at h
  unfold vX12_isSign
  refine ⟨?_, ?_⟩
  · have h := h.1
    intro e1
    have h := h e1
    exact hQ _ _ h
  · have h := h.2
    intro e2
    have h := h e2
    refine ⟨?_, ?_⟩
    · have h := h.1
      intro e3
      have h := h e3
      exact hQ _ _ h
    · have h := h.2
      intro e4
      have h := h e4
      exact hQ _ _ h
set_option maxRecDepth 100000 in
set_option maxHeartbeats 4000000 in
theorem jfX12_isSign {I : km_S → Prop} (W : gw_ I []) {Q : Int32 → km_S → Prop} (hQ : ∀ y0 y1, I y1 → Q y0 y1) : ∀ (l1 : Int32) (μ : km_S), I μ → vX12_isSign l1 μ Q := by
  intro l1 μ i
  unfold vX12_isSign
  refine ⟨?_, ?_⟩
  · intro e1
    exact hQ _ _ i
  · intro e2
    refine ⟨?_, ?_⟩
    · intro e3
      exact hQ _ _ i
    · intro e4
      exact hQ _ _ i
def vX12_wrong (l1 : Int32) (μ : km_S) (Q : km_S → Prop) : Prop := (((km_i μ 66) = 0 → ∀ μ2, μ2 = km_si μ 66 l1 → ∀ μ3, μ3 = km_si μ2 67 (km_i μ2 64) → Q μ3) ∧ (¬ ((km_i μ 66) = 0) → Q μ))
set_option maxRecDepth 100000 in
set_option maxHeartbeats 4000000 in
theorem jcX12_wrong {Q Q' Q'' : km_S → Prop} (hQ : ∀ y0, Q y0 → Q' y0 → Q'' y0) : ∀ (l1 : Int32) (μ : km_S), wX12_wrong l1 μ Q → vX12_wrong l1 μ Q' → wX12_wrong l1 μ Q'' := by
  intro l1 μ h v
  unfold wX12_wrong at h
  unfold vX12_wrong at v
  unfold wX12_wrong
  refine ⟨?_, ?_⟩
  · have h := h.1
    have v := v.1
    intro e1
    have h := h e1
    have v := v e1
    intro μ2 e2
    have h := h μ2 e2
    have v := v μ2 e2
    intro μ3 e3
    have h := h μ3 e3
    have v := v μ3 e3
    exact hQ _ h v
  · have h := h.2
    have v := v.2
    intro e4
    have h := h e4
    have v := v e4
    exact hQ _ h v
set_option maxRecDepth 100000 in
set_option maxHeartbeats 4000000 in
theorem jaX12_wrong {Q Q' : km_S → Prop} (hQ : ∀ y0, Q y0 → Q' y0) : ∀ (l1 : Int32) (μ : km_S), wX12_wrong l1 μ Q → vX12_wrong l1 μ Q' := by
  intro l1 μ h
  unfold wX12_wrong at h
  unfold vX12_wrong
  refine ⟨?_, ?_⟩
  · have h := h.1
    intro e1
    have h := h e1
    intro μ2 e2
    have h := h μ2 e2
    intro μ3 e3
    have h := h μ3 e3
    exact hQ _ h
  · have h := h.2
    intro e4
    have h := h e4
    exact hQ _ h
set_option maxRecDepth 100000 in
set_option maxHeartbeats 4000000 in
theorem jfX12_wrong {I : km_S → Prop} (W : gw_ I [66, 67]) {Q : km_S → Prop} (hQ : ∀ y0, I y0 → Q y0) : ∀ (l1 : Int32) (μ : km_S), I μ → vX12_wrong l1 μ Q := by
  intro l1 μ i
  unfold vX12_wrong
  refine ⟨?_, ?_⟩
  · intro e1
    intro μ2 e2
    have iμ2 : I μ2 := by rw [e2]; exact ((W _ i) 66 (by decide)).1 _
    intro μ3 e3
    have iμ3 : I μ3 := by rw [e3]; exact ((W _ iμ2) 67 (by decide)).1 _
    exact hQ _ iμ3
  · intro e4
    exact hQ _ i
def vX12_emit (l1 : Int32) (μ : km_S) (Q : km_S → Prop) : Prop := (((km_i μ 66) = 0 → vp_in ((900 * (km_i μ 5)) + (km_i μ 59)) 5400 → ∀ μ3, μ3 = km_sa μ 56 ((900 * (km_i μ 5)) + (km_i μ 59)).toNatClampNeg l1 → ∀ μ4, μ4 = km_si μ3 59 ((km_i μ3 59) + 1) → Q μ4) ∧ (¬ ((km_i μ 66) = 0) → Q μ))
set_option maxRecDepth 100000 in
set_option maxHeartbeats 4000000 in
theorem jcX12_emit {Q Q' Q'' : km_S → Prop} (hQ : ∀ y0, Q y0 → Q' y0 → Q'' y0) : ∀ (l1 : Int32) (μ : km_S), wX12_emit l1 μ Q → vX12_emit l1 μ Q' → wX12_emit l1 μ Q'' := by
  intro l1 μ h v
  unfold wX12_emit at h
  unfold vX12_emit at v
  unfold wX12_emit
  refine ⟨?_, ?_⟩
  · have h := h.1
    have v := v.1
    intro e1
    have h := h e1
    have v := v e1
    refine ⟨h.1, ?_⟩
    have v := v h.1
    have h := h.2
    intro μ3 e3
    have h := h μ3 e3
    have v := v μ3 e3
    intro μ4 e4
    have h := h μ4 e4
    have v := v μ4 e4
    exact hQ _ h v
  · have h := h.2
    have v := v.2
    intro e5
    have h := h e5
    have v := v e5
    exact hQ _ h v
set_option maxRecDepth 100000 in
set_option maxHeartbeats 4000000 in
theorem jaX12_emit {Q Q' : km_S → Prop} (hQ : ∀ y0, Q y0 → Q' y0) : ∀ (l1 : Int32) (μ : km_S), wX12_emit l1 μ Q → vX12_emit l1 μ Q' := by
  intro l1 μ h
  unfold wX12_emit at h
  unfold vX12_emit
  refine ⟨?_, ?_⟩
  · have h := h.1
    intro e1
    have h := h e1
    intro e2
    have h := h.2
    intro μ3 e3
    have h := h μ3 e3
    intro μ4 e4
    have h := h μ4 e4
    exact hQ _ h
  · have h := h.2
    intro e5
    have h := h e5
    exact hQ _ h
set_option maxRecDepth 100000 in
set_option maxHeartbeats 4000000 in
theorem jfX12_emit {I : km_S → Prop} (W : gw_ I [56, 59]) {Q : km_S → Prop} (hQ : ∀ y0, I y0 → Q y0) : ∀ (l1 : Int32) (μ : km_S), I μ → vX12_emit l1 μ Q := by
  intro l1 μ i
  unfold vX12_emit
  refine ⟨?_, ?_⟩
  · intro e1
    intro e2
    intro μ3 e3
    have iμ3 : I μ3 := by rw [e3]; exact ((W _ i) 56 (by decide)).2.1 _ _
    intro μ4 e4
    have iμ4 : I μ4 := by rw [e4]; exact ((W _ iμ3) 59 (by decide)).1 _
    exact hQ _ iμ4
  · intro e5
    exact hQ _ i
def vX12_fault (μ : km_S) (Q : Int32 → km_S → Prop) : Prop := ∀ μ1, μ1 = km_si μ 1 0 → Q (km_i μ1 10) μ1
set_option maxRecDepth 100000 in
set_option maxHeartbeats 4000000 in
theorem jcX12_fault {Q Q' Q'' : Int32 → km_S → Prop} (hQ : ∀ y0 y1, Q y0 y1 → Q' y0 y1 → Q'' y0 y1) : ∀ (μ : km_S), wX12_fault μ Q → vX12_fault μ Q' → wX12_fault μ Q'' := by
  intro μ h v
  unfold wX12_fault at h
  unfold vX12_fault at v
  unfold wX12_fault
  intro μ1 e1
  have h := h μ1 e1
  have v := v μ1 e1
  exact hQ _ _ h v
set_option maxRecDepth 100000 in
set_option maxHeartbeats 4000000 in
theorem jaX12_fault {Q Q' : Int32 → km_S → Prop} (hQ : ∀ y0 y1, Q y0 y1 → Q' y0 y1) : ∀ (μ : km_S), wX12_fault μ Q → vX12_fault μ Q' := by
  intro μ h
  unfold wX12_fault at h
  unfold vX12_fault
  intro μ1 e1
  have h := h μ1 e1
  exact hQ _ _ h
set_option maxRecDepth 100000 in
set_option maxHeartbeats 4000000 in
theorem jfX12_fault {I : km_S → Prop} (W : gw_ I [1]) {Q : Int32 → km_S → Prop} (hQ : ∀ y0 y1, I y1 → Q y0 y1) : ∀ (μ : km_S), I μ → vX12_fault μ Q := by
  intro μ i
  unfold vX12_fault
  intro μ1 e1
  have iμ1 : I μ1 := by rw [e1]; exact ((W _ i) 1 (by decide)).1 _
  exact hQ _ _ iμ1
end
section
def vX12_isOpen (l1 : Int32) (l2 : Int32) (μ : km_S) (Q : Int32 → km_S → Prop) : Prop := vX12_at0 l1 l2 μ (fun r2 μ1 => vp_in r2 120 → vp_in l1 10 → (((km_a μ1 15 l1.toNatClampNeg) ≤ (km_a μ1 31 r2.toNatClampNeg) → Q 0 μ1) ∧ (¬ ((km_a μ1 15 l1.toNatClampNeg) ≤ (km_a μ1 31 r2.toNatClampNeg)) → vX12_at0 l1 l2 μ1 (fun r7 μ6 => vp_in r7 120 → ((¬ (km_a μ6 33 r7.toNatClampNeg) = 0 → Q 0 μ6) ∧ ((km_a μ6 33 r7.toNatClampNeg) = 0 → Q 1 μ6))))))
set_option maxRecDepth 100000 in
set_option maxHeartbeats 4000000 in
theorem jcX12_isOpen {Q Q' Q'' : Int32 → km_S → Prop} (hQ : ∀ y0 y1, Q y0 y1 → Q' y0 y1 → Q'' y0 y1) : ∀ (l1 : Int32) (l2 : Int32) (μ : km_S), wX12_isOpen l1 l2 μ Q → vX12_isOpen l1 l2 μ Q' → wX12_isOpen l1 l2 μ Q'' := by
  intro l1 l2 μ h v
  unfold wX12_isOpen at h
  unfold vX12_isOpen at v
  unfold wX12_isOpen
  refine jcX12_at0 ?_ _ _ _ h v
  intro r2 μ1 h v
  refine ⟨h.1, ?_⟩
  have v := v h.1
  have h := h.2
  refine ⟨h.1, ?_⟩
  have v := v h.1
  have h := h.2
  refine ⟨?_, ?_⟩
  · have h := h.1
    have v := v.1
    intro e3
    have h := h e3
    have v := v e3
    exact hQ _ _ h v
  · have h := h.2
    have v := v.2
    intro e4
    have h := h e4
    have v := v e4
    refine jcX12_at0 ?_ _ _ _ h v
    intro r7 μ6 h v
    refine ⟨h.1, ?_⟩
    have v := v h.1
    have h := h.2
    refine ⟨?_, ?_⟩
    · have h := h.1
      have v := v.1
      intro e6
      have h := h e6
      have v := v e6
      exact hQ _ _ h v
    · have h := h.2
      have v := v.2
      intro e7
      have h := h e7
      have v := v e7
      exact hQ _ _ h v
set_option maxRecDepth 100000 in
set_option maxHeartbeats 4000000 in
theorem jaX12_isOpen {Q Q' : Int32 → km_S → Prop} (hQ : ∀ y0 y1, Q y0 y1 → Q' y0 y1) : ∀ (l1 : Int32) (l2 : Int32) (μ : km_S), wX12_isOpen l1 l2 μ Q → vX12_isOpen l1 l2 μ Q' := by
  intro l1 l2 μ h
  unfold wX12_isOpen at h
  unfold vX12_isOpen
  refine jaX12_at0 ?_ _ _ _ h
  intro r2 μ1 h
  intro e1
  have h := h.2
  intro e2
  have h := h.2
  refine ⟨?_, ?_⟩
  · have h := h.1
    intro e3
    have h := h e3
    exact hQ _ _ h
  · have h := h.2
    intro e4
    have h := h e4
    refine jaX12_at0 ?_ _ _ _ h
    intro r7 μ6 h
    intro e5
    have h := h.2
    refine ⟨?_, ?_⟩
    · have h := h.1
      intro e6
      have h := h e6
      exact hQ _ _ h
    · have h := h.2
      intro e7
      have h := h e7
      exact hQ _ _ h
set_option maxRecDepth 100000 in
set_option maxHeartbeats 4000000 in
theorem jfX12_isOpen {I : km_S → Prop} (W : gw_ I []) {Q : Int32 → km_S → Prop} (hQ : ∀ y0 y1, I y1 → Q y0 y1) : ∀ (l1 : Int32) (l2 : Int32) (μ : km_S), I μ → vX12_isOpen l1 l2 μ Q := by
  intro l1 l2 μ i
  unfold vX12_isOpen
  refine jfX12_at0 (I := I) (gw_sub W (by decide)) ?_ _ _ _ i
  intro r2 μ1 iμ1
  intro e1
  intro e2
  refine ⟨?_, ?_⟩
  · intro e3
    exact hQ _ _ iμ1
  · intro e4
    refine jfX12_at0 (I := I) (gw_sub W (by decide)) ?_ _ _ _ iμ1
    intro r7 μ6 iμ6
    intro e5
    refine ⟨?_, ?_⟩
    · intro e6
      exact hQ _ _ iμ6
    · intro e7
      exact hQ _ _ iμ6
end
section
def vX12_reach (l1 : Int32) (l2 : Int32) (l3 : Int32) (l4 : Int32) (μ : km_S) (Q : Int32 → km_S → Prop) : Prop := ∀ μ1, μ1 = km_si μ 1 0 → (((km_i μ1 3) = 10 → Q (-1) μ1) ∧ (¬ ((km_i μ1 3) = 10) → ((l1 < (-1) → Q (-1) μ1) ∧ (¬ (l1 < (-1)) → (((km_i μ1 3) ≤ l1 → Q (-1) μ1) ∧ (¬ ((km_i μ1 3) ≤ l1) → ((l2 < 1 → Q (-1) μ1) ∧ (¬ (l2 < 1) → ((12 < l2 → Q (-1) μ1) ∧ (¬ (12 < l2) → ((l3 < 1 → Q (-1) μ1) ∧ (¬ (l3 < 1) → ((20 < l3 → Q (-1) μ1) ∧ (¬ (20 < l3) → ((l4 < 0 → Q (-1) μ1) ∧ (¬ (l4 < 0) → ((l4 ≤ 1000 → vp_in (km_i μ1 3) 10 → ∀ μ12, μ12 = km_sa μ1 13 (km_i μ1 3).toNatClampNeg l1 → vp_in (km_i μ12 3) 10 → ∀ μ14, μ14 = km_sa μ12 14 (km_i μ12 3).toNatClampNeg l2 → vp_in (km_i μ14 3) 10 → ∀ μ16, μ16 = km_sa μ14 15 (km_i μ14 3).toNatClampNeg l3 → vp_in (km_i μ16 3) 10 → ∀ μ18, μ18 = km_sa μ16 16 (km_i μ16 3).toNatClampNeg l4 → ∀ μ19, μ19 = km_si μ18 3 ((km_i μ18 3) + 1) → Q ((km_i μ19 3) - 1) μ19) ∧ (¬ (l4 ≤ 1000) → Q (-1) μ1))))))))))))))))))
set_option maxRecDepth 100000 in
set_option maxHeartbeats 4000000 in
theorem jcX12_reach {Q Q' Q'' : Int32 → km_S → Prop} (hQ : ∀ y0 y1, Q y0 y1 → Q' y0 y1 → Q'' y0 y1) : ∀ (l1 : Int32) (l2 : Int32) (l3 : Int32) (l4 : Int32) (μ : km_S), wX12_reach l1 l2 l3 l4 μ Q → vX12_reach l1 l2 l3 l4 μ Q' → wX12_reach l1 l2 l3 l4 μ Q'' := by
  intro l1 l2 l3 l4 μ h v
  unfold wX12_reach at h
  unfold vX12_reach at v
  unfold wX12_reach
  intro μ1 e1
  have h := h μ1 e1
  have v := v μ1 e1
  refine ⟨?_, ?_⟩
  · have h := h.1
    have v := v.1
    intro e2
    have h := h e2
    have v := v e2
    exact hQ _ _ h v
  · have h := h.2
    have v := v.2
    intro e3
    have h := h e3
    have v := v e3
    refine ⟨?_, ?_⟩
    · have h := h.1
      have v := v.1
      intro e4
      have h := h e4
      have v := v e4
      exact hQ _ _ h v
    · have h := h.2
      have v := v.2
      intro e5
      have h := h e5
      have v := v e5
      refine ⟨?_, ?_⟩
      · have h := h.1
        have v := v.1
        intro e6
        have h := h e6
        have v := v e6
        exact hQ _ _ h v
      · have h := h.2
        have v := v.2
        intro e7
        have h := h e7
        have v := v e7
        refine ⟨?_, ?_⟩
        · have h := h.1
          have v := v.1
          intro e8
          have h := h e8
          have v := v e8
          exact hQ _ _ h v
        · have h := h.2
          have v := v.2
          intro e9
          have h := h e9
          have v := v e9
          refine ⟨?_, ?_⟩
          · have h := h.1
            have v := v.1
            intro e10
            have h := h e10
            have v := v e10
            exact hQ _ _ h v
          · have h := h.2
            have v := v.2
            intro e11
            have h := h e11
            have v := v e11
            refine ⟨?_, ?_⟩
            · have h := h.1
              have v := v.1
              intro e12
              have h := h e12
              have v := v e12
              exact hQ _ _ h v
            · have h := h.2
              have v := v.2
              intro e13
              have h := h e13
              have v := v e13
              refine ⟨?_, ?_⟩
              · have h := h.1
                have v := v.1
                intro e14
                have h := h e14
                have v := v e14
                exact hQ _ _ h v
              · have h := h.2
                have v := v.2
                intro e15
                have h := h e15
                have v := v e15
                refine ⟨?_, ?_⟩
                · have h := h.1
                  have v := v.1
                  intro e16
                  have h := h e16
                  have v := v e16
                  exact hQ _ _ h v
                · have h := h.2
                  have v := v.2
                  intro e17
                  have h := h e17
                  have v := v e17
                  refine ⟨?_, ?_⟩
                  · have h := h.1
                    have v := v.1
                    intro e18
                    have h := h e18
                    have v := v e18
                    refine ⟨h.1, ?_⟩
                    have v := v h.1
                    have h := h.2
                    intro μ12 e20
                    have h := h μ12 e20
                    have v := v μ12 e20
                    refine ⟨h.1, ?_⟩
                    have v := v h.1
                    have h := h.2
                    intro μ14 e22
                    have h := h μ14 e22
                    have v := v μ14 e22
                    refine ⟨h.1, ?_⟩
                    have v := v h.1
                    have h := h.2
                    intro μ16 e24
                    have h := h μ16 e24
                    have v := v μ16 e24
                    refine ⟨h.1, ?_⟩
                    have v := v h.1
                    have h := h.2
                    intro μ18 e26
                    have h := h μ18 e26
                    have v := v μ18 e26
                    intro μ19 e27
                    have h := h μ19 e27
                    have v := v μ19 e27
                    exact hQ _ _ h v
                  · have h := h.2
                    have v := v.2
                    intro e28
                    have h := h e28
                    have v := v e28
                    exact hQ _ _ h v
set_option maxRecDepth 100000 in
set_option maxHeartbeats 4000000 in
theorem jaX12_reach {Q Q' : Int32 → km_S → Prop} (hQ : ∀ y0 y1, Q y0 y1 → Q' y0 y1) : ∀ (l1 : Int32) (l2 : Int32) (l3 : Int32) (l4 : Int32) (μ : km_S), wX12_reach l1 l2 l3 l4 μ Q → vX12_reach l1 l2 l3 l4 μ Q' := by
  intro l1 l2 l3 l4 μ h
  unfold wX12_reach at h
  unfold vX12_reach
  intro μ1 e1
  have h := h μ1 e1
  refine ⟨?_, ?_⟩
  · have h := h.1
    intro e2
    have h := h e2
    exact hQ _ _ h
  · have h := h.2
    intro e3
    have h := h e3
    refine ⟨?_, ?_⟩
    · have h := h.1
      intro e4
      have h := h e4
      exact hQ _ _ h
    · have h := h.2
      intro e5
      have h := h e5
      refine ⟨?_, ?_⟩
      · have h := h.1
        intro e6
        have h := h e6
        exact hQ _ _ h
      · have h := h.2
        intro e7
        have h := h e7
        refine ⟨?_, ?_⟩
        · have h := h.1
          intro e8
          have h := h e8
          exact hQ _ _ h
        · have h := h.2
          intro e9
          have h := h e9
          refine ⟨?_, ?_⟩
          · have h := h.1
            intro e10
            have h := h e10
            exact hQ _ _ h
          · have h := h.2
            intro e11
            have h := h e11
            refine ⟨?_, ?_⟩
            · have h := h.1
              intro e12
              have h := h e12
              exact hQ _ _ h
            · have h := h.2
              intro e13
              have h := h e13
              refine ⟨?_, ?_⟩
              · have h := h.1
                intro e14
                have h := h e14
                exact hQ _ _ h
              · have h := h.2
                intro e15
                have h := h e15
                refine ⟨?_, ?_⟩
                · have h := h.1
                  intro e16
                  have h := h e16
                  exact hQ _ _ h
                · have h := h.2
                  intro e17
                  have h := h e17
                  refine ⟨?_, ?_⟩
                  · have h := h.1
                    intro e18
                    have h := h e18
                    intro e19
                    have h := h.2
                    intro μ12 e20
                    have h := h μ12 e20
                    intro e21
                    have h := h.2
                    intro μ14 e22
                    have h := h μ14 e22
                    intro e23
                    have h := h.2
                    intro μ16 e24
                    have h := h μ16 e24
                    intro e25
                    have h := h.2
                    intro μ18 e26
                    have h := h μ18 e26
                    intro μ19 e27
                    have h := h μ19 e27
                    exact hQ _ _ h
                  · have h := h.2
                    intro e28
                    have h := h e28
                    exact hQ _ _ h
set_option maxRecDepth 100000 in
set_option maxHeartbeats 4000000 in
theorem jfX12_reach {I : km_S → Prop} (W : gw_ I [1, 3, 13, 14, 15, 16]) {Q : Int32 → km_S → Prop} (hQ : ∀ y0 y1, I y1 → Q y0 y1) : ∀ (l1 : Int32) (l2 : Int32) (l3 : Int32) (l4 : Int32) (μ : km_S), I μ → vX12_reach l1 l2 l3 l4 μ Q := by
  intro l1 l2 l3 l4 μ i
  unfold vX12_reach
  intro μ1 e1
  have iμ1 : I μ1 := by rw [e1]; exact ((W _ i) 1 (by decide)).1 _
  refine ⟨?_, ?_⟩
  · intro e2
    exact hQ _ _ iμ1
  · intro e3
    refine ⟨?_, ?_⟩
    · intro e4
      exact hQ _ _ iμ1
    · intro e5
      refine ⟨?_, ?_⟩
      · intro e6
        exact hQ _ _ iμ1
      · intro e7
        refine ⟨?_, ?_⟩
        · intro e8
          exact hQ _ _ iμ1
        · intro e9
          refine ⟨?_, ?_⟩
          · intro e10
            exact hQ _ _ iμ1
          · intro e11
            refine ⟨?_, ?_⟩
            · intro e12
              exact hQ _ _ iμ1
            · intro e13
              refine ⟨?_, ?_⟩
              · intro e14
                exact hQ _ _ iμ1
              · intro e15
                refine ⟨?_, ?_⟩
                · intro e16
                  exact hQ _ _ iμ1
                · intro e17
                  refine ⟨?_, ?_⟩
                  · intro e18
                    intro e19
                    intro μ12 e20
                    have iμ12 : I μ12 := by rw [e20]; exact ((W _ iμ1) 13 (by decide)).2.1 _ _
                    intro e21
                    intro μ14 e22
                    have iμ14 : I μ14 := by rw [e22]; exact ((W _ iμ12) 14 (by decide)).2.1 _ _
                    intro e23
                    intro μ16 e24
                    have iμ16 : I μ16 := by rw [e24]; exact ((W _ iμ14) 15 (by decide)).2.1 _ _
                    intro e25
                    intro μ18 e26
                    have iμ18 : I μ18 := by rw [e26]; exact ((W _ iμ16) 16 (by decide)).2.1 _ _
                    intro μ19 e27
                    have iμ19 : I μ19 := by rw [e27]; exact ((W _ iμ18) 3 (by decide)).1 _
                    exact hQ _ _ iμ19
                  · intro e28
                    exact hQ _ _ iμ1
def vX12_dam (l1 : Int32) (l2 : Int32) (μ : km_S) (Q : Int32 → km_S → Prop) : Prop := ∀ μ1, μ1 = km_si μ 1 0 → vX12_isReach l1 μ1 (fun r3 μ2 => ((¬ r3 = 0 → ((l2 < 0 → Q 0 μ2) ∧ (¬ (l2 < 0) → ((l2 ≤ 100000 → vp_in l1 10 → ∀ μ8, μ8 = km_sa μ2 21 l1.toNatClampNeg (vp_nar .boolean 1) → vp_in l1 10 → ∀ μ10, μ10 = km_sa μ8 24 l1.toNatClampNeg l2 → Q 1 μ10) ∧ (¬ (l2 ≤ 100000) → Q 0 μ2))))) ∧ (r3 = 0 → vX12_fail μ2 (fun r12 μ11 => Q 0 μ11))))
set_option maxRecDepth 100000 in
set_option maxHeartbeats 4000000 in
theorem jcX12_dam {Q Q' Q'' : Int32 → km_S → Prop} (hQ : ∀ y0 y1, Q y0 y1 → Q' y0 y1 → Q'' y0 y1) : ∀ (l1 : Int32) (l2 : Int32) (μ : km_S), wX12_dam l1 l2 μ Q → vX12_dam l1 l2 μ Q' → wX12_dam l1 l2 μ Q'' := by
  intro l1 l2 μ h v
  unfold wX12_dam at h
  unfold vX12_dam at v
  unfold wX12_dam
  intro μ1 e1
  have h := h μ1 e1
  have v := v μ1 e1
  refine jcX12_isReach ?_ _ _ h v
  intro r3 μ2 h v
  refine ⟨?_, ?_⟩
  · have h := h.1
    have v := v.1
    intro e2
    have h := h e2
    have v := v e2
    refine ⟨?_, ?_⟩
    · have h := h.1
      have v := v.1
      intro e3
      have h := h e3
      have v := v e3
      exact hQ _ _ h v
    · have h := h.2
      have v := v.2
      intro e4
      have h := h e4
      have v := v e4
      refine ⟨?_, ?_⟩
      · have h := h.1
        have v := v.1
        intro e5
        have h := h e5
        have v := v e5
        refine ⟨h.1, ?_⟩
        have v := v h.1
        have h := h.2
        intro μ8 e7
        have h := h μ8 e7
        have v := v μ8 e7
        refine ⟨h.1, ?_⟩
        have v := v h.1
        have h := h.2
        intro μ10 e9
        have h := h μ10 e9
        have v := v μ10 e9
        exact hQ _ _ h v
      · have h := h.2
        have v := v.2
        intro e10
        have h := h e10
        have v := v e10
        exact hQ _ _ h v
  · have h := h.2
    have v := v.2
    intro e11
    have h := h e11
    have v := v e11
    refine jcX12_fail ?_ _ h v
    intro r12 μ11 h v
    exact hQ _ _ h v
set_option maxRecDepth 100000 in
set_option maxHeartbeats 4000000 in
theorem jaX12_dam {Q Q' : Int32 → km_S → Prop} (hQ : ∀ y0 y1, Q y0 y1 → Q' y0 y1) : ∀ (l1 : Int32) (l2 : Int32) (μ : km_S), wX12_dam l1 l2 μ Q → vX12_dam l1 l2 μ Q' := by
  intro l1 l2 μ h
  unfold wX12_dam at h
  unfold vX12_dam
  intro μ1 e1
  have h := h μ1 e1
  refine jaX12_isReach ?_ _ _ h
  intro r3 μ2 h
  refine ⟨?_, ?_⟩
  · have h := h.1
    intro e2
    have h := h e2
    refine ⟨?_, ?_⟩
    · have h := h.1
      intro e3
      have h := h e3
      exact hQ _ _ h
    · have h := h.2
      intro e4
      have h := h e4
      refine ⟨?_, ?_⟩
      · have h := h.1
        intro e5
        have h := h e5
        intro e6
        have h := h.2
        intro μ8 e7
        have h := h μ8 e7
        intro e8
        have h := h.2
        intro μ10 e9
        have h := h μ10 e9
        exact hQ _ _ h
      · have h := h.2
        intro e10
        have h := h e10
        exact hQ _ _ h
  · have h := h.2
    intro e11
    have h := h e11
    refine jaX12_fail ?_ _ h
    intro r12 μ11 h
    exact hQ _ _ h
set_option maxRecDepth 100000 in
set_option maxHeartbeats 4000000 in
theorem jfX12_dam {I : km_S → Prop} (W : gw_ I [1, 21, 24]) {Q : Int32 → km_S → Prop} (hQ : ∀ y0 y1, I y1 → Q y0 y1) : ∀ (l1 : Int32) (l2 : Int32) (μ : km_S), I μ → vX12_dam l1 l2 μ Q := by
  intro l1 l2 μ i
  unfold vX12_dam
  intro μ1 e1
  have iμ1 : I μ1 := by rw [e1]; exact ((W _ i) 1 (by decide)).1 _
  refine jfX12_isReach (I := I) (gw_sub W (by decide)) ?_ _ _ iμ1
  intro r3 μ2 iμ2
  refine ⟨?_, ?_⟩
  · intro e2
    refine ⟨?_, ?_⟩
    · intro e3
      exact hQ _ _ iμ2
    · intro e4
      refine ⟨?_, ?_⟩
      · intro e5
        intro e6
        intro μ8 e7
        have iμ8 : I μ8 := by rw [e7]; exact ((W _ iμ2) 21 (by decide)).2.1 _ _
        intro e8
        intro μ10 e9
        have iμ10 : I μ10 := by rw [e9]; exact ((W _ iμ8) 24 (by decide)).2.1 _ _
        exact hQ _ _ iμ10
      · intro e10
        exact hQ _ _ iμ2
  · intro e11
    refine jfX12_fail (I := I) (gw_sub W (by decide)) ?_ _ iμ2
    intro r12 μ11 iμ11
    exact hQ _ _ iμ11
def vX12_gate (l1 : Int32) (l2 : Int32) (μ : km_S) (Q : Int32 → km_S → Prop) : Prop := ∀ μ1, μ1 = km_si μ 1 0 → vX12_isReach l1 μ1 (fun r3 μ2 => ((¬ r3 = 0 → vp_in l1 10 → (((km_a μ2 21 l1.toNatClampNeg) = 0 → Q (-1) μ2) ∧ (¬ ((km_a μ2 21 l1.toNatClampNeg) = 0) → ((l2 < 0 → Q (-1) μ2) ∧ (¬ (l2 < 0) → ((l2 ≤ 1000 → vp_in l1 10 → ∀ v10, v10 = km_a μ2 26 l1.toNatClampNeg → vp_in l1 10 → ∀ μ12, μ12 = km_sa μ2 26 l1.toNatClampNeg l2 → Q v10 μ12) ∧ (¬ (l2 ≤ 1000) → Q (-1) μ2))))))) ∧ (r3 = 0 → vX12_fail μ2 (fun r14 μ13 => Q r14 μ13))))
set_option maxRecDepth 100000 in
set_option maxHeartbeats 4000000 in
theorem jcX12_gate {Q Q' Q'' : Int32 → km_S → Prop} (hQ : ∀ y0 y1, Q y0 y1 → Q' y0 y1 → Q'' y0 y1) : ∀ (l1 : Int32) (l2 : Int32) (μ : km_S), wX12_gate l1 l2 μ Q → vX12_gate l1 l2 μ Q' → wX12_gate l1 l2 μ Q'' := by
  intro l1 l2 μ h v
  unfold wX12_gate at h
  unfold vX12_gate at v
  unfold wX12_gate
  intro μ1 e1
  have h := h μ1 e1
  have v := v μ1 e1
  refine jcX12_isReach ?_ _ _ h v
  intro r3 μ2 h v
  refine ⟨?_, ?_⟩
  · have h := h.1
    have v := v.1
    intro e2
    have h := h e2
    have v := v e2
    refine ⟨h.1, ?_⟩
    have v := v h.1
    have h := h.2
    refine ⟨?_, ?_⟩
    · have h := h.1
      have v := v.1
      intro e4
      have h := h e4
      have v := v e4
      exact hQ _ _ h v
    · have h := h.2
      have v := v.2
      intro e5
      have h := h e5
      have v := v e5
      refine ⟨?_, ?_⟩
      · have h := h.1
        have v := v.1
        intro e6
        have h := h e6
        have v := v e6
        exact hQ _ _ h v
      · have h := h.2
        have v := v.2
        intro e7
        have h := h e7
        have v := v e7
        refine ⟨?_, ?_⟩
        · have h := h.1
          have v := v.1
          intro e8
          have h := h e8
          have v := v e8
          refine ⟨h.1, ?_⟩
          have v := v h.1
          have h := h.2
          intro v10 e10
          have h := h v10 e10
          have v := v v10 e10
          refine ⟨h.1, ?_⟩
          have v := v h.1
          have h := h.2
          intro μ12 e12
          have h := h μ12 e12
          have v := v μ12 e12
          exact hQ _ _ h v
        · have h := h.2
          have v := v.2
          intro e13
          have h := h e13
          have v := v e13
          exact hQ _ _ h v
  · have h := h.2
    have v := v.2
    intro e14
    have h := h e14
    have v := v e14
    refine jcX12_fail ?_ _ h v
    intro r14 μ13 h v
    exact hQ _ _ h v
set_option maxRecDepth 100000 in
set_option maxHeartbeats 4000000 in
theorem jaX12_gate {Q Q' : Int32 → km_S → Prop} (hQ : ∀ y0 y1, Q y0 y1 → Q' y0 y1) : ∀ (l1 : Int32) (l2 : Int32) (μ : km_S), wX12_gate l1 l2 μ Q → vX12_gate l1 l2 μ Q' := by
  intro l1 l2 μ h
  unfold wX12_gate at h
  unfold vX12_gate
  intro μ1 e1
  have h := h μ1 e1
  refine jaX12_isReach ?_ _ _ h
  intro r3 μ2 h
  refine ⟨?_, ?_⟩
  · have h := h.1
    intro e2
    have h := h e2
    intro e3
    have h := h.2
    refine ⟨?_, ?_⟩
    · have h := h.1
      intro e4
      have h := h e4
      exact hQ _ _ h
    · have h := h.2
      intro e5
      have h := h e5
      refine ⟨?_, ?_⟩
      · have h := h.1
        intro e6
        have h := h e6
        exact hQ _ _ h
      · have h := h.2
        intro e7
        have h := h e7
        refine ⟨?_, ?_⟩
        · have h := h.1
          intro e8
          have h := h e8
          intro e9
          have h := h.2
          intro v10 e10
          have h := h v10 e10
          intro e11
          have h := h.2
          intro μ12 e12
          have h := h μ12 e12
          exact hQ _ _ h
        · have h := h.2
          intro e13
          have h := h e13
          exact hQ _ _ h
  · have h := h.2
    intro e14
    have h := h e14
    refine jaX12_fail ?_ _ h
    intro r14 μ13 h
    exact hQ _ _ h
set_option maxRecDepth 100000 in
set_option maxHeartbeats 4000000 in
theorem jfX12_gate {I : km_S → Prop} (W : gw_ I [1, 26]) {Q : Int32 → km_S → Prop} (hQ : ∀ y0 y1, I y1 → Q y0 y1) : ∀ (l1 : Int32) (l2 : Int32) (μ : km_S), I μ → vX12_gate l1 l2 μ Q := by
  intro l1 l2 μ i
  unfold vX12_gate
  intro μ1 e1
  have iμ1 : I μ1 := by rw [e1]; exact ((W _ i) 1 (by decide)).1 _
  refine jfX12_isReach (I := I) (gw_sub W (by decide)) ?_ _ _ iμ1
  intro r3 μ2 iμ2
  refine ⟨?_, ?_⟩
  · intro e2
    intro e3
    refine ⟨?_, ?_⟩
    · intro e4
      exact hQ _ _ iμ2
    · intro e5
      refine ⟨?_, ?_⟩
      · intro e6
        exact hQ _ _ iμ2
      · intro e7
        refine ⟨?_, ?_⟩
        · intro e8
          intro e9
          intro v10 e10
          intro e11
          intro μ12 e12
          have iμ12 : I μ12 := by rw [e12]; exact ((W _ iμ2) 26 (by decide)).2.1 _ _
          exact hQ _ _ iμ12
        · intro e13
          exact hQ _ _ iμ2
  · intro e14
    refine jfX12_fail (I := I) (gw_sub W (by decide)) ?_ _ iμ2
    intro r14 μ13 iμ13
    exact hQ _ _ iμ13
def vX12_melt (l1 : Int32) (l2 : Int32) (μ : km_S) (Q : Int32 → km_S → Prop) : Prop := ∀ μ1, μ1 = km_si μ 1 0 → vX12_isReach l1 μ1 (fun r3 μ2 => ((¬ r3 = 0 → ((l2 < 0 → Q (-1) μ2) ∧ (¬ (l2 < 0) → ((l2 ≤ 500 → vp_in l1 10 → ∀ v8, v8 = km_a μ2 17 l1.toNatClampNeg → vp_in l1 10 → ∀ μ10, μ10 = km_sa μ2 17 l1.toNatClampNeg l2 → Q v8 μ10) ∧ (¬ (l2 ≤ 500) → Q (-1) μ2))))) ∧ (r3 = 0 → vX12_fail μ2 (fun r12 μ11 => Q r12 μ11))))
set_option maxRecDepth 100000 in
set_option maxHeartbeats 4000000 in
theorem jcX12_melt {Q Q' Q'' : Int32 → km_S → Prop} (hQ : ∀ y0 y1, Q y0 y1 → Q' y0 y1 → Q'' y0 y1) : ∀ (l1 : Int32) (l2 : Int32) (μ : km_S), wX12_melt l1 l2 μ Q → vX12_melt l1 l2 μ Q' → wX12_melt l1 l2 μ Q'' := by
  intro l1 l2 μ h v
  unfold wX12_melt at h
  unfold vX12_melt at v
  unfold wX12_melt
  intro μ1 e1
  have h := h μ1 e1
  have v := v μ1 e1
  refine jcX12_isReach ?_ _ _ h v
  intro r3 μ2 h v
  refine ⟨?_, ?_⟩
  · have h := h.1
    have v := v.1
    intro e2
    have h := h e2
    have v := v e2
    refine ⟨?_, ?_⟩
    · have h := h.1
      have v := v.1
      intro e3
      have h := h e3
      have v := v e3
      exact hQ _ _ h v
    · have h := h.2
      have v := v.2
      intro e4
      have h := h e4
      have v := v e4
      refine ⟨?_, ?_⟩
      · have h := h.1
        have v := v.1
        intro e5
        have h := h e5
        have v := v e5
        refine ⟨h.1, ?_⟩
        have v := v h.1
        have h := h.2
        intro v8 e7
        have h := h v8 e7
        have v := v v8 e7
        refine ⟨h.1, ?_⟩
        have v := v h.1
        have h := h.2
        intro μ10 e9
        have h := h μ10 e9
        have v := v μ10 e9
        exact hQ _ _ h v
      · have h := h.2
        have v := v.2
        intro e10
        have h := h e10
        have v := v e10
        exact hQ _ _ h v
  · have h := h.2
    have v := v.2
    intro e11
    have h := h e11
    have v := v e11
    refine jcX12_fail ?_ _ h v
    intro r12 μ11 h v
    exact hQ _ _ h v
set_option maxRecDepth 100000 in
set_option maxHeartbeats 4000000 in
theorem jaX12_melt {Q Q' : Int32 → km_S → Prop} (hQ : ∀ y0 y1, Q y0 y1 → Q' y0 y1) : ∀ (l1 : Int32) (l2 : Int32) (μ : km_S), wX12_melt l1 l2 μ Q → vX12_melt l1 l2 μ Q' := by
  intro l1 l2 μ h
  unfold wX12_melt at h
  unfold vX12_melt
  intro μ1 e1
  have h := h μ1 e1
  refine jaX12_isReach ?_ _ _ h
  intro r3 μ2 h
  refine ⟨?_, ?_⟩
  · have h := h.1
    intro e2
    have h := h e2
    refine ⟨?_, ?_⟩
    · have h := h.1
      intro e3
      have h := h e3
      exact hQ _ _ h
    · have h := h.2
      intro e4
      have h := h e4
      refine ⟨?_, ?_⟩
      · have h := h.1
        intro e5
        have h := h e5
        intro e6
        have h := h.2
        intro v8 e7
        have h := h v8 e7
        intro e8
        have h := h.2
        intro μ10 e9
        have h := h μ10 e9
        exact hQ _ _ h
      · have h := h.2
        intro e10
        have h := h e10
        exact hQ _ _ h
  · have h := h.2
    intro e11
    have h := h e11
    refine jaX12_fail ?_ _ h
    intro r12 μ11 h
    exact hQ _ _ h
set_option maxRecDepth 100000 in
set_option maxHeartbeats 4000000 in
theorem jfX12_melt {I : km_S → Prop} (W : gw_ I [1, 17]) {Q : Int32 → km_S → Prop} (hQ : ∀ y0 y1, I y1 → Q y0 y1) : ∀ (l1 : Int32) (l2 : Int32) (μ : km_S), I μ → vX12_melt l1 l2 μ Q := by
  intro l1 l2 μ i
  unfold vX12_melt
  intro μ1 e1
  have iμ1 : I μ1 := by rw [e1]; exact ((W _ i) 1 (by decide)).1 _
  refine jfX12_isReach (I := I) (gw_sub W (by decide)) ?_ _ _ iμ1
  intro r3 μ2 iμ2
  refine ⟨?_, ?_⟩
  · intro e2
    refine ⟨?_, ?_⟩
    · intro e3
      exact hQ _ _ iμ2
    · intro e4
      refine ⟨?_, ?_⟩
      · intro e5
        intro e6
        intro v8 e7
        intro e8
        intro μ10 e9
        have iμ10 : I μ10 := by rw [e9]; exact ((W _ iμ2) 17 (by decide)).2.1 _ _
        exact hQ _ _ iμ10
      · intro e10
        exact hQ _ _ iμ2
  · intro e11
    refine jfX12_fail (I := I) (gw_sub W (by decide)) ?_ _ iμ2
    intro r12 μ11 iμ11
    exact hQ _ _ iμ11
def vX12_boom (l1 : Int32) (l2 : Int32) (l3 : Int32) (μ : km_S) (Q : Int32 → km_S → Prop) : Prop := ∀ μ1, μ1 = km_si μ 1 0 → vX12_isReach l1 μ1 (fun r3 μ2 => ((¬ r3 = 0 → ((l3 < 1 → Q 0 μ2) ∧ (¬ (l3 < 1) → ((l3 ≤ 100 → vp_in l1 10 → ∀ μ8, μ8 = km_sa μ2 22 l1.toNatClampNeg (vp_nar .boolean 1) → vp_in l1 10 → ∀ μ10, μ10 = km_sa μ8 27 l1.toNatClampNeg (l2 &&& 65535) → vp_in l1 10 → ∀ μ12, μ12 = km_sa μ10 28 l1.toNatClampNeg l3 → Q 1 μ12) ∧ (¬ (l3 ≤ 100) → Q 0 μ2))))) ∧ (r3 = 0 → vX12_fail μ2 (fun r14 μ13 => Q 0 μ13))))
set_option maxRecDepth 100000 in
set_option maxHeartbeats 4000000 in
theorem jcX12_boom {Q Q' Q'' : Int32 → km_S → Prop} (hQ : ∀ y0 y1, Q y0 y1 → Q' y0 y1 → Q'' y0 y1) : ∀ (l1 : Int32) (l2 : Int32) (l3 : Int32) (μ : km_S), wX12_boom l1 l2 l3 μ Q → vX12_boom l1 l2 l3 μ Q' → wX12_boom l1 l2 l3 μ Q'' := by
  intro l1 l2 l3 μ h v
  unfold wX12_boom at h
  unfold vX12_boom at v
  unfold wX12_boom
  intro μ1 e1
  have h := h μ1 e1
  have v := v μ1 e1
  refine jcX12_isReach ?_ _ _ h v
  intro r3 μ2 h v
  refine ⟨?_, ?_⟩
  · have h := h.1
    have v := v.1
    intro e2
    have h := h e2
    have v := v e2
    refine ⟨?_, ?_⟩
    · have h := h.1
      have v := v.1
      intro e3
      have h := h e3
      have v := v e3
      exact hQ _ _ h v
    · have h := h.2
      have v := v.2
      intro e4
      have h := h e4
      have v := v e4
      refine ⟨?_, ?_⟩
      · have h := h.1
        have v := v.1
        intro e5
        have h := h e5
        have v := v e5
        refine ⟨h.1, ?_⟩
        have v := v h.1
        have h := h.2
        intro μ8 e7
        have h := h μ8 e7
        have v := v μ8 e7
        refine ⟨h.1, ?_⟩
        have v := v h.1
        have h := h.2
        intro μ10 e9
        have h := h μ10 e9
        have v := v μ10 e9
        refine ⟨h.1, ?_⟩
        have v := v h.1
        have h := h.2
        intro μ12 e11
        have h := h μ12 e11
        have v := v μ12 e11
        exact hQ _ _ h v
      · have h := h.2
        have v := v.2
        intro e12
        have h := h e12
        have v := v e12
        exact hQ _ _ h v
  · have h := h.2
    have v := v.2
    intro e13
    have h := h e13
    have v := v e13
    refine jcX12_fail ?_ _ h v
    intro r14 μ13 h v
    exact hQ _ _ h v
set_option maxRecDepth 100000 in
set_option maxHeartbeats 4000000 in
theorem jaX12_boom {Q Q' : Int32 → km_S → Prop} (hQ : ∀ y0 y1, Q y0 y1 → Q' y0 y1) : ∀ (l1 : Int32) (l2 : Int32) (l3 : Int32) (μ : km_S), wX12_boom l1 l2 l3 μ Q → vX12_boom l1 l2 l3 μ Q' := by
  intro l1 l2 l3 μ h
  unfold wX12_boom at h
  unfold vX12_boom
  intro μ1 e1
  have h := h μ1 e1
  refine jaX12_isReach ?_ _ _ h
  intro r3 μ2 h
  refine ⟨?_, ?_⟩
  · have h := h.1
    intro e2
    have h := h e2
    refine ⟨?_, ?_⟩
    · have h := h.1
      intro e3
      have h := h e3
      exact hQ _ _ h
    · have h := h.2
      intro e4
      have h := h e4
      refine ⟨?_, ?_⟩
      · have h := h.1
        intro e5
        have h := h e5
        intro e6
        have h := h.2
        intro μ8 e7
        have h := h μ8 e7
        intro e8
        have h := h.2
        intro μ10 e9
        have h := h μ10 e9
        intro e10
        have h := h.2
        intro μ12 e11
        have h := h μ12 e11
        exact hQ _ _ h
      · have h := h.2
        intro e12
        have h := h e12
        exact hQ _ _ h
  · have h := h.2
    intro e13
    have h := h e13
    refine jaX12_fail ?_ _ h
    intro r14 μ13 h
    exact hQ _ _ h
set_option maxRecDepth 100000 in
set_option maxHeartbeats 4000000 in
theorem jfX12_boom {I : km_S → Prop} (W : gw_ I [1, 22, 27, 28]) {Q : Int32 → km_S → Prop} (hQ : ∀ y0 y1, I y1 → Q y0 y1) : ∀ (l1 : Int32) (l2 : Int32) (l3 : Int32) (μ : km_S), I μ → vX12_boom l1 l2 l3 μ Q := by
  intro l1 l2 l3 μ i
  unfold vX12_boom
  intro μ1 e1
  have iμ1 : I μ1 := by rw [e1]; exact ((W _ i) 1 (by decide)).1 _
  refine jfX12_isReach (I := I) (gw_sub W (by decide)) ?_ _ _ iμ1
  intro r3 μ2 iμ2
  refine ⟨?_, ?_⟩
  · intro e2
    refine ⟨?_, ?_⟩
    · intro e3
      exact hQ _ _ iμ2
    · intro e4
      refine ⟨?_, ?_⟩
      · intro e5
        intro e6
        intro μ8 e7
        have iμ8 : I μ8 := by rw [e7]; exact ((W _ iμ2) 22 (by decide)).2.1 _ _
        intro e8
        intro μ10 e9
        have iμ10 : I μ10 := by rw [e9]; exact ((W _ iμ8) 27 (by decide)).2.1 _ _
        intro e10
        intro μ12 e11
        have iμ12 : I μ12 := by rw [e11]; exact ((W _ iμ10) 28 (by decide)).2.1 _ _
        exact hQ _ _ iμ12
      · intro e12
        exact hQ _ _ iμ2
  · intro e13
    refine jfX12_fail (I := I) (gw_sub W (by decide)) ?_ _ iμ2
    intro r14 μ13 iμ13
    exact hQ _ _ iμ13
def vX12_watch (l1 : Int32) (l2 : Int32) (μ : km_S) (Q : Int32 → km_S → Prop) : Prop := ∀ μ1, μ1 = km_si μ 1 0 → vX12_isReach l1 μ1 (fun r3 μ2 => ((¬ r3 = 0 → vp_in l1 10 → ∀ v6, v6 = km_a μ2 23 l1.toNatClampNeg → vp_in l1 10 → ∀ μ8, μ8 = km_sa μ2 23 l1.toNatClampNeg (vp_nar .boolean l2) → narrow .boolean (.int v6) = .int v6 → Q v6 μ8) ∧ (r3 = 0 → vX12_fail μ2 (fun r10 μ9 => Q 0 μ9))))
set_option maxRecDepth 100000 in
set_option maxHeartbeats 4000000 in
theorem jcX12_watch {Q Q' Q'' : Int32 → km_S → Prop} (hQ : ∀ y0 y1, Q y0 y1 → Q' y0 y1 → Q'' y0 y1) : ∀ (l1 : Int32) (l2 : Int32) (μ : km_S), wX12_watch l1 l2 μ Q → vX12_watch l1 l2 μ Q' → wX12_watch l1 l2 μ Q'' := by
  intro l1 l2 μ h v
  unfold wX12_watch at h
  unfold vX12_watch at v
  unfold wX12_watch
  intro μ1 e1
  have h := h μ1 e1
  have v := v μ1 e1
  refine jcX12_isReach ?_ _ _ h v
  intro r3 μ2 h v
  refine ⟨?_, ?_⟩
  · have h := h.1
    have v := v.1
    intro e2
    have h := h e2
    have v := v e2
    refine ⟨h.1, ?_⟩
    have v := v h.1
    have h := h.2
    intro v6 e4
    have h := h v6 e4
    have v := v v6 e4
    refine ⟨h.1, ?_⟩
    have v := v h.1
    have h := h.2
    intro μ8 e6
    have h := h μ8 e6
    have v := v μ8 e6
    refine ⟨h.1, ?_⟩
    have v := v h.1
    have h := h.2
    exact hQ _ _ h v
  · have h := h.2
    have v := v.2
    intro e8
    have h := h e8
    have v := v e8
    refine jcX12_fail ?_ _ h v
    intro r10 μ9 h v
    exact hQ _ _ h v
set_option maxRecDepth 100000 in
set_option maxHeartbeats 4000000 in
theorem jaX12_watch {Q Q' : Int32 → km_S → Prop} (hQ : ∀ y0 y1, Q y0 y1 → Q' y0 y1) : ∀ (l1 : Int32) (l2 : Int32) (μ : km_S), wX12_watch l1 l2 μ Q → vX12_watch l1 l2 μ Q' := by
  intro l1 l2 μ h
  unfold wX12_watch at h
  unfold vX12_watch
  intro μ1 e1
  have h := h μ1 e1
  refine jaX12_isReach ?_ _ _ h
  intro r3 μ2 h
  refine ⟨?_, ?_⟩
  · have h := h.1
    intro e2
    have h := h e2
    intro e3
    have h := h.2
    intro v6 e4
    have h := h v6 e4
    intro e5
    have h := h.2
    intro μ8 e6
    have h := h μ8 e6
    intro e7
    have h := h.2
    exact hQ _ _ h
  · have h := h.2
    intro e8
    have h := h e8
    refine jaX12_fail ?_ _ h
    intro r10 μ9 h
    exact hQ _ _ h
set_option maxRecDepth 100000 in
set_option maxHeartbeats 4000000 in
theorem jfX12_watch {I : km_S → Prop} (W : gw_ I [1, 23]) {Q : Int32 → km_S → Prop} (hQ : ∀ y0 y1, I y1 → Q y0 y1) : ∀ (l1 : Int32) (l2 : Int32) (μ : km_S), I μ → vX12_watch l1 l2 μ Q := by
  intro l1 l2 μ i
  unfold vX12_watch
  intro μ1 e1
  have iμ1 : I μ1 := by rw [e1]; exact ((W _ i) 1 (by decide)).1 _
  refine jfX12_isReach (I := I) (gw_sub W (by decide)) ?_ _ _ iμ1
  intro r3 μ2 iμ2
  refine ⟨?_, ?_⟩
  · intro e2
    intro e3
    intro v6 e4
    intro e5
    intro μ8 e6
    have iμ8 : I μ8 := by rw [e6]; exact ((W _ iμ2) 23 (by decide)).2.1 _ _
    intro e7
    exact hQ _ _ iμ8
  · intro e8
    refine jfX12_fail (I := I) (gw_sub W (by decide)) ?_ _ iμ2
    intro r10 μ9 iμ9
    exact hQ _ _ iμ9
def vX12_crew_104 (Q : Int32 → km_S → Prop) (l2 : Int32) (l3 : Int32) (μ : km_S) : Prop := vp_in l3 6 → ∀ μ2, μ2 = km_sa μ 44 l3.toNatClampNeg l2 → Q l3 μ2
set_option maxRecDepth 100000 in
set_option maxHeartbeats 4000000 in
theorem jcX12_crew_104 {Q Q' Q'' : Int32 → km_S → Prop} (hQ : ∀ y0 y1, Q y0 y1 → Q' y0 y1 → Q'' y0 y1) : ∀ (l2 : Int32) (l3 : Int32) (μ : km_S), wX12_crew_104 Q l2 l3 μ → vX12_crew_104 Q' l2 l3 μ → wX12_crew_104 Q'' l2 l3 μ := by
  intro l2 l3 μ h v
  unfold wX12_crew_104 at h
  unfold vX12_crew_104 at v
  unfold wX12_crew_104
  refine ⟨h.1, ?_⟩
  have v := v h.1
  have h := h.2
  intro μ2 e2
  have h := h μ2 e2
  have v := v μ2 e2
  exact hQ _ _ h v
set_option maxRecDepth 100000 in
set_option maxHeartbeats 4000000 in
theorem jaX12_crew_104 {Q Q' : Int32 → km_S → Prop} (hQ : ∀ y0 y1, Q y0 y1 → Q' y0 y1) : ∀ (l2 : Int32) (l3 : Int32) (μ : km_S), wX12_crew_104 Q l2 l3 μ → vX12_crew_104 Q' l2 l3 μ := by
  intro l2 l3 μ h
  unfold wX12_crew_104 at h
  unfold vX12_crew_104
  intro e1
  have h := h.2
  intro μ2 e2
  have h := h μ2 e2
  exact hQ _ _ h
set_option maxRecDepth 100000 in
set_option maxHeartbeats 4000000 in
theorem jfX12_crew_104 {I : km_S → Prop} (W : gw_ I [44]) {Q : Int32 → km_S → Prop} (hQ : ∀ y0 y1, I y1 → Q y0 y1) : ∀ (l2 : Int32) (l3 : Int32) (μ : km_S), I μ → vX12_crew_104 Q l2 l3 μ := by
  intro l2 l3 μ i
  unfold vX12_crew_104
  intro e1
  intro μ2 e2
  have iμ2 : I μ2 := by rw [e2]; exact ((W _ i) 44 (by decide)).2.1 _ _
  exact hQ _ _ iμ2
def vX12_crew_84 (Q : Int32 → km_S → Prop) (l2 : Int32) (l3 : Int32) (μ : km_S) : Prop := vp_in l3 6 → (((km_a μ 44 l3.toNatClampNeg) = l2 → vX12_crew_104 Q l2 l3 μ) ∧ (¬ ((km_a μ 44 l3.toNatClampNeg) = l2) → vp_in l3 6 → ∀ μ6, μ6 = km_sa μ 45 l3.toNatClampNeg (km_i μ 2) → vX12_crew_104 Q l2 l3 μ6))
set_option maxRecDepth 100000 in
set_option maxHeartbeats 4000000 in
theorem jcX12_crew_84 {Q Q' Q'' : Int32 → km_S → Prop} (hQ : ∀ y0 y1, Q y0 y1 → Q' y0 y1 → Q'' y0 y1) : ∀ (l2 : Int32) (l3 : Int32) (μ : km_S), wX12_crew_84 Q l2 l3 μ → vX12_crew_84 Q' l2 l3 μ → wX12_crew_84 Q'' l2 l3 μ := by
  intro l2 l3 μ h v
  unfold wX12_crew_84 at h
  unfold vX12_crew_84 at v
  unfold wX12_crew_84
  refine ⟨h.1, ?_⟩
  have v := v h.1
  have h := h.2
  refine ⟨?_, ?_⟩
  · have h := h.1
    have v := v.1
    intro e2
    have h := h e2
    have v := v e2
    exact jcX12_crew_104 hQ _ _ _ h v
  · have h := h.2
    have v := v.2
    intro e3
    have h := h e3
    have v := v e3
    refine ⟨h.1, ?_⟩
    have v := v h.1
    have h := h.2
    intro μ6 e5
    have h := h μ6 e5
    have v := v μ6 e5
    exact jcX12_crew_104 hQ _ _ _ h v
set_option maxRecDepth 100000 in
set_option maxHeartbeats 4000000 in
theorem jaX12_crew_84 {Q Q' : Int32 → km_S → Prop} (hQ : ∀ y0 y1, Q y0 y1 → Q' y0 y1) : ∀ (l2 : Int32) (l3 : Int32) (μ : km_S), wX12_crew_84 Q l2 l3 μ → vX12_crew_84 Q' l2 l3 μ := by
  intro l2 l3 μ h
  unfold wX12_crew_84 at h
  unfold vX12_crew_84
  intro e1
  have h := h.2
  refine ⟨?_, ?_⟩
  · have h := h.1
    intro e2
    have h := h e2
    exact jaX12_crew_104 hQ _ _ _ h
  · have h := h.2
    intro e3
    have h := h e3
    intro e4
    have h := h.2
    intro μ6 e5
    have h := h μ6 e5
    exact jaX12_crew_104 hQ _ _ _ h
set_option maxRecDepth 100000 in
set_option maxHeartbeats 4000000 in
theorem jfX12_crew_84 {I : km_S → Prop} (W : gw_ I [44, 45]) {Q : Int32 → km_S → Prop} (hQ : ∀ y0 y1, I y1 → Q y0 y1) : ∀ (l2 : Int32) (l3 : Int32) (μ : km_S), I μ → vX12_crew_84 Q l2 l3 μ := by
  intro l2 l3 μ i
  unfold vX12_crew_84
  intro e1
  refine ⟨?_, ?_⟩
  · intro e2
    exact jfX12_crew_104 (I := I) (gw_sub W (by decide)) hQ _ _ _ i
  · intro e3
    intro e4
    intro μ6 e5
    have iμ6 : I μ6 := by rw [e5]; exact ((W _ i) 45 (by decide)).2.1 _ _
    exact jfX12_crew_104 (I := I) (gw_sub W (by decide)) hQ _ _ _ iμ6
def vX12_crew_47 (Q : Int32 → km_S → Prop) (l1 : Int32) (l2 : Int32) (μ : km_S) : Prop := ((¬ l1 = (-1) → vX12_crew_84 Q l2 l1 μ) ∧ (l1 = (-1) → ∀ v8, v8 = km_i μ 7 → ∀ μ9, μ9 = km_si μ 7 ((km_i μ 7) + 1) → vp_in v8 6 → ∀ μ11, μ11 = km_sa μ9 44 v8.toNatClampNeg (-1) → vp_in v8 6 → ∀ μ13, μ13 = km_sa μ11 46 v8.toNatClampNeg (-5) → vX12_crew_84 Q l2 v8 μ13))
set_option maxRecDepth 100000 in
set_option maxHeartbeats 4000000 in
theorem jcX12_crew_47 {Q Q' Q'' : Int32 → km_S → Prop} (hQ : ∀ y0 y1, Q y0 y1 → Q' y0 y1 → Q'' y0 y1) : ∀ (l1 : Int32) (l2 : Int32) (μ : km_S), wX12_crew_47 Q l1 l2 μ → vX12_crew_47 Q' l1 l2 μ → wX12_crew_47 Q'' l1 l2 μ := by
  intro l1 l2 μ h v
  unfold wX12_crew_47 at h
  unfold vX12_crew_47 at v
  unfold wX12_crew_47
  refine ⟨?_, ?_⟩
  · have h := h.1
    have v := v.1
    intro e1
    have h := h e1
    have v := v e1
    exact jcX12_crew_84 hQ _ _ _ h v
  · have h := h.2
    have v := v.2
    intro e2
    have h := h e2
    have v := v e2
    intro v8 e3
    have h := h v8 e3
    have v := v v8 e3
    intro μ9 e4
    have h := h μ9 e4
    have v := v μ9 e4
    refine ⟨h.1, ?_⟩
    have v := v h.1
    have h := h.2
    intro μ11 e6
    have h := h μ11 e6
    have v := v μ11 e6
    refine ⟨h.1, ?_⟩
    have v := v h.1
    have h := h.2
    intro μ13 e8
    have h := h μ13 e8
    have v := v μ13 e8
    exact jcX12_crew_84 hQ _ _ _ h v
set_option maxRecDepth 100000 in
set_option maxHeartbeats 4000000 in
theorem jaX12_crew_47 {Q Q' : Int32 → km_S → Prop} (hQ : ∀ y0 y1, Q y0 y1 → Q' y0 y1) : ∀ (l1 : Int32) (l2 : Int32) (μ : km_S), wX12_crew_47 Q l1 l2 μ → vX12_crew_47 Q' l1 l2 μ := by
  intro l1 l2 μ h
  unfold wX12_crew_47 at h
  unfold vX12_crew_47
  refine ⟨?_, ?_⟩
  · have h := h.1
    intro e1
    have h := h e1
    exact jaX12_crew_84 hQ _ _ _ h
  · have h := h.2
    intro e2
    have h := h e2
    intro v8 e3
    have h := h v8 e3
    intro μ9 e4
    have h := h μ9 e4
    intro e5
    have h := h.2
    intro μ11 e6
    have h := h μ11 e6
    intro e7
    have h := h.2
    intro μ13 e8
    have h := h μ13 e8
    exact jaX12_crew_84 hQ _ _ _ h
set_option maxRecDepth 100000 in
set_option maxHeartbeats 4000000 in
theorem jfX12_crew_47 {I : km_S → Prop} (W : gw_ I [7, 44, 45, 46]) {Q : Int32 → km_S → Prop} (hQ : ∀ y0 y1, I y1 → Q y0 y1) : ∀ (l1 : Int32) (l2 : Int32) (μ : km_S), I μ → vX12_crew_47 Q l1 l2 μ := by
  intro l1 l2 μ i
  unfold vX12_crew_47
  refine ⟨?_, ?_⟩
  · intro e1
    exact jfX12_crew_84 (I := I) (gw_sub W (by decide)) hQ _ _ _ i
  · intro e2
    intro v8 e3
    intro μ9 e4
    have iμ9 : I μ9 := by rw [e4]; exact ((W _ i) 7 (by decide)).1 _
    intro e5
    intro μ11 e6
    have iμ11 : I μ11 := by rw [e6]; exact ((W _ iμ9) 44 (by decide)).2.1 _ _
    intro e7
    intro μ13 e8
    have iμ13 : I μ13 := by rw [e8]; exact ((W _ iμ11) 46 (by decide)).2.1 _ _
    exact jfX12_crew_84 (I := I) (gw_sub W (by decide)) hQ _ _ _ iμ13
def vX12_crew (l1 : Int32) (l2 : Int32) (μ : km_S) (Q : Int32 → km_S → Prop) : Prop := ∀ μ14, μ14 = km_si μ 1 0 → vX12_isReach l2 μ14 (fun r16 μ15 => ((¬ r16 = 0 → ((l1 < (-1) → Q (-1) μ15) ∧ (¬ (l1 < (-1)) → (((km_i μ15 7) ≤ l1 → Q (-1) μ15) ∧ (¬ ((km_i μ15 7) ≤ l1) → ((¬ l1 = (-1) → vX12_crew_47 Q l1 l2 μ15) ∧ (l1 = (-1) → ((¬ (km_i μ15 7) = 6 → vX12_crew_47 Q l1 l2 μ15) ∧ ((km_i μ15 7) = 6 → Q (-1) μ15))))))))) ∧ (r16 = 0 → vX12_fail μ15 (fun r23 μ22 => Q r23 μ22))))
set_option maxRecDepth 100000 in
set_option maxHeartbeats 4000000 in
theorem jcX12_crew {Q Q' Q'' : Int32 → km_S → Prop} (hQ : ∀ y0 y1, Q y0 y1 → Q' y0 y1 → Q'' y0 y1) : ∀ (l1 : Int32) (l2 : Int32) (μ : km_S), wX12_crew l1 l2 μ Q → vX12_crew l1 l2 μ Q' → wX12_crew l1 l2 μ Q'' := by
  intro l1 l2 μ h v
  unfold wX12_crew at h
  unfold vX12_crew at v
  unfold wX12_crew
  intro μ14 e1
  have h := h μ14 e1
  have v := v μ14 e1
  refine jcX12_isReach ?_ _ _ h v
  intro r16 μ15 h v
  refine ⟨?_, ?_⟩
  · have h := h.1
    have v := v.1
    intro e2
    have h := h e2
    have v := v e2
    refine ⟨?_, ?_⟩
    · have h := h.1
      have v := v.1
      intro e3
      have h := h e3
      have v := v e3
      exact hQ _ _ h v
    · have h := h.2
      have v := v.2
      intro e4
      have h := h e4
      have v := v e4
      refine ⟨?_, ?_⟩
      · have h := h.1
        have v := v.1
        intro e5
        have h := h e5
        have v := v e5
        exact hQ _ _ h v
      · have h := h.2
        have v := v.2
        intro e6
        have h := h e6
        have v := v e6
        refine ⟨?_, ?_⟩
        · have h := h.1
          have v := v.1
          intro e7
          have h := h e7
          have v := v e7
          exact jcX12_crew_47 hQ _ _ _ h v
        · have h := h.2
          have v := v.2
          intro e8
          have h := h e8
          have v := v e8
          refine ⟨?_, ?_⟩
          · have h := h.1
            have v := v.1
            intro e9
            have h := h e9
            have v := v e9
            exact jcX12_crew_47 hQ _ _ _ h v
          · have h := h.2
            have v := v.2
            intro e10
            have h := h e10
            have v := v e10
            exact hQ _ _ h v
  · have h := h.2
    have v := v.2
    intro e11
    have h := h e11
    have v := v e11
    refine jcX12_fail ?_ _ h v
    intro r23 μ22 h v
    exact hQ _ _ h v
set_option maxRecDepth 100000 in
set_option maxHeartbeats 4000000 in
theorem jaX12_crew {Q Q' : Int32 → km_S → Prop} (hQ : ∀ y0 y1, Q y0 y1 → Q' y0 y1) : ∀ (l1 : Int32) (l2 : Int32) (μ : km_S), wX12_crew l1 l2 μ Q → vX12_crew l1 l2 μ Q' := by
  intro l1 l2 μ h
  unfold wX12_crew at h
  unfold vX12_crew
  intro μ14 e1
  have h := h μ14 e1
  refine jaX12_isReach ?_ _ _ h
  intro r16 μ15 h
  refine ⟨?_, ?_⟩
  · have h := h.1
    intro e2
    have h := h e2
    refine ⟨?_, ?_⟩
    · have h := h.1
      intro e3
      have h := h e3
      exact hQ _ _ h
    · have h := h.2
      intro e4
      have h := h e4
      refine ⟨?_, ?_⟩
      · have h := h.1
        intro e5
        have h := h e5
        exact hQ _ _ h
      · have h := h.2
        intro e6
        have h := h e6
        refine ⟨?_, ?_⟩
        · have h := h.1
          intro e7
          have h := h e7
          exact jaX12_crew_47 hQ _ _ _ h
        · have h := h.2
          intro e8
          have h := h e8
          refine ⟨?_, ?_⟩
          · have h := h.1
            intro e9
            have h := h e9
            exact jaX12_crew_47 hQ _ _ _ h
          · have h := h.2
            intro e10
            have h := h e10
            exact hQ _ _ h
  · have h := h.2
    intro e11
    have h := h e11
    refine jaX12_fail ?_ _ h
    intro r23 μ22 h
    exact hQ _ _ h
set_option maxRecDepth 100000 in
set_option maxHeartbeats 4000000 in
theorem jfX12_crew {I : km_S → Prop} (W : gw_ I [1, 7, 44, 45, 46]) {Q : Int32 → km_S → Prop} (hQ : ∀ y0 y1, I y1 → Q y0 y1) : ∀ (l1 : Int32) (l2 : Int32) (μ : km_S), I μ → vX12_crew l1 l2 μ Q := by
  intro l1 l2 μ i
  unfold vX12_crew
  intro μ14 e1
  have iμ14 : I μ14 := by rw [e1]; exact ((W _ i) 1 (by decide)).1 _
  refine jfX12_isReach (I := I) (gw_sub W (by decide)) ?_ _ _ iμ14
  intro r16 μ15 iμ15
  refine ⟨?_, ?_⟩
  · intro e2
    refine ⟨?_, ?_⟩
    · intro e3
      exact hQ _ _ iμ15
    · intro e4
      refine ⟨?_, ?_⟩
      · intro e5
        exact hQ _ _ iμ15
      · intro e6
        refine ⟨?_, ?_⟩
        · intro e7
          exact jfX12_crew_47 (I := I) (gw_sub W (by decide)) hQ _ _ _ iμ15
        · intro e8
          refine ⟨?_, ?_⟩
          · intro e9
            exact jfX12_crew_47 (I := I) (gw_sub W (by decide)) hQ _ _ _ iμ15
          · intro e10
            exact hQ _ _ iμ15
  · intro e11
    refine jfX12_fail (I := I) (gw_sub W (by decide)) ?_ _ iμ15
    intro r23 μ22 iμ22
    exact hQ _ _ iμ22
def vX12_feed_120 (Q : Int32 → km_S → Prop) (μ : km_S) : Prop := Q (km_i μ 9) μ
set_option maxRecDepth 100000 in
set_option maxHeartbeats 4000000 in
theorem jcX12_feed_120 {Q Q' Q'' : Int32 → km_S → Prop} (hQ : ∀ y0 y1, Q y0 y1 → Q' y0 y1 → Q'' y0 y1) : ∀ (μ : km_S), wX12_feed_120 Q μ → vX12_feed_120 Q' μ → wX12_feed_120 Q'' μ := by
  intro μ h v
  unfold wX12_feed_120 at h
  unfold vX12_feed_120 at v
  unfold wX12_feed_120
  exact hQ _ _ h v
set_option maxRecDepth 100000 in
set_option maxHeartbeats 4000000 in
theorem jaX12_feed_120 {Q Q' : Int32 → km_S → Prop} (hQ : ∀ y0 y1, Q y0 y1 → Q' y0 y1) : ∀ (μ : km_S), wX12_feed_120 Q μ → vX12_feed_120 Q' μ := by
  intro μ h
  unfold wX12_feed_120 at h
  unfold vX12_feed_120
  exact hQ _ _ h
set_option maxRecDepth 100000 in
set_option maxHeartbeats 4000000 in
theorem jfX12_feed_120 {I : km_S → Prop} (W : gw_ I []) {Q : Int32 → km_S → Prop} (hQ : ∀ y0 y1, I y1 → Q y0 y1) : ∀ (μ : km_S), I μ → vX12_feed_120 Q μ := by
  intro μ i
  unfold vX12_feed_120
  exact hQ _ _ i
def vX12_feed_76 (k23 : Int32 → Int32 → Int32 → Int32 → Int32 → Int32 → km_S → Prop) (Q : Int32 → km_S → Prop) (l1 : Int32) (l2 : Int32) (l3 : Int32) (l4 : Int32) (l5 : Int32) (l6 : Int32) (s0 : Int32) (μ : km_S) : Prop := vp_in (km_i μ 9) 500 → ∀ μ2, μ2 = km_sa μ 52 (km_i μ 9).toNatClampNeg ((s0 >>> ((24 - (8 * (l6 - l6 / 4 * 4))) &&& 31)) &&& 255) → ∀ μ3, μ3 = km_si μ2 9 ((km_i μ2 9) + 1) → ∀ v4 : Int32, v4 = l6 + 1 → k23 l1 l2 l3 l4 l5 v4 μ3
set_option maxRecDepth 100000 in
set_option maxHeartbeats 4000000 in
theorem jcX12_feed_76 {k23 k23' k23'' : Int32 → Int32 → Int32 → Int32 → Int32 → Int32 → km_S → Prop} (hk23 : ∀ y0 y1 y2 y3 y4 y5 y6, k23 y0 y1 y2 y3 y4 y5 y6 → k23' y0 y1 y2 y3 y4 y5 y6 → k23'' y0 y1 y2 y3 y4 y5 y6) {Q Q' Q'' : Int32 → km_S → Prop} (hQ : ∀ y0 y1, Q y0 y1 → Q' y0 y1 → Q'' y0 y1) : ∀ (l1 : Int32) (l2 : Int32) (l3 : Int32) (l4 : Int32) (l5 : Int32) (l6 : Int32) (s0 : Int32) (μ : km_S), wX12_feed_76 k23 Q l1 l2 l3 l4 l5 l6 s0 μ → vX12_feed_76 k23' Q' l1 l2 l3 l4 l5 l6 s0 μ → wX12_feed_76 k23'' Q'' l1 l2 l3 l4 l5 l6 s0 μ := by
  intro l1 l2 l3 l4 l5 l6 s0 μ h v
  unfold wX12_feed_76 at h
  unfold vX12_feed_76 at v
  unfold wX12_feed_76
  refine ⟨h.1, ?_⟩
  have v := v h.1
  have h := h.2
  intro μ2 e2
  have h := h μ2 e2
  have v := v μ2 e2
  intro μ3 e3
  have h := h μ3 e3
  have v := v μ3 e3
  intro v4 e4
  have h := h v4 e4
  have v := v v4 e4
  exact hk23 _ _ _ _ _ _ _ h v
set_option maxRecDepth 100000 in
set_option maxHeartbeats 4000000 in
theorem jaX12_feed_76 {k23 k23' : Int32 → Int32 → Int32 → Int32 → Int32 → Int32 → km_S → Prop} (hk23 : ∀ y0 y1 y2 y3 y4 y5 y6, k23 y0 y1 y2 y3 y4 y5 y6 → k23' y0 y1 y2 y3 y4 y5 y6) {Q Q' : Int32 → km_S → Prop} (hQ : ∀ y0 y1, Q y0 y1 → Q' y0 y1) : ∀ (l1 : Int32) (l2 : Int32) (l3 : Int32) (l4 : Int32) (l5 : Int32) (l6 : Int32) (s0 : Int32) (μ : km_S), wX12_feed_76 k23 Q l1 l2 l3 l4 l5 l6 s0 μ → vX12_feed_76 k23' Q' l1 l2 l3 l4 l5 l6 s0 μ := by
  intro l1 l2 l3 l4 l5 l6 s0 μ h
  unfold wX12_feed_76 at h
  unfold vX12_feed_76
  intro e1
  have h := h.2
  intro μ2 e2
  have h := h μ2 e2
  intro μ3 e3
  have h := h μ3 e3
  intro v4 e4
  have h := h v4 e4
  exact hk23 _ _ _ _ _ _ _ h
set_option maxRecDepth 100000 in
set_option maxHeartbeats 4000000 in
theorem jfX12_feed_76 {I : km_S → Prop} (W : gw_ I [9, 52]) {k23 : Int32 → Int32 → Int32 → Int32 → Int32 → Int32 → km_S → Prop} (hk23 : ∀ y0 y1 y2 y3 y4 y5 y6, I y6 → k23 y0 y1 y2 y3 y4 y5 y6) {Q : Int32 → km_S → Prop} (hQ : ∀ y0 y1, I y1 → Q y0 y1) : ∀ (l1 : Int32) (l2 : Int32) (l3 : Int32) (l4 : Int32) (l5 : Int32) (l6 : Int32) (s0 : Int32) (μ : km_S), I μ → vX12_feed_76 k23 Q l1 l2 l3 l4 l5 l6 s0 μ := by
  intro l1 l2 l3 l4 l5 l6 s0 μ i
  unfold vX12_feed_76
  intro e1
  intro μ2 e2
  have iμ2 : I μ2 := by rw [e2]; exact ((W _ i) 52 (by decide)).2.1 _ _
  intro μ3 e3
  have iμ3 : I μ3 := by rw [e3]; exact ((W _ iμ2) 9 (by decide)).1 _
  intro v4 e4
  exact hk23 _ _ _ _ _ _ _ iμ3
end
section
def vX12_feed_23 (k120 : km_S → Prop) (Q : Int32 → km_S → Prop) : Nat → Int32 → Int32 → Int32 → Int32 → Int32 → Int32 → km_S → Prop
  | 0, _, _, _, _, _, _, _ => True
  | n + 1, l1, l2, l3, l4, l5, l6, μ => ((20 ≤ l6 → k120 μ) ∧ (¬ (20 ≤ l6) → ((4 ≤ l6 → ((8 ≤ l6 → ((12 ≤ l6 → ((16 ≤ l6 → vX12_feed_76 (vX12_feed_23 k120 Q n) Q l1 l2 l3 l4 l5 l6 l5 μ) ∧ (¬ (16 ≤ l6) → vX12_feed_76 (vX12_feed_23 k120 Q n) Q l1 l2 l3 l4 l5 l6 l4 μ))) ∧ (¬ (12 ≤ l6) → vX12_feed_76 (vX12_feed_23 k120 Q n) Q l1 l2 l3 l4 l5 l6 l3 μ))) ∧ (¬ (8 ≤ l6) → vX12_feed_76 (vX12_feed_23 k120 Q n) Q l1 l2 l3 l4 l5 l6 l2 μ))) ∧ (¬ (4 ≤ l6) → vX12_feed_76 (vX12_feed_23 k120 Q n) Q l1 l2 l3 l4 l5 l6 l1 μ))))
set_option maxRecDepth 100000 in
set_option maxHeartbeats 4000000 in
theorem jcX12_feed_23 {k120 k120' k120'' : km_S → Prop} (hk120 : ∀ y0, k120 y0 → k120' y0 → k120'' y0) {Q Q' Q'' : Int32 → km_S → Prop} (hQ : ∀ y0 y1, Q y0 y1 → Q' y0 y1 → Q'' y0 y1) : ∀ (n : Nat) (l1 : Int32) (l2 : Int32) (l3 : Int32) (l4 : Int32) (l5 : Int32) (l6 : Int32) (μ : km_S), wX12_feed_23 k120 Q n l1 l2 l3 l4 l5 l6 μ → vX12_feed_23 k120' Q' n l1 l2 l3 l4 l5 l6 μ → wX12_feed_23 k120'' Q'' n l1 l2 l3 l4 l5 l6 μ := by
  intro n
  induction n with
  | zero => intro l1 l2 l3 l4 l5 l6 μ h; exact h.elim
  | succ n ih =>
    intro l1 l2 l3 l4 l5 l6 μ h v
    unfold wX12_feed_23 at h
    unfold vX12_feed_23 at v
    unfold wX12_feed_23
    refine ⟨?_, ?_⟩
    · have h := h.1
      have v := v.1
      intro e1
      have h := h e1
      have v := v e1
      exact hk120 _ h v
    · have h := h.2
      have v := v.2
      intro e2
      have h := h e2
      have v := v e2
      refine ⟨?_, ?_⟩
      · have h := h.1
        have v := v.1
        intro e3
        have h := h e3
        have v := v e3
        refine ⟨?_, ?_⟩
        · have h := h.1
          have v := v.1
          intro e4
          have h := h e4
          have v := v e4
          refine ⟨?_, ?_⟩
          · have h := h.1
            have v := v.1
            intro e5
            have h := h e5
            have v := v e5
            refine ⟨?_, ?_⟩
            · have h := h.1
              have v := v.1
              intro e6
              have h := h e6
              have v := v e6
              exact jcX12_feed_76 (k23 := wX12_feed_23 k120 Q n) (k23' := vX12_feed_23 k120' Q' n) (k23'' := wX12_feed_23 k120'' Q'' n) (fun _ _ _ _ _ _ _ h v => ih _ _ _ _ _ _ _ h v) hQ _ _ _ _ _ _ _ _ h v
            · have h := h.2
              have v := v.2
              intro e7
              have h := h e7
              have v := v e7
              exact jcX12_feed_76 (k23 := wX12_feed_23 k120 Q n) (k23' := vX12_feed_23 k120' Q' n) (k23'' := wX12_feed_23 k120'' Q'' n) (fun _ _ _ _ _ _ _ h v => ih _ _ _ _ _ _ _ h v) hQ _ _ _ _ _ _ _ _ h v
          · have h := h.2
            have v := v.2
            intro e8
            have h := h e8
            have v := v e8
            exact jcX12_feed_76 (k23 := wX12_feed_23 k120 Q n) (k23' := vX12_feed_23 k120' Q' n) (k23'' := wX12_feed_23 k120'' Q'' n) (fun _ _ _ _ _ _ _ h v => ih _ _ _ _ _ _ _ h v) hQ _ _ _ _ _ _ _ _ h v
        · have h := h.2
          have v := v.2
          intro e9
          have h := h e9
          have v := v e9
          exact jcX12_feed_76 (k23 := wX12_feed_23 k120 Q n) (k23' := vX12_feed_23 k120' Q' n) (k23'' := wX12_feed_23 k120'' Q'' n) (fun _ _ _ _ _ _ _ h v => ih _ _ _ _ _ _ _ h v) hQ _ _ _ _ _ _ _ _ h v
      · have h := h.2
        have v := v.2
        intro e10
        have h := h e10
        have v := v e10
        exact jcX12_feed_76 (k23 := wX12_feed_23 k120 Q n) (k23' := vX12_feed_23 k120' Q' n) (k23'' := wX12_feed_23 k120'' Q'' n) (fun _ _ _ _ _ _ _ h v => ih _ _ _ _ _ _ _ h v) hQ _ _ _ _ _ _ _ _ h v
set_option maxRecDepth 100000 in
set_option maxHeartbeats 4000000 in
theorem jaX12_feed_23 {k120 k120' : km_S → Prop} (hk120 : ∀ y0, k120 y0 → k120' y0) {Q Q' : Int32 → km_S → Prop} (hQ : ∀ y0 y1, Q y0 y1 → Q' y0 y1) : ∀ (n m : Nat) (l1 : Int32) (l2 : Int32) (l3 : Int32) (l4 : Int32) (l5 : Int32) (l6 : Int32) (μ : km_S), wX12_feed_23 k120 Q n l1 l2 l3 l4 l5 l6 μ → vX12_feed_23 k120' Q' m l1 l2 l3 l4 l5 l6 μ := by
  intro n
  induction n with
  | zero => intro m l1 l2 l3 l4 l5 l6 μ h; exact h.elim
  | succ n ih =>
    intro m l1 l2 l3 l4 l5 l6 μ h
    cases m with
    | zero => exact trivial
    | succ m =>
      unfold wX12_feed_23 at h
      unfold vX12_feed_23
      refine ⟨?_, ?_⟩
      · have h := h.1
        intro e1
        have h := h e1
        exact hk120 _ h
      · have h := h.2
        intro e2
        have h := h e2
        refine ⟨?_, ?_⟩
        · have h := h.1
          intro e3
          have h := h e3
          refine ⟨?_, ?_⟩
          · have h := h.1
            intro e4
            have h := h e4
            refine ⟨?_, ?_⟩
            · have h := h.1
              intro e5
              have h := h e5
              refine ⟨?_, ?_⟩
              · have h := h.1
                intro e6
                have h := h e6
                exact jaX12_feed_76 (k23 := wX12_feed_23 k120 Q n) (k23' := vX12_feed_23 k120' Q' m) (fun _ _ _ _ _ _ _ h => ih m _ _ _ _ _ _ _ h) hQ _ _ _ _ _ _ _ _ h
              · have h := h.2
                intro e7
                have h := h e7
                exact jaX12_feed_76 (k23 := wX12_feed_23 k120 Q n) (k23' := vX12_feed_23 k120' Q' m) (fun _ _ _ _ _ _ _ h => ih m _ _ _ _ _ _ _ h) hQ _ _ _ _ _ _ _ _ h
            · have h := h.2
              intro e8
              have h := h e8
              exact jaX12_feed_76 (k23 := wX12_feed_23 k120 Q n) (k23' := vX12_feed_23 k120' Q' m) (fun _ _ _ _ _ _ _ h => ih m _ _ _ _ _ _ _ h) hQ _ _ _ _ _ _ _ _ h
          · have h := h.2
            intro e9
            have h := h e9
            exact jaX12_feed_76 (k23 := wX12_feed_23 k120 Q n) (k23' := vX12_feed_23 k120' Q' m) (fun _ _ _ _ _ _ _ h => ih m _ _ _ _ _ _ _ h) hQ _ _ _ _ _ _ _ _ h
        · have h := h.2
          intro e10
          have h := h e10
          exact jaX12_feed_76 (k23 := wX12_feed_23 k120 Q n) (k23' := vX12_feed_23 k120' Q' m) (fun _ _ _ _ _ _ _ h => ih m _ _ _ _ _ _ _ h) hQ _ _ _ _ _ _ _ _ h
set_option maxRecDepth 100000 in
set_option maxHeartbeats 4000000 in
theorem jfX12_feed_23 {I : km_S → Prop} (W : gw_ I [9, 52]) {k120 : km_S → Prop} (hk120 : ∀ y0, I y0 → k120 y0) {Q : Int32 → km_S → Prop} (hQ : ∀ y0 y1, I y1 → Q y0 y1) : ∀ (n : Nat) (l1 : Int32) (l2 : Int32) (l3 : Int32) (l4 : Int32) (l5 : Int32) (l6 : Int32) (μ : km_S), I μ → vX12_feed_23 k120 Q n l1 l2 l3 l4 l5 l6 μ := by
  intro n
  induction n with
  | zero => intro l1 l2 l3 l4 l5 l6 μ i; exact trivial
  | succ n ih =>
    intro l1 l2 l3 l4 l5 l6 μ i
    unfold vX12_feed_23
    refine ⟨?_, ?_⟩
    · intro e1
      exact hk120 _ i
    · intro e2
      refine ⟨?_, ?_⟩
      · intro e3
        refine ⟨?_, ?_⟩
        · intro e4
          refine ⟨?_, ?_⟩
          · intro e5
            refine ⟨?_, ?_⟩
            · intro e6
              exact jfX12_feed_76 (I := I) (gw_sub W (by decide)) (k23 := vX12_feed_23 k120 Q n) (fun _ _ _ _ _ _ _ i => ih _ _ _ _ _ _ _ i) hQ _ _ _ _ _ _ _ _ i
            · intro e7
              exact jfX12_feed_76 (I := I) (gw_sub W (by decide)) (k23 := vX12_feed_23 k120 Q n) (fun _ _ _ _ _ _ _ i => ih _ _ _ _ _ _ _ i) hQ _ _ _ _ _ _ _ _ i
          · intro e8
            exact jfX12_feed_76 (I := I) (gw_sub W (by decide)) (k23 := vX12_feed_23 k120 Q n) (fun _ _ _ _ _ _ _ i => ih _ _ _ _ _ _ _ i) hQ _ _ _ _ _ _ _ _ i
        · intro e9
          exact jfX12_feed_76 (I := I) (gw_sub W (by decide)) (k23 := vX12_feed_23 k120 Q n) (fun _ _ _ _ _ _ _ i => ih _ _ _ _ _ _ _ i) hQ _ _ _ _ _ _ _ _ i
      · intro e10
        exact jfX12_feed_76 (I := I) (gw_sub W (by decide)) (k23 := vX12_feed_23 k120 Q n) (fun _ _ _ _ _ _ _ i => ih _ _ _ _ _ _ _ i) hQ _ _ _ _ _ _ _ _ i
def vX12_feed (l1 : Int32) (l2 : Int32) (l3 : Int32) (l4 : Int32) (l5 : Int32) (μ : km_S) (Q : Int32 → km_S → Prop) : Prop := ∀ μ10, μ10 = km_si μ 1 0 → ((((km_i μ10 9) + 20) ≤ 500 → ∀ j, vX12_feed_23 (vX12_feed_120 Q) Q j l1 l2 l3 l4 l5 0 μ10) ∧ (¬ (((km_i μ10 9) + 20) ≤ 500) → Q (-1) μ10))
set_option maxRecDepth 100000 in
set_option maxHeartbeats 4000000 in
theorem jcX12_feed {Q Q' Q'' : Int32 → km_S → Prop} (hQ : ∀ y0 y1, Q y0 y1 → Q' y0 y1 → Q'' y0 y1) : ∀ (l1 : Int32) (l2 : Int32) (l3 : Int32) (l4 : Int32) (l5 : Int32) (μ : km_S), wX12_feed l1 l2 l3 l4 l5 μ Q → vX12_feed l1 l2 l3 l4 l5 μ Q' → wX12_feed l1 l2 l3 l4 l5 μ Q'' := by
  intro l1 l2 l3 l4 l5 μ h v
  unfold wX12_feed at h
  unfold vX12_feed at v
  unfold wX12_feed
  intro μ10 e1
  have h := h μ10 e1
  have v := v μ10 e1
  refine ⟨?_, ?_⟩
  · have h := h.1
    have v := v.1
    intro e2
    have h := h e2
    have v := v e2
    obtain ⟨j, h⟩ := h
    refine ⟨j, ?_⟩
    have v := v j
    exact jcX12_feed_23 (k120 := wX12_feed_120 Q) (k120' := vX12_feed_120 Q') (k120'' := wX12_feed_120 Q'') (fun _ h v => jcX12_feed_120 hQ _ h v) hQ _ _ _ _ _ _ _ _ h v
  · have h := h.2
    have v := v.2
    intro e3
    have h := h e3
    have v := v e3
    exact hQ _ _ h v
set_option maxRecDepth 100000 in
set_option maxHeartbeats 4000000 in
theorem jaX12_feed {Q Q' : Int32 → km_S → Prop} (hQ : ∀ y0 y1, Q y0 y1 → Q' y0 y1) : ∀ (l1 : Int32) (l2 : Int32) (l3 : Int32) (l4 : Int32) (l5 : Int32) (μ : km_S), wX12_feed l1 l2 l3 l4 l5 μ Q → vX12_feed l1 l2 l3 l4 l5 μ Q' := by
  intro l1 l2 l3 l4 l5 μ h
  unfold wX12_feed at h
  unfold vX12_feed
  intro μ10 e1
  have h := h μ10 e1
  refine ⟨?_, ?_⟩
  · have h := h.1
    intro e2
    have h := h e2
    obtain ⟨j, h⟩ := h
    intro j9
    exact jaX12_feed_23 (k120 := wX12_feed_120 Q) (k120' := vX12_feed_120 Q') (fun _ h => jaX12_feed_120 hQ _ h) hQ _ j9 _ _ _ _ _ _ _ h
  · have h := h.2
    intro e3
    have h := h e3
    exact hQ _ _ h
set_option maxRecDepth 100000 in
set_option maxHeartbeats 4000000 in
theorem jfX12_feed {I : km_S → Prop} (W : gw_ I [1, 9, 52]) {Q : Int32 → km_S → Prop} (hQ : ∀ y0 y1, I y1 → Q y0 y1) : ∀ (l1 : Int32) (l2 : Int32) (l3 : Int32) (l4 : Int32) (l5 : Int32) (μ : km_S), I μ → vX12_feed l1 l2 l3 l4 l5 μ Q := by
  intro l1 l2 l3 l4 l5 μ i
  unfold vX12_feed
  intro μ10 e1
  have iμ10 : I μ10 := by rw [e1]; exact ((W _ i) 1 (by decide)).1 _
  refine ⟨?_, ?_⟩
  · intro e2
    intro j
    exact jfX12_feed_23 (I := I) (gw_sub W (by decide)) (k120 := vX12_feed_120 Q) (fun _ i => jfX12_feed_120 (I := I) (gw_sub W (by decide)) hQ _ i) hQ _ _ _ _ _ _ _ _ iμ10
  · intro e3
    exact hQ _ _ iμ10
def vX12_cut (l1 : Int32) (l2 : Int32) (l3 : Int32) (μ : km_S) (Q : Int32 → km_S → Prop) : Prop := ∀ μ1, μ1 = km_si μ 1 0 → (((km_i μ1 4) = 400 → Q (-1) μ1) ∧ (¬ ((km_i μ1 4) = 400) → ((l1 < 0 → Q (-1) μ1) ∧ (¬ (l1 < 0) → ((15 < l1 → Q (-1) μ1) ∧ (¬ (15 < l1) → ((l2 < 1 → Q (-1) μ1) ∧ (¬ (l2 < 1) → ((9 < l2 → Q (-1) μ1) ∧ (¬ (9 < l2) → ((l3 < 0 → Q (-1) μ1) ∧ (¬ (l3 < 0) → ((l3 ≤ 1000000 → vp_in (km_i μ1 4) 400 → ∀ μ10, μ10 = km_sa μ1 35 (km_i μ1 4).toNatClampNeg l1 → vp_in (km_i μ10 4) 400 → ∀ μ12, μ12 = km_sa μ10 36 (km_i μ10 4).toNatClampNeg l2 → vp_in (km_i μ12 4) 400 → ∀ μ14, μ14 = km_sa μ12 37 (km_i μ12 4).toNatClampNeg l3 → vp_in (km_i μ14 4) 400 → ∀ μ16, μ16 = km_sa μ14 38 (km_i μ14 4).toNatClampNeg 0 → vp_in (km_i μ16 4) 400 → ∀ μ18, μ18 = km_sa μ16 39 (km_i μ16 4).toNatClampNeg (-1) → vp_in (km_i μ18 4) 400 → ∀ μ20, μ20 = km_sa μ18 40 (km_i μ18 4).toNatClampNeg (-1) → vp_in (km_i μ20 4) 400 → ∀ μ22, μ22 = km_sa μ20 42 (km_i μ20 4).toNatClampNeg (-1) → ∀ μ23, μ23 = km_si μ22 4 ((km_i μ22 4) + 1) → Q ((km_i μ23 4) - 1) μ23) ∧ (¬ (l3 ≤ 1000000) → Q (-1) μ1))))))))))))))
set_option maxRecDepth 100000 in
set_option maxHeartbeats 4000000 in
theorem jcX12_cut {Q Q' Q'' : Int32 → km_S → Prop} (hQ : ∀ y0 y1, Q y0 y1 → Q' y0 y1 → Q'' y0 y1) : ∀ (l1 : Int32) (l2 : Int32) (l3 : Int32) (μ : km_S), wX12_cut l1 l2 l3 μ Q → vX12_cut l1 l2 l3 μ Q' → wX12_cut l1 l2 l3 μ Q'' := by
  intro l1 l2 l3 μ h v
  unfold wX12_cut at h
  unfold vX12_cut at v
  unfold wX12_cut
  intro μ1 e1
  have h := h μ1 e1
  have v := v μ1 e1
  refine ⟨?_, ?_⟩
  · have h := h.1
    have v := v.1
    intro e2
    have h := h e2
    have v := v e2
    exact hQ _ _ h v
  · have h := h.2
    have v := v.2
    intro e3
    have h := h e3
    have v := v e3
    refine ⟨?_, ?_⟩
    · have h := h.1
      have v := v.1
      intro e4
      have h := h e4
      have v := v e4
      exact hQ _ _ h v
    · have h := h.2
      have v := v.2
      intro e5
      have h := h e5
      have v := v e5
      refine ⟨?_, ?_⟩
      · have h := h.1
        have v := v.1
        intro e6
        have h := h e6
        have v := v e6
        exact hQ _ _ h v
      · have h := h.2
        have v := v.2
        intro e7
        have h := h e7
        have v := v e7
        refine ⟨?_, ?_⟩
        · have h := h.1
          have v := v.1
          intro e8
          have h := h e8
          have v := v e8
          exact hQ _ _ h v
        · have h := h.2
          have v := v.2
          intro e9
          have h := h e9
          have v := v e9
          refine ⟨?_, ?_⟩
          · have h := h.1
            have v := v.1
            intro e10
            have h := h e10
            have v := v e10
            exact hQ _ _ h v
          · have h := h.2
            have v := v.2
            intro e11
            have h := h e11
            have v := v e11
            refine ⟨?_, ?_⟩
            · have h := h.1
              have v := v.1
              intro e12
              have h := h e12
              have v := v e12
              exact hQ _ _ h v
            · have h := h.2
              have v := v.2
              intro e13
              have h := h e13
              have v := v e13
              refine ⟨?_, ?_⟩
              · have h := h.1
                have v := v.1
                intro e14
                have h := h e14
                have v := v e14
                refine ⟨h.1, ?_⟩
                have v := v h.1
                have h := h.2
                intro μ10 e16
                have h := h μ10 e16
                have v := v μ10 e16
                refine ⟨h.1, ?_⟩
                have v := v h.1
                have h := h.2
                intro μ12 e18
                have h := h μ12 e18
                have v := v μ12 e18
                refine ⟨h.1, ?_⟩
                have v := v h.1
                have h := h.2
                intro μ14 e20
                have h := h μ14 e20
                have v := v μ14 e20
                refine ⟨h.1, ?_⟩
                have v := v h.1
                have h := h.2
                intro μ16 e22
                have h := h μ16 e22
                have v := v μ16 e22
                refine ⟨h.1, ?_⟩
                have v := v h.1
                have h := h.2
                intro μ18 e24
                have h := h μ18 e24
                have v := v μ18 e24
                refine ⟨h.1, ?_⟩
                have v := v h.1
                have h := h.2
                intro μ20 e26
                have h := h μ20 e26
                have v := v μ20 e26
                refine ⟨h.1, ?_⟩
                have v := v h.1
                have h := h.2
                intro μ22 e28
                have h := h μ22 e28
                have v := v μ22 e28
                intro μ23 e29
                have h := h μ23 e29
                have v := v μ23 e29
                exact hQ _ _ h v
              · have h := h.2
                have v := v.2
                intro e30
                have h := h e30
                have v := v e30
                exact hQ _ _ h v
set_option maxRecDepth 100000 in
set_option maxHeartbeats 4000000 in
theorem jaX12_cut {Q Q' : Int32 → km_S → Prop} (hQ : ∀ y0 y1, Q y0 y1 → Q' y0 y1) : ∀ (l1 : Int32) (l2 : Int32) (l3 : Int32) (μ : km_S), wX12_cut l1 l2 l3 μ Q → vX12_cut l1 l2 l3 μ Q' := by
  intro l1 l2 l3 μ h
  unfold wX12_cut at h
  unfold vX12_cut
  intro μ1 e1
  have h := h μ1 e1
  refine ⟨?_, ?_⟩
  · have h := h.1
    intro e2
    have h := h e2
    exact hQ _ _ h
  · have h := h.2
    intro e3
    have h := h e3
    refine ⟨?_, ?_⟩
    · have h := h.1
      intro e4
      have h := h e4
      exact hQ _ _ h
    · have h := h.2
      intro e5
      have h := h e5
      refine ⟨?_, ?_⟩
      · have h := h.1
        intro e6
        have h := h e6
        exact hQ _ _ h
      · have h := h.2
        intro e7
        have h := h e7
        refine ⟨?_, ?_⟩
        · have h := h.1
          intro e8
          have h := h e8
          exact hQ _ _ h
        · have h := h.2
          intro e9
          have h := h e9
          refine ⟨?_, ?_⟩
          · have h := h.1
            intro e10
            have h := h e10
            exact hQ _ _ h
          · have h := h.2
            intro e11
            have h := h e11
            refine ⟨?_, ?_⟩
            · have h := h.1
              intro e12
              have h := h e12
              exact hQ _ _ h
            · have h := h.2
              intro e13
              have h := h e13
              refine ⟨?_, ?_⟩
              · have h := h.1
                intro e14
                have h := h e14
                intro e15
                have h := h.2
                intro μ10 e16
                have h := h μ10 e16
                intro e17
                have h := h.2
                intro μ12 e18
                have h := h μ12 e18
                intro e19
                have h := h.2
                intro μ14 e20
                have h := h μ14 e20
                intro e21
                have h := h.2
                intro μ16 e22
                have h := h μ16 e22
                intro e23
                have h := h.2
                intro μ18 e24
                have h := h μ18 e24
                intro e25
                have h := h.2
                intro μ20 e26
                have h := h μ20 e26
                intro e27
                have h := h.2
                intro μ22 e28
                have h := h μ22 e28
                intro μ23 e29
                have h := h μ23 e29
                exact hQ _ _ h
              · have h := h.2
                intro e30
                have h := h e30
                exact hQ _ _ h
set_option maxRecDepth 100000 in
set_option maxHeartbeats 4000000 in
theorem jfX12_cut {I : km_S → Prop} (W : gw_ I [1, 4, 35, 36, 37, 38, 39, 40, 42]) {Q : Int32 → km_S → Prop} (hQ : ∀ y0 y1, I y1 → Q y0 y1) : ∀ (l1 : Int32) (l2 : Int32) (l3 : Int32) (μ : km_S), I μ → vX12_cut l1 l2 l3 μ Q := by
  intro l1 l2 l3 μ i
  unfold vX12_cut
  intro μ1 e1
  have iμ1 : I μ1 := by rw [e1]; exact ((W _ i) 1 (by decide)).1 _
  refine ⟨?_, ?_⟩
  · intro e2
    exact hQ _ _ iμ1
  · intro e3
    refine ⟨?_, ?_⟩
    · intro e4
      exact hQ _ _ iμ1
    · intro e5
      refine ⟨?_, ?_⟩
      · intro e6
        exact hQ _ _ iμ1
      · intro e7
        refine ⟨?_, ?_⟩
        · intro e8
          exact hQ _ _ iμ1
        · intro e9
          refine ⟨?_, ?_⟩
          · intro e10
            exact hQ _ _ iμ1
          · intro e11
            refine ⟨?_, ?_⟩
            · intro e12
              exact hQ _ _ iμ1
            · intro e13
              refine ⟨?_, ?_⟩
              · intro e14
                intro e15
                intro μ10 e16
                have iμ10 : I μ10 := by rw [e16]; exact ((W _ iμ1) 35 (by decide)).2.1 _ _
                intro e17
                intro μ12 e18
                have iμ12 : I μ12 := by rw [e18]; exact ((W _ iμ10) 36 (by decide)).2.1 _ _
                intro e19
                intro μ14 e20
                have iμ14 : I μ14 := by rw [e20]; exact ((W _ iμ12) 37 (by decide)).2.1 _ _
                intro e21
                intro μ16 e22
                have iμ16 : I μ16 := by rw [e22]; exact ((W _ iμ14) 38 (by decide)).2.1 _ _
                intro e23
                intro μ18 e24
                have iμ18 : I μ18 := by rw [e24]; exact ((W _ iμ16) 39 (by decide)).2.1 _ _
                intro e25
                intro μ20 e26
                have iμ20 : I μ20 := by rw [e26]; exact ((W _ iμ18) 40 (by decide)).2.1 _ _
                intro e27
                intro μ22 e28
                have iμ22 : I μ22 := by rw [e28]; exact ((W _ iμ20) 42 (by decide)).2.1 _ _
                intro μ23 e29
                have iμ23 : I μ23 := by rw [e29]; exact ((W _ iμ22) 4 (by decide)).1 _
                exact hQ _ _ iμ23
              · intro e30
                exact hQ _ _ iμ1
def vX12_lay (l1 : Int32) (l2 : Int32) (l3 : Int32) (μ : km_S) (Q : km_S → Prop) : Prop := vX12_at0 l2 l3 μ (fun r2 μ1 => vp_in r2 120 → vp_in ((20 * r2) + (km_a μ1 31 r2.toNatClampNeg)) 2400 → ∀ μ5, μ5 = km_sa μ1 32 ((20 * r2) + (km_a μ1 31 r2.toNatClampNeg)).toNatClampNeg l1 → vp_in r2 120 → vp_in r2 120 → ∀ μ8, μ8 = km_sa μ5 31 r2.toNatClampNeg ((km_a μ5 31 r2.toNatClampNeg) + 1) → vp_in l1 400 → ∀ μ10, μ10 = km_sa μ8 39 l1.toNatClampNeg l2 → vp_in l1 400 → ∀ μ12, μ12 = km_sa μ10 40 l1.toNatClampNeg l3 → Q μ12)
set_option maxRecDepth 100000 in
set_option maxHeartbeats 4000000 in
theorem jcX12_lay {Q Q' Q'' : km_S → Prop} (hQ : ∀ y0, Q y0 → Q' y0 → Q'' y0) : ∀ (l1 : Int32) (l2 : Int32) (l3 : Int32) (μ : km_S), wX12_lay l1 l2 l3 μ Q → vX12_lay l1 l2 l3 μ Q' → wX12_lay l1 l2 l3 μ Q'' := by
  intro l1 l2 l3 μ h v
  unfold wX12_lay at h
  unfold vX12_lay at v
  unfold wX12_lay
  refine jcX12_at0 ?_ _ _ _ h v
  intro r2 μ1 h v
  refine ⟨h.1, ?_⟩
  have v := v h.1
  have h := h.2
  refine ⟨h.1, ?_⟩
  have v := v h.1
  have h := h.2
  intro μ5 e3
  have h := h μ5 e3
  have v := v μ5 e3
  refine ⟨h.1, ?_⟩
  have v := v h.1
  have h := h.2
  refine ⟨h.1, ?_⟩
  have v := v h.1
  have h := h.2
  intro μ8 e6
  have h := h μ8 e6
  have v := v μ8 e6
  refine ⟨h.1, ?_⟩
  have v := v h.1
  have h := h.2
  intro μ10 e8
  have h := h μ10 e8
  have v := v μ10 e8
  refine ⟨h.1, ?_⟩
  have v := v h.1
  have h := h.2
  intro μ12 e10
  have h := h μ12 e10
  have v := v μ12 e10
  exact hQ _ h v
set_option maxRecDepth 100000 in
set_option maxHeartbeats 4000000 in
theorem jaX12_lay {Q Q' : km_S → Prop} (hQ : ∀ y0, Q y0 → Q' y0) : ∀ (l1 : Int32) (l2 : Int32) (l3 : Int32) (μ : km_S), wX12_lay l1 l2 l3 μ Q → vX12_lay l1 l2 l3 μ Q' := by
  intro l1 l2 l3 μ h
  unfold wX12_lay at h
  unfold vX12_lay
  refine jaX12_at0 ?_ _ _ _ h
  intro r2 μ1 h
  intro e1
  have h := h.2
  intro e2
  have h := h.2
  intro μ5 e3
  have h := h μ5 e3
  intro e4
  have h := h.2
  intro e5
  have h := h.2
  intro μ8 e6
  have h := h μ8 e6
  intro e7
  have h := h.2
  intro μ10 e8
  have h := h μ10 e8
  intro e9
  have h := h.2
  intro μ12 e10
  have h := h μ12 e10
  exact hQ _ h
set_option maxRecDepth 100000 in
set_option maxHeartbeats 4000000 in
theorem jfX12_lay {I : km_S → Prop} (W : gw_ I [31, 32, 39, 40]) {Q : km_S → Prop} (hQ : ∀ y0, I y0 → Q y0) : ∀ (l1 : Int32) (l2 : Int32) (l3 : Int32) (μ : km_S), I μ → vX12_lay l1 l2 l3 μ Q := by
  intro l1 l2 l3 μ i
  unfold vX12_lay
  refine jfX12_at0 (I := I) (gw_sub W (by decide)) ?_ _ _ _ i
  intro r2 μ1 iμ1
  intro e1
  intro e2
  intro μ5 e3
  have iμ5 : I μ5 := by rw [e3]; exact ((W _ iμ1) 32 (by decide)).2.1 _ _
  intro e4
  intro e5
  intro μ8 e6
  have iμ8 : I μ8 := by rw [e6]; exact ((W _ iμ5) 31 (by decide)).2.1 _ _
  intro e7
  intro μ10 e8
  have iμ10 : I μ10 := by rw [e8]; exact ((W _ iμ8) 39 (by decide)).2.1 _ _
  intro e9
  intro μ12 e10
  have iμ12 : I μ12 := by rw [e10]; exact ((W _ iμ10) 40 (by decide)).2.1 _ _
  exact hQ _ iμ12
def vX12_lift_71 (k21 : Int32 → Int32 → Int32 → Int32 → km_S → Prop) (Q : km_S → Prop) (l1 : Int32) (l2 : Int32) (l3 : Int32) (l4 : Int32) (μ : km_S) : Prop := ∀ v1 : Int32, v1 = l4 + 1 → k21 l1 l2 l3 v1 μ
set_option maxRecDepth 100000 in
set_option maxHeartbeats 4000000 in
theorem jcX12_lift_71 {k21 k21' k21'' : Int32 → Int32 → Int32 → Int32 → km_S → Prop} (hk21 : ∀ y0 y1 y2 y3 y4, k21 y0 y1 y2 y3 y4 → k21' y0 y1 y2 y3 y4 → k21'' y0 y1 y2 y3 y4) {Q Q' Q'' : km_S → Prop} (hQ : ∀ y0, Q y0 → Q' y0 → Q'' y0) : ∀ (l1 : Int32) (l2 : Int32) (l3 : Int32) (l4 : Int32) (μ : km_S), wX12_lift_71 k21 Q l1 l2 l3 l4 μ → vX12_lift_71 k21' Q' l1 l2 l3 l4 μ → wX12_lift_71 k21'' Q'' l1 l2 l3 l4 μ := by
  intro l1 l2 l3 l4 μ h v
  unfold wX12_lift_71 at h
  unfold vX12_lift_71 at v
  unfold wX12_lift_71
  intro v1 e1
  have h := h v1 e1
  have v := v v1 e1
  exact hk21 _ _ _ _ _ h v
set_option maxRecDepth 100000 in
set_option maxHeartbeats 4000000 in
theorem jaX12_lift_71 {k21 k21' : Int32 → Int32 → Int32 → Int32 → km_S → Prop} (hk21 : ∀ y0 y1 y2 y3 y4, k21 y0 y1 y2 y3 y4 → k21' y0 y1 y2 y3 y4) {Q Q' : km_S → Prop} (hQ : ∀ y0, Q y0 → Q' y0) : ∀ (l1 : Int32) (l2 : Int32) (l3 : Int32) (l4 : Int32) (μ : km_S), wX12_lift_71 k21 Q l1 l2 l3 l4 μ → vX12_lift_71 k21' Q' l1 l2 l3 l4 μ := by
  intro l1 l2 l3 l4 μ h
  unfold wX12_lift_71 at h
  unfold vX12_lift_71
  intro v1 e1
  have h := h v1 e1
  exact hk21 _ _ _ _ _ h
set_option maxRecDepth 100000 in
set_option maxHeartbeats 4000000 in
theorem jfX12_lift_71 {I : km_S → Prop} (W : gw_ I []) {k21 : Int32 → Int32 → Int32 → Int32 → km_S → Prop} (hk21 : ∀ y0 y1 y2 y3 y4, I y4 → k21 y0 y1 y2 y3 y4) {Q : km_S → Prop} (hQ : ∀ y0, I y0 → Q y0) : ∀ (l1 : Int32) (l2 : Int32) (l3 : Int32) (l4 : Int32) (μ : km_S), I μ → vX12_lift_71 k21 Q l1 l2 l3 l4 μ := by
  intro l1 l2 l3 l4 μ i
  unfold vX12_lift_71
  intro v1 e1
  exact hk21 _ _ _ _ _ i
def vX12_lift_77 (Q : km_S → Prop) (l2 : Int32) (l3 : Int32) (μ : km_S) : Prop := vp_in l2 120 → ∀ μ3, μ3 = km_sa μ 31 l2.toNatClampNeg l3 → Q μ3
set_option maxRecDepth 100000 in
set_option maxHeartbeats 4000000 in
theorem jcX12_lift_77 {Q Q' Q'' : km_S → Prop} (hQ : ∀ y0, Q y0 → Q' y0 → Q'' y0) : ∀ (l2 : Int32) (l3 : Int32) (μ : km_S), wX12_lift_77 Q l2 l3 μ → vX12_lift_77 Q' l2 l3 μ → wX12_lift_77 Q'' l2 l3 μ := by
  intro l2 l3 μ h v
  unfold wX12_lift_77 at h
  unfold vX12_lift_77 at v
  unfold wX12_lift_77
  refine ⟨h.1, ?_⟩
  have v := v h.1
  have h := h.2
  intro μ3 e2
  have h := h μ3 e2
  have v := v μ3 e2
  exact hQ _ h v
set_option maxRecDepth 100000 in
set_option maxHeartbeats 4000000 in
theorem jaX12_lift_77 {Q Q' : km_S → Prop} (hQ : ∀ y0, Q y0 → Q' y0) : ∀ (l2 : Int32) (l3 : Int32) (μ : km_S), wX12_lift_77 Q l2 l3 μ → vX12_lift_77 Q' l2 l3 μ := by
  intro l2 l3 μ h
  unfold wX12_lift_77 at h
  unfold vX12_lift_77
  intro e1
  have h := h.2
  intro μ3 e2
  have h := h μ3 e2
  exact hQ _ h
set_option maxRecDepth 100000 in
set_option maxHeartbeats 4000000 in
theorem jfX12_lift_77 {I : km_S → Prop} (W : gw_ I [31]) {Q : km_S → Prop} (hQ : ∀ y0, I y0 → Q y0) : ∀ (l2 : Int32) (l3 : Int32) (μ : km_S), I μ → vX12_lift_77 Q l2 l3 μ := by
  intro l2 l3 μ i
  unfold vX12_lift_77
  intro e1
  intro μ3 e2
  have iμ3 : I μ3 := by rw [e2]; exact ((W _ i) 31 (by decide)).2.1 _ _
  exact hQ _ iμ3
def vX12_lift_21 (k77 : Int32 → Int32 → km_S → Prop) (Q : km_S → Prop) : Nat → Int32 → Int32 → Int32 → Int32 → km_S → Prop
  | 0, _, _, _, _, _ => True
  | n + 1, l1, l2, l3, l4, μ => vp_in l2 120 → (((km_a μ 31 l2.toNatClampNeg) ≤ l4 → k77 l2 l3 μ) ∧ (¬ ((km_a μ 31 l2.toNatClampNeg) ≤ l4) → vp_in ((20 * l2) + l4) 2400 → ∀ v7, v7 = km_a μ 32 ((20 * l2) + l4).toNatClampNeg → ((¬ v7 = l1 → vp_in ((20 * l2) + l3) 2400 → ∀ μ10, μ10 = km_sa μ 32 ((20 * l2) + l3).toNatClampNeg v7 → ∀ v11 : Int32, v11 = l3 + 1 → vX12_lift_71 (vX12_lift_21 k77 Q n) Q l1 l2 v11 l4 μ10) ∧ (v7 = l1 → vX12_lift_71 (vX12_lift_21 k77 Q n) Q l1 l2 l3 l4 μ))))
set_option maxRecDepth 100000 in
set_option maxHeartbeats 4000000 in
theorem jcX12_lift_21 {k77 k77' k77'' : Int32 → Int32 → km_S → Prop} (hk77 : ∀ y0 y1 y2, k77 y0 y1 y2 → k77' y0 y1 y2 → k77'' y0 y1 y2) {Q Q' Q'' : km_S → Prop} (hQ : ∀ y0, Q y0 → Q' y0 → Q'' y0) : ∀ (n : Nat) (l1 : Int32) (l2 : Int32) (l3 : Int32) (l4 : Int32) (μ : km_S), wX12_lift_21 k77 Q n l1 l2 l3 l4 μ → vX12_lift_21 k77' Q' n l1 l2 l3 l4 μ → wX12_lift_21 k77'' Q'' n l1 l2 l3 l4 μ := by
  intro n
  induction n with
  | zero => intro l1 l2 l3 l4 μ h; exact h.elim
  | succ n ih =>
    intro l1 l2 l3 l4 μ h v
    unfold wX12_lift_21 at h
    unfold vX12_lift_21 at v
    unfold wX12_lift_21
    refine ⟨h.1, ?_⟩
    have v := v h.1
    have h := h.2
    refine ⟨?_, ?_⟩
    · have h := h.1
      have v := v.1
      intro e2
      have h := h e2
      have v := v e2
      exact hk77 _ _ _ h v
    · have h := h.2
      have v := v.2
      intro e3
      have h := h e3
      have v := v e3
      refine ⟨h.1, ?_⟩
      have v := v h.1
      have h := h.2
      intro v7 e5
      have h := h v7 e5
      have v := v v7 e5
      refine ⟨?_, ?_⟩
      · have h := h.1
        have v := v.1
        intro e6
        have h := h e6
        have v := v e6
        refine ⟨h.1, ?_⟩
        have v := v h.1
        have h := h.2
        intro μ10 e8
        have h := h μ10 e8
        have v := v μ10 e8
        intro v11 e9
        have h := h v11 e9
        have v := v v11 e9
        exact jcX12_lift_71 (k21 := wX12_lift_21 k77 Q n) (k21' := vX12_lift_21 k77' Q' n) (k21'' := wX12_lift_21 k77'' Q'' n) (fun _ _ _ _ _ h v => ih _ _ _ _ _ h v) hQ _ _ _ _ _ h v
      · have h := h.2
        have v := v.2
        intro e10
        have h := h e10
        have v := v e10
        exact jcX12_lift_71 (k21 := wX12_lift_21 k77 Q n) (k21' := vX12_lift_21 k77' Q' n) (k21'' := wX12_lift_21 k77'' Q'' n) (fun _ _ _ _ _ h v => ih _ _ _ _ _ h v) hQ _ _ _ _ _ h v
set_option maxRecDepth 100000 in
set_option maxHeartbeats 4000000 in
theorem jaX12_lift_21 {k77 k77' : Int32 → Int32 → km_S → Prop} (hk77 : ∀ y0 y1 y2, k77 y0 y1 y2 → k77' y0 y1 y2) {Q Q' : km_S → Prop} (hQ : ∀ y0, Q y0 → Q' y0) : ∀ (n m : Nat) (l1 : Int32) (l2 : Int32) (l3 : Int32) (l4 : Int32) (μ : km_S), wX12_lift_21 k77 Q n l1 l2 l3 l4 μ → vX12_lift_21 k77' Q' m l1 l2 l3 l4 μ := by
  intro n
  induction n with
  | zero => intro m l1 l2 l3 l4 μ h; exact h.elim
  | succ n ih =>
    intro m l1 l2 l3 l4 μ h
    cases m with
    | zero => exact trivial
    | succ m =>
      unfold wX12_lift_21 at h
      unfold vX12_lift_21
      intro e1
      have h := h.2
      refine ⟨?_, ?_⟩
      · have h := h.1
        intro e2
        have h := h e2
        exact hk77 _ _ _ h
      · have h := h.2
        intro e3
        have h := h e3
        intro e4
        have h := h.2
        intro v7 e5
        have h := h v7 e5
        refine ⟨?_, ?_⟩
        · have h := h.1
          intro e6
          have h := h e6
          intro e7
          have h := h.2
          intro μ10 e8
          have h := h μ10 e8
          intro v11 e9
          have h := h v11 e9
          exact jaX12_lift_71 (k21 := wX12_lift_21 k77 Q n) (k21' := vX12_lift_21 k77' Q' m) (fun _ _ _ _ _ h => ih m _ _ _ _ _ h) hQ _ _ _ _ _ h
        · have h := h.2
          intro e10
          have h := h e10
          exact jaX12_lift_71 (k21 := wX12_lift_21 k77 Q n) (k21' := vX12_lift_21 k77' Q' m) (fun _ _ _ _ _ h => ih m _ _ _ _ _ h) hQ _ _ _ _ _ h
set_option maxRecDepth 100000 in
set_option maxHeartbeats 4000000 in
theorem jfX12_lift_21 {I : km_S → Prop} (W : gw_ I [32]) {k77 : Int32 → Int32 → km_S → Prop} (hk77 : ∀ y0 y1 y2, I y2 → k77 y0 y1 y2) {Q : km_S → Prop} (hQ : ∀ y0, I y0 → Q y0) : ∀ (n : Nat) (l1 : Int32) (l2 : Int32) (l3 : Int32) (l4 : Int32) (μ : km_S), I μ → vX12_lift_21 k77 Q n l1 l2 l3 l4 μ := by
  intro n
  induction n with
  | zero => intro l1 l2 l3 l4 μ i; exact trivial
  | succ n ih =>
    intro l1 l2 l3 l4 μ i
    unfold vX12_lift_21
    intro e1
    refine ⟨?_, ?_⟩
    · intro e2
      exact hk77 _ _ _ i
    · intro e3
      intro e4
      intro v7 e5
      refine ⟨?_, ?_⟩
      · intro e6
        intro e7
        intro μ10 e8
        have iμ10 : I μ10 := by rw [e8]; exact ((W _ i) 32 (by decide)).2.1 _ _
        intro v11 e9
        exact jfX12_lift_71 (I := I) (gw_sub W (by decide)) (k21 := vX12_lift_21 k77 Q n) (fun _ _ _ _ _ i => ih _ _ _ _ _ i) hQ _ _ _ _ _ iμ10
      · intro e10
        exact jfX12_lift_71 (I := I) (gw_sub W (by decide)) (k21 := vX12_lift_21 k77 Q n) (fun _ _ _ _ _ i => ih _ _ _ _ _ i) hQ _ _ _ _ _ i
def vX12_lift (l1 : Int32) (μ : km_S) (Q : km_S → Prop) : Prop := vp_in l1 400 → vp_in l1 400 → vX12_at0 (km_a μ 39 l1.toNatClampNeg) (km_a μ 40 l1.toNatClampNeg) μ (fun r15 μ14 => ∀ j, vX12_lift_21 (vX12_lift_77 Q) Q j l1 r15 0 0 μ14)
set_option maxRecDepth 100000 in
set_option maxHeartbeats 4000000 in
theorem jcX12_lift {Q Q' Q'' : km_S → Prop} (hQ : ∀ y0, Q y0 → Q' y0 → Q'' y0) : ∀ (l1 : Int32) (μ : km_S), wX12_lift l1 μ Q → vX12_lift l1 μ Q' → wX12_lift l1 μ Q'' := by
  intro l1 μ h v
  unfold wX12_lift at h
  unfold vX12_lift at v
  unfold wX12_lift
  refine ⟨h.1, ?_⟩
  have v := v h.1
  have h := h.2
  refine ⟨h.1, ?_⟩
  have v := v h.1
  have h := h.2
  refine jcX12_at0 ?_ _ _ _ h v
  intro r15 μ14 h v
  obtain ⟨j, h⟩ := h
  refine ⟨j, ?_⟩
  have v := v j
  exact jcX12_lift_21 (k77 := wX12_lift_77 Q) (k77' := vX12_lift_77 Q') (k77'' := wX12_lift_77 Q'') (fun _ _ _ h v => jcX12_lift_77 hQ _ _ _ h v) hQ _ _ _ _ _ _ h v
set_option maxRecDepth 100000 in
set_option maxHeartbeats 4000000 in
theorem jaX12_lift {Q Q' : km_S → Prop} (hQ : ∀ y0, Q y0 → Q' y0) : ∀ (l1 : Int32) (μ : km_S), wX12_lift l1 μ Q → vX12_lift l1 μ Q' := by
  intro l1 μ h
  unfold wX12_lift at h
  unfold vX12_lift
  intro e1
  have h := h.2
  intro e2
  have h := h.2
  refine jaX12_at0 ?_ _ _ _ h
  intro r15 μ14 h
  obtain ⟨j, h⟩ := h
  intro j9
  exact jaX12_lift_21 (k77 := wX12_lift_77 Q) (k77' := vX12_lift_77 Q') (fun _ _ _ h => jaX12_lift_77 hQ _ _ _ h) hQ _ j9 _ _ _ _ _ h
set_option maxRecDepth 100000 in
set_option maxHeartbeats 4000000 in
theorem jfX12_lift {I : km_S → Prop} (W : gw_ I [31, 32]) {Q : km_S → Prop} (hQ : ∀ y0, I y0 → Q y0) : ∀ (l1 : Int32) (μ : km_S), I μ → vX12_lift l1 μ Q := by
  intro l1 μ i
  unfold vX12_lift
  intro e1
  intro e2
  refine jfX12_at0 (I := I) (gw_sub W (by decide)) ?_ _ _ _ i
  intro r15 μ14 iμ14
  intro j
  exact jfX12_lift_21 (I := I) (gw_sub W (by decide)) (k77 := vX12_lift_77 Q) (fun _ _ _ i => jfX12_lift_77 (I := I) (gw_sub W (by decide)) hQ _ _ _ i) hQ _ _ _ _ _ _ iμ14
def vX12_order (l1 : Int32) (l2 : Int32) (l3 : Int32) (l4 : Int32) (μ : km_S) (Q : Int32 → km_S → Prop) : Prop := ∀ μ1, μ1 = km_si μ 1 0 → vX12_isReach l1 μ1 (fun r3 μ2 => ((¬ r3 = 0 → vp_in l1 10 → (((km_a μ2 22 l1.toNatClampNeg) = 0 → Q (-1) μ2) ∧ (¬ ((km_a μ2 22 l1.toNatClampNeg) = 0) → ((l2 < 0 → Q (-1) μ2) ∧ (¬ (l2 < 0) → ((15 < l2 → Q (-1) μ2) ∧ (¬ (15 < l2) → ((l3 < 1 → Q (-1) μ2) ∧ (¬ (l3 < 1) → ((9 < l3 → Q (-1) μ2) ∧ (¬ (9 < l3) → ((l4 < 1 → Q (-1) μ2) ∧ (¬ (l4 < 1) → ((100 < l4 → Q (-1) μ2) ∧ (¬ (100 < l4) → ((¬ (km_i μ2 8) = 60 → vp_in (km_i μ2 8) 60 → ∀ μ15, μ15 = km_sa μ2 47 (km_i μ2 8).toNatClampNeg l1 → vp_in (km_i μ15 8) 60 → ∀ μ17, μ17 = km_sa μ15 48 (km_i μ15 8).toNatClampNeg l2 → vp_in (km_i μ17 8) 60 → ∀ μ19, μ19 = km_sa μ17 49 (km_i μ17 8).toNatClampNeg l3 → vp_in (km_i μ19 8) 60 → ∀ μ21, μ21 = km_sa μ19 50 (km_i μ19 8).toNatClampNeg l4 → ∀ μ22, μ22 = km_si μ21 8 ((km_i μ21 8) + 1) → Q ((km_i μ22 8) - 1) μ22) ∧ ((km_i μ2 8) = 60 → Q (-1) μ2))))))))))))))))) ∧ (r3 = 0 → vX12_fail μ2 (fun r24 μ23 => Q r24 μ23))))
set_option maxRecDepth 100000 in
set_option maxHeartbeats 4000000 in
theorem jcX12_order {Q Q' Q'' : Int32 → km_S → Prop} (hQ : ∀ y0 y1, Q y0 y1 → Q' y0 y1 → Q'' y0 y1) : ∀ (l1 : Int32) (l2 : Int32) (l3 : Int32) (l4 : Int32) (μ : km_S), wX12_order l1 l2 l3 l4 μ Q → vX12_order l1 l2 l3 l4 μ Q' → wX12_order l1 l2 l3 l4 μ Q'' := by
  intro l1 l2 l3 l4 μ h v
  unfold wX12_order at h
  unfold vX12_order at v
  unfold wX12_order
  intro μ1 e1
  have h := h μ1 e1
  have v := v μ1 e1
  refine jcX12_isReach ?_ _ _ h v
  intro r3 μ2 h v
  refine ⟨?_, ?_⟩
  · have h := h.1
    have v := v.1
    intro e2
    have h := h e2
    have v := v e2
    refine ⟨h.1, ?_⟩
    have v := v h.1
    have h := h.2
    refine ⟨?_, ?_⟩
    · have h := h.1
      have v := v.1
      intro e4
      have h := h e4
      have v := v e4
      exact hQ _ _ h v
    · have h := h.2
      have v := v.2
      intro e5
      have h := h e5
      have v := v e5
      refine ⟨?_, ?_⟩
      · have h := h.1
        have v := v.1
        intro e6
        have h := h e6
        have v := v e6
        exact hQ _ _ h v
      · have h := h.2
        have v := v.2
        intro e7
        have h := h e7
        have v := v e7
        refine ⟨?_, ?_⟩
        · have h := h.1
          have v := v.1
          intro e8
          have h := h e8
          have v := v e8
          exact hQ _ _ h v
        · have h := h.2
          have v := v.2
          intro e9
          have h := h e9
          have v := v e9
          refine ⟨?_, ?_⟩
          · have h := h.1
            have v := v.1
            intro e10
            have h := h e10
            have v := v e10
            exact hQ _ _ h v
          · have h := h.2
            have v := v.2
            intro e11
            have h := h e11
            have v := v e11
            refine ⟨?_, ?_⟩
            · have h := h.1
              have v := v.1
              intro e12
              have h := h e12
              have v := v e12
              exact hQ _ _ h v
            · have h := h.2
              have v := v.2
              intro e13
              have h := h e13
              have v := v e13
              refine ⟨?_, ?_⟩
              · have h := h.1
                have v := v.1
                intro e14
                have h := h e14
                have v := v e14
                exact hQ _ _ h v
              · have h := h.2
                have v := v.2
                intro e15
                have h := h e15
                have v := v e15
                refine ⟨?_, ?_⟩
                · have h := h.1
                  have v := v.1
                  intro e16
                  have h := h e16
                  have v := v e16
                  exact hQ _ _ h v
                · have h := h.2
                  have v := v.2
                  intro e17
                  have h := h e17
                  have v := v e17
                  refine ⟨?_, ?_⟩
                  · have h := h.1
                    have v := v.1
                    intro e18
                    have h := h e18
                    have v := v e18
                    refine ⟨h.1, ?_⟩
                    have v := v h.1
                    have h := h.2
                    intro μ15 e20
                    have h := h μ15 e20
                    have v := v μ15 e20
                    refine ⟨h.1, ?_⟩
                    have v := v h.1
                    have h := h.2
                    intro μ17 e22
                    have h := h μ17 e22
                    have v := v μ17 e22
                    refine ⟨h.1, ?_⟩
                    have v := v h.1
                    have h := h.2
                    intro μ19 e24
                    have h := h μ19 e24
                    have v := v μ19 e24
                    refine ⟨h.1, ?_⟩
                    have v := v h.1
                    have h := h.2
                    intro μ21 e26
                    have h := h μ21 e26
                    have v := v μ21 e26
                    intro μ22 e27
                    have h := h μ22 e27
                    have v := v μ22 e27
                    exact hQ _ _ h v
                  · have h := h.2
                    have v := v.2
                    intro e28
                    have h := h e28
                    have v := v e28
                    exact hQ _ _ h v
  · have h := h.2
    have v := v.2
    intro e29
    have h := h e29
    have v := v e29
    refine jcX12_fail ?_ _ h v
    intro r24 μ23 h v
    exact hQ _ _ h v
set_option maxRecDepth 100000 in
set_option maxHeartbeats 4000000 in
theorem jaX12_order {Q Q' : Int32 → km_S → Prop} (hQ : ∀ y0 y1, Q y0 y1 → Q' y0 y1) : ∀ (l1 : Int32) (l2 : Int32) (l3 : Int32) (l4 : Int32) (μ : km_S), wX12_order l1 l2 l3 l4 μ Q → vX12_order l1 l2 l3 l4 μ Q' := by
  intro l1 l2 l3 l4 μ h
  unfold wX12_order at h
  unfold vX12_order
  intro μ1 e1
  have h := h μ1 e1
  refine jaX12_isReach ?_ _ _ h
  intro r3 μ2 h
  refine ⟨?_, ?_⟩
  · have h := h.1
    intro e2
    have h := h e2
    intro e3
    have h := h.2
    refine ⟨?_, ?_⟩
    · have h := h.1
      intro e4
      have h := h e4
      exact hQ _ _ h
    · have h := h.2
      intro e5
      have h := h e5
      refine ⟨?_, ?_⟩
      · have h := h.1
        intro e6
        have h := h e6
        exact hQ _ _ h
      · have h := h.2
        intro e7
        have h := h e7
        refine ⟨?_, ?_⟩
        · have h := h.1
          intro e8
          have h := h e8
          exact hQ _ _ h
        · have h := h.2
          intro e9
          have h := h e9
          refine ⟨?_, ?_⟩
          · have h := h.1
            intro e10
            have h := h e10
            exact hQ _ _ h
          · have h := h.2
            intro e11
            have h := h e11
            refine ⟨?_, ?_⟩
            · have h := h.1
              intro e12
              have h := h e12
              exact hQ _ _ h
            · have h := h.2
              intro e13
              have h := h e13
              refine ⟨?_, ?_⟩
              · have h := h.1
                intro e14
                have h := h e14
                exact hQ _ _ h
              · have h := h.2
                intro e15
                have h := h e15
                refine ⟨?_, ?_⟩
                · have h := h.1
                  intro e16
                  have h := h e16
                  exact hQ _ _ h
                · have h := h.2
                  intro e17
                  have h := h e17
                  refine ⟨?_, ?_⟩
                  · have h := h.1
                    intro e18
                    have h := h e18
                    intro e19
                    have h := h.2
                    intro μ15 e20
                    have h := h μ15 e20
                    intro e21
                    have h := h.2
                    intro μ17 e22
                    have h := h μ17 e22
                    intro e23
                    have h := h.2
                    intro μ19 e24
                    have h := h μ19 e24
                    intro e25
                    have h := h.2
                    intro μ21 e26
                    have h := h μ21 e26
                    intro μ22 e27
                    have h := h μ22 e27
                    exact hQ _ _ h
                  · have h := h.2
                    intro e28
                    have h := h e28
                    exact hQ _ _ h
  · have h := h.2
    intro e29
    have h := h e29
    refine jaX12_fail ?_ _ h
    intro r24 μ23 h
    exact hQ _ _ h
set_option maxRecDepth 100000 in
set_option maxHeartbeats 4000000 in
theorem jfX12_order {I : km_S → Prop} (W : gw_ I [1, 8, 47, 48, 49, 50]) {Q : Int32 → km_S → Prop} (hQ : ∀ y0 y1, I y1 → Q y0 y1) : ∀ (l1 : Int32) (l2 : Int32) (l3 : Int32) (l4 : Int32) (μ : km_S), I μ → vX12_order l1 l2 l3 l4 μ Q := by
  intro l1 l2 l3 l4 μ i
  unfold vX12_order
  intro μ1 e1
  have iμ1 : I μ1 := by rw [e1]; exact ((W _ i) 1 (by decide)).1 _
  refine jfX12_isReach (I := I) (gw_sub W (by decide)) ?_ _ _ iμ1
  intro r3 μ2 iμ2
  refine ⟨?_, ?_⟩
  · intro e2
    intro e3
    refine ⟨?_, ?_⟩
    · intro e4
      exact hQ _ _ iμ2
    · intro e5
      refine ⟨?_, ?_⟩
      · intro e6
        exact hQ _ _ iμ2
      · intro e7
        refine ⟨?_, ?_⟩
        · intro e8
          exact hQ _ _ iμ2
        · intro e9
          refine ⟨?_, ?_⟩
          · intro e10
            exact hQ _ _ iμ2
          · intro e11
            refine ⟨?_, ?_⟩
            · intro e12
              exact hQ _ _ iμ2
            · intro e13
              refine ⟨?_, ?_⟩
              · intro e14
                exact hQ _ _ iμ2
              · intro e15
                refine ⟨?_, ?_⟩
                · intro e16
                  exact hQ _ _ iμ2
                · intro e17
                  refine ⟨?_, ?_⟩
                  · intro e18
                    intro e19
                    intro μ15 e20
                    have iμ15 : I μ15 := by rw [e20]; exact ((W _ iμ2) 47 (by decide)).2.1 _ _
                    intro e21
                    intro μ17 e22
                    have iμ17 : I μ17 := by rw [e22]; exact ((W _ iμ15) 48 (by decide)).2.1 _ _
                    intro e23
                    intro μ19 e24
                    have iμ19 : I μ19 := by rw [e24]; exact ((W _ iμ17) 49 (by decide)).2.1 _ _
                    intro e25
                    intro μ21 e26
                    have iμ21 : I μ21 := by rw [e26]; exact ((W _ iμ19) 50 (by decide)).2.1 _ _
                    intro μ22 e27
                    have iμ22 : I μ22 := by rw [e27]; exact ((W _ iμ21) 8 (by decide)).1 _
                    exact hQ _ _ iμ22
                  · intro e28
                    exact hQ _ _ iμ2
  · intro e29
    refine jfX12_fail (I := I) (gw_sub W (by decide)) ?_ _ iμ2
    intro r24 μ23 iμ23
    exact hQ _ _ iμ23
def vX12_wants_17 (Q : Int32 → km_S → Prop) (μ : km_S) : Prop := vX12_fail μ (fun r2 μ1 => Q r2 μ1)
set_option maxRecDepth 100000 in
set_option maxHeartbeats 4000000 in
theorem jcX12_wants_17 {Q Q' Q'' : Int32 → km_S → Prop} (hQ : ∀ y0 y1, Q y0 y1 → Q' y0 y1 → Q'' y0 y1) : ∀ (μ : km_S), wX12_wants_17 Q μ → vX12_wants_17 Q' μ → wX12_wants_17 Q'' μ := by
  intro μ h v
  unfold wX12_wants_17 at h
  unfold vX12_wants_17 at v
  unfold wX12_wants_17
  refine jcX12_fail ?_ _ h v
  intro r2 μ1 h v
  exact hQ _ _ h v
set_option maxRecDepth 100000 in
set_option maxHeartbeats 4000000 in
theorem jaX12_wants_17 {Q Q' : Int32 → km_S → Prop} (hQ : ∀ y0 y1, Q y0 y1 → Q' y0 y1) : ∀ (μ : km_S), wX12_wants_17 Q μ → vX12_wants_17 Q' μ := by
  intro μ h
  unfold wX12_wants_17 at h
  unfold vX12_wants_17
  refine jaX12_fail ?_ _ h
  intro r2 μ1 h
  exact hQ _ _ h
set_option maxRecDepth 100000 in
set_option maxHeartbeats 4000000 in
theorem jfX12_wants_17 {I : km_S → Prop} (W : gw_ I [1]) {Q : Int32 → km_S → Prop} (hQ : ∀ y0 y1, I y1 → Q y0 y1) : ∀ (μ : km_S), I μ → vX12_wants_17 Q μ := by
  intro μ i
  unfold vX12_wants_17
  refine jfX12_fail (I := I) (gw_sub W (by decide)) ?_ _ i
  intro r2 μ1 iμ1
  exact hQ _ _ iμ1
def vX12_wants (l1 : Int32) (μ : km_S) (Q : Int32 → km_S → Prop) : Prop := ∀ μ3, μ3 = km_si μ 1 0 → ((l1 < 0 → vX12_wants_17 Q μ3) ∧ (¬ (l1 < 0) → ((l1 < (km_i μ3 8) → vp_in l1 60 → Q (km_a μ3 50 l1.toNatClampNeg) μ3) ∧ (¬ (l1 < (km_i μ3 8)) → vX12_wants_17 Q μ3))))
set_option maxRecDepth 100000 in
set_option maxHeartbeats 4000000 in
theorem jcX12_wants {Q Q' Q'' : Int32 → km_S → Prop} (hQ : ∀ y0 y1, Q y0 y1 → Q' y0 y1 → Q'' y0 y1) : ∀ (l1 : Int32) (μ : km_S), wX12_wants l1 μ Q → vX12_wants l1 μ Q' → wX12_wants l1 μ Q'' := by
  intro l1 μ h v
  unfold wX12_wants at h
  unfold vX12_wants at v
  unfold wX12_wants
  intro μ3 e1
  have h := h μ3 e1
  have v := v μ3 e1
  refine ⟨?_, ?_⟩
  · have h := h.1
    have v := v.1
    intro e2
    have h := h e2
    have v := v e2
    exact jcX12_wants_17 hQ _ h v
  · have h := h.2
    have v := v.2
    intro e3
    have h := h e3
    have v := v e3
    refine ⟨?_, ?_⟩
    · have h := h.1
      have v := v.1
      intro e4
      have h := h e4
      have v := v e4
      refine ⟨h.1, ?_⟩
      have v := v h.1
      have h := h.2
      exact hQ _ _ h v
    · have h := h.2
      have v := v.2
      intro e6
      have h := h e6
      have v := v e6
      exact jcX12_wants_17 hQ _ h v
set_option maxRecDepth 100000 in
set_option maxHeartbeats 4000000 in
theorem jaX12_wants {Q Q' : Int32 → km_S → Prop} (hQ : ∀ y0 y1, Q y0 y1 → Q' y0 y1) : ∀ (l1 : Int32) (μ : km_S), wX12_wants l1 μ Q → vX12_wants l1 μ Q' := by
  intro l1 μ h
  unfold wX12_wants at h
  unfold vX12_wants
  intro μ3 e1
  have h := h μ3 e1
  refine ⟨?_, ?_⟩
  · have h := h.1
    intro e2
    have h := h e2
    exact jaX12_wants_17 hQ _ h
  · have h := h.2
    intro e3
    have h := h e3
    refine ⟨?_, ?_⟩
    · have h := h.1
      intro e4
      have h := h e4
      intro e5
      have h := h.2
      exact hQ _ _ h
    · have h := h.2
      intro e6
      have h := h e6
      exact jaX12_wants_17 hQ _ h
set_option maxRecDepth 100000 in
set_option maxHeartbeats 4000000 in
theorem jfX12_wants {I : km_S → Prop} (W : gw_ I [1]) {Q : Int32 → km_S → Prop} (hQ : ∀ y0 y1, I y1 → Q y0 y1) : ∀ (l1 : Int32) (μ : km_S), I μ → vX12_wants l1 μ Q := by
  intro l1 μ i
  unfold vX12_wants
  intro μ3 e1
  have iμ3 : I μ3 := by rw [e1]; exact ((W _ i) 1 (by decide)).1 _
  refine ⟨?_, ?_⟩
  · intro e2
    exact jfX12_wants_17 (I := I) (gw_sub W (by decide)) hQ _ iμ3
  · intro e3
    refine ⟨?_, ?_⟩
    · intro e4
      intro e5
      exact hQ _ _ iμ3
    · intro e6
      exact jfX12_wants_17 (I := I) (gw_sub W (by decide)) hQ _ iμ3
def vX12_log (l1 : Int32) (l2 : Int32) (μ : km_S) (Q : Int32 → km_S → Prop) : Prop := ∀ μ1, μ1 = km_si μ 1 0 → vX12_isLog l1 μ1 (fun r3 μ2 => ((¬ r3 = 0 → ∀ v5, v5 = l2 → ((v5 = 0 → vp_in l1 400 → Q (km_a μ2 35 l1.toNatClampNeg) μ2) ∧ ((v5 = 1 → vp_in l1 400 → Q (km_a μ2 36 l1.toNatClampNeg) μ2) ∧ ((v5 = 2 → vp_in l1 400 → Q (km_a μ2 37 l1.toNatClampNeg) μ2) ∧ ((v5 = 3 → vp_in l1 400 → Q (km_a μ2 38 l1.toNatClampNeg) μ2) ∧ ((v5 = 4 → vp_in l1 400 → Q (km_a μ2 39 l1.toNatClampNeg) μ2) ∧ ((v5 = 5 → vp_in l1 400 → Q (km_a μ2 40 l1.toNatClampNeg) μ2) ∧ ((v5 = 6 → vp_in l1 400 → Q (km_a μ2 41 l1.toNatClampNeg) μ2) ∧ ((v5 = 7 → vp_in l1 400 → Q (km_a μ2 42 l1.toNatClampNeg) μ2) ∧ (¬ v5 = 0 → ¬ v5 = 1 → ¬ v5 = 2 → ¬ v5 = 3 → ¬ v5 = 4 → ¬ v5 = 5 → ¬ v5 = 6 → ¬ v5 = 7 → vX12_fail μ2 (fun r23 μ22 => Q r23 μ22))))))))))) ∧ (r3 = 0 → vX12_fail μ2 (fun r25 μ24 => Q r25 μ24))))
set_option maxRecDepth 100000 in
set_option maxHeartbeats 4000000 in
theorem jcX12_log {Q Q' Q'' : Int32 → km_S → Prop} (hQ : ∀ y0 y1, Q y0 y1 → Q' y0 y1 → Q'' y0 y1) : ∀ (l1 : Int32) (l2 : Int32) (μ : km_S), wX12_log l1 l2 μ Q → vX12_log l1 l2 μ Q' → wX12_log l1 l2 μ Q'' := by
  intro l1 l2 μ h v
  unfold wX12_log at h
  unfold vX12_log at v
  unfold wX12_log
  intro μ1 e1
  have h := h μ1 e1
  have v := v μ1 e1
  refine jcX12_isLog ?_ _ _ h v
  intro r3 μ2 h v
  refine ⟨?_, ?_⟩
  · have h := h.1
    have v := v.1
    intro e2
    have h := h e2
    have v := v e2
    intro v5 e3
    have h := h v5 e3
    have v := v v5 e3
    refine ⟨?_, ?_⟩
    · have h := h.1
      have v := v.1
      intro e4
      have h := h e4
      have v := v e4
      refine ⟨h.1, ?_⟩
      have v := v h.1
      have h := h.2
      exact hQ _ _ h v
    · have h := h.2
      have v := v.2
      refine ⟨?_, ?_⟩
      · have h := h.1
        have v := v.1
        intro e6
        have h := h e6
        have v := v e6
        refine ⟨h.1, ?_⟩
        have v := v h.1
        have h := h.2
        exact hQ _ _ h v
      · have h := h.2
        have v := v.2
        refine ⟨?_, ?_⟩
        · have h := h.1
          have v := v.1
          intro e8
          have h := h e8
          have v := v e8
          refine ⟨h.1, ?_⟩
          have v := v h.1
          have h := h.2
          exact hQ _ _ h v
        · have h := h.2
          have v := v.2
          refine ⟨?_, ?_⟩
          · have h := h.1
            have v := v.1
            intro e10
            have h := h e10
            have v := v e10
            refine ⟨h.1, ?_⟩
            have v := v h.1
            have h := h.2
            exact hQ _ _ h v
          · have h := h.2
            have v := v.2
            refine ⟨?_, ?_⟩
            · have h := h.1
              have v := v.1
              intro e12
              have h := h e12
              have v := v e12
              refine ⟨h.1, ?_⟩
              have v := v h.1
              have h := h.2
              exact hQ _ _ h v
            · have h := h.2
              have v := v.2
              refine ⟨?_, ?_⟩
              · have h := h.1
                have v := v.1
                intro e14
                have h := h e14
                have v := v e14
                refine ⟨h.1, ?_⟩
                have v := v h.1
                have h := h.2
                exact hQ _ _ h v
              · have h := h.2
                have v := v.2
                refine ⟨?_, ?_⟩
                · have h := h.1
                  have v := v.1
                  intro e16
                  have h := h e16
                  have v := v e16
                  refine ⟨h.1, ?_⟩
                  have v := v h.1
                  have h := h.2
                  exact hQ _ _ h v
                · have h := h.2
                  have v := v.2
                  refine ⟨?_, ?_⟩
                  · have h := h.1
                    have v := v.1
                    intro e18
                    have h := h e18
                    have v := v e18
                    refine ⟨h.1, ?_⟩
                    have v := v h.1
                    have h := h.2
                    exact hQ _ _ h v
                  · have h := h.2
                    have v := v.2
                    intro e20 e21 e22 e23 e24 e25 e26 e27
                    have h := h e20 e21 e22 e23 e24 e25 e26 e27
                    have v := v e20 e21 e22 e23 e24 e25 e26 e27
                    refine jcX12_fail ?_ _ h v
                    intro r23 μ22 h v
                    exact hQ _ _ h v
  · have h := h.2
    have v := v.2
    intro e28
    have h := h e28
    have v := v e28
    refine jcX12_fail ?_ _ h v
    intro r25 μ24 h v
    exact hQ _ _ h v
set_option maxRecDepth 100000 in
set_option maxHeartbeats 4000000 in
theorem jaX12_log {Q Q' : Int32 → km_S → Prop} (hQ : ∀ y0 y1, Q y0 y1 → Q' y0 y1) : ∀ (l1 : Int32) (l2 : Int32) (μ : km_S), wX12_log l1 l2 μ Q → vX12_log l1 l2 μ Q' := by
  intro l1 l2 μ h
  unfold wX12_log at h
  unfold vX12_log
  intro μ1 e1
  have h := h μ1 e1
  refine jaX12_isLog ?_ _ _ h
  intro r3 μ2 h
  refine ⟨?_, ?_⟩
  · have h := h.1
    intro e2
    have h := h e2
    intro v5 e3
    have h := h v5 e3
    refine ⟨?_, ?_⟩
    · have h := h.1
      intro e4
      have h := h e4
      intro e5
      have h := h.2
      exact hQ _ _ h
    · have h := h.2
      refine ⟨?_, ?_⟩
      · have h := h.1
        intro e6
        have h := h e6
        intro e7
        have h := h.2
        exact hQ _ _ h
      · have h := h.2
        refine ⟨?_, ?_⟩
        · have h := h.1
          intro e8
          have h := h e8
          intro e9
          have h := h.2
          exact hQ _ _ h
        · have h := h.2
          refine ⟨?_, ?_⟩
          · have h := h.1
            intro e10
            have h := h e10
            intro e11
            have h := h.2
            exact hQ _ _ h
          · have h := h.2
            refine ⟨?_, ?_⟩
            · have h := h.1
              intro e12
              have h := h e12
              intro e13
              have h := h.2
              exact hQ _ _ h
            · have h := h.2
              refine ⟨?_, ?_⟩
              · have h := h.1
                intro e14
                have h := h e14
                intro e15
                have h := h.2
                exact hQ _ _ h
              · have h := h.2
                refine ⟨?_, ?_⟩
                · have h := h.1
                  intro e16
                  have h := h e16
                  intro e17
                  have h := h.2
                  exact hQ _ _ h
                · have h := h.2
                  refine ⟨?_, ?_⟩
                  · have h := h.1
                    intro e18
                    have h := h e18
                    intro e19
                    have h := h.2
                    exact hQ _ _ h
                  · have h := h.2
                    intro e20 e21 e22 e23 e24 e25 e26 e27
                    have h := h e20 e21 e22 e23 e24 e25 e26 e27
                    refine jaX12_fail ?_ _ h
                    intro r23 μ22 h
                    exact hQ _ _ h
  · have h := h.2
    intro e28
    have h := h e28
    refine jaX12_fail ?_ _ h
    intro r25 μ24 h
    exact hQ _ _ h
set_option maxRecDepth 100000 in
set_option maxHeartbeats 4000000 in
theorem jfX12_log {I : km_S → Prop} (W : gw_ I [1]) {Q : Int32 → km_S → Prop} (hQ : ∀ y0 y1, I y1 → Q y0 y1) : ∀ (l1 : Int32) (l2 : Int32) (μ : km_S), I μ → vX12_log l1 l2 μ Q := by
  intro l1 l2 μ i
  unfold vX12_log
  intro μ1 e1
  have iμ1 : I μ1 := by rw [e1]; exact ((W _ i) 1 (by decide)).1 _
  refine jfX12_isLog (I := I) (gw_sub W (by decide)) ?_ _ _ iμ1
  intro r3 μ2 iμ2
  refine ⟨?_, ?_⟩
  · intro e2
    intro v5 e3
    refine ⟨?_, ?_⟩
    · intro e4
      intro e5
      exact hQ _ _ iμ2
    · refine ⟨?_, ?_⟩
      · intro e6
        intro e7
        exact hQ _ _ iμ2
      · refine ⟨?_, ?_⟩
        · intro e8
          intro e9
          exact hQ _ _ iμ2
        · refine ⟨?_, ?_⟩
          · intro e10
            intro e11
            exact hQ _ _ iμ2
          · refine ⟨?_, ?_⟩
            · intro e12
              intro e13
              exact hQ _ _ iμ2
            · refine ⟨?_, ?_⟩
              · intro e14
                intro e15
                exact hQ _ _ iμ2
              · refine ⟨?_, ?_⟩
                · intro e16
                  intro e17
                  exact hQ _ _ iμ2
                · refine ⟨?_, ?_⟩
                  · intro e18
                    intro e19
                    exact hQ _ _ iμ2
                  · intro e20 e21 e22 e23 e24 e25 e26 e27
                    refine jfX12_fail (I := I) (gw_sub W (by decide)) ?_ _ iμ2
                    intro r23 μ22 iμ22
                    exact hQ _ _ iμ22
  · intro e28
    refine jfX12_fail (I := I) (gw_sub W (by decide)) ?_ _ iμ2
    intro r25 μ24 iμ24
    exact hQ _ _ iμ24
end
