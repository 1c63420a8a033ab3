theorem rx_dam {k : Nat} {s : sz_T} {L O : Nat} {σ : kx_S} {r v : Int32} (hk : k < 600) (Z : yZ_ k s L O σ) : wX11_dam L r v σ (qz_ k L O (z_dam r v s)) (qe_ k L O pz_N (z_dam r v s)) := by
  obtain ⟨g, κ, B, n, e, eO, J, hn, hB⟩ := Z
  subst e
  subst eO
  have b := yB_ J hk hn hB
  have hB' : B ≤ 15 + 26 * s.1.1.toNatClampNeg + 3 * (k + 1) := by omega
  refine ⟨yg0 J, ?_⟩
  refine rx_reachAt J (by omega) (by omega) (fun hz R eR tR => ?_) (fun hz => ?_)
  · unfold z_dam
    rw [if_pos hz]
    have hr : ((r.toNatClampNeg : Nat) : Int) < s.1.1.toInt := by rw [ki_nat]; have := hz.1; have := hz.2; omega
    have z0 : (100000 : Int32).toInt = 100000 := by decide
    refine rx_within (fun c => ⟨fun x => absurd rfl x, fun _ => ?_⟩) (fun c1 c2 => ⟨fun _ => ⟨tR, fun τ1 e1 τ2 e2 => ?_⟩, fun x => absurd x (by decide)⟩)
    · rw [ki_z0, z0] at c
      rw [if_pos (by rw [ki_lt, ki_le, ki_z0, z0]; omega)]
      exact ⟨rfl, rfl, yZ_of J hn hB'⟩
    · rw [ki_z0] at c1
      rw [z0] at c2
      rw [if_neg (by rw [ki_lt, ki_le, ki_z0, z0]; omega), e2, e1]
      exact ⟨rfl, rfl, yZ_of (yI_si (by decide) (yI_165 J hr eR)) hn hB'⟩
  · unfold z_dam
    rw [if_neg hz]
    exact ⟨rfl, rfl, yZ_bump J hn hB⟩
theorem rx_gate {k : Nat} {s : sz_T} {L O : Nat} {σ : kx_S} {r v : Int32} (hk : k < 600) (Z : yZ_ k s L O σ) : wX11_gate L r v σ (qz_ k L O (z_gate r v s)) (qe_ k L O pz_N (z_gate r v s)) := by
  obtain ⟨g, κ, B, n, e, eO, J, hn, hB⟩ := Z
  subst e
  subst eO
  have b := yB_ J hk hn hB
  have hB' : B ≤ 15 + 26 * s.1.1.toNatClampNeg + 3 * (k + 1) := by omega
  refine ⟨yg0 J, ?_⟩
  refine rx_reachAt J (by omega) (by omega) (fun hz R eR tR => ?_) (fun hz => ?_)
  · unfold z_gate
    rw [if_pos hz]
    have hr : ((r.toNatClampNeg : Nat) : Int) < s.1.1.toInt := by rw [ki_nat]; have := hz.1; have := hz.2; omega
    have z0 : (1000 : Int32).toInt = 1000 := by decide
    have o := yS_at J.2.2.2.2 hr eR
    refine ⟨tR, fun c => ?_, fun c => ?_⟩
    · rw [o.2.1] at c
      rw [if_pos (.inl c)]
      exact ⟨rfl, rfl, yZ_of J hn hB'⟩
    · rw [o.2.1] at c
      refine rx_within (fun d => ⟨fun x => absurd rfl x, fun _ => ?_⟩) (fun c1 c2 => ⟨fun _ => ⟨tR, fun w ew τ1 e1 => ?_⟩, fun x => absurd x (by decide)⟩)
      · rw [ki_z0, z0] at d
        rw [if_pos (.inr (by rw [ki_lt, ki_le, ki_z0, z0]; omega))]
        exact ⟨rfl, rfl, yZ_of J hn hB'⟩
      · rw [ki_z0] at c1
        rw [z0] at c2
        rw [if_neg (fun h => h.elim c (by rw [ki_lt, ki_le, ki_z0, z0]; omega)), e1, ew, o.2.2.1]
        exact ⟨rfl, rfl, yZ_of (yI_168 J hr eR) hn hB'⟩
  · unfold z_gate
    rw [if_neg hz]
    exact ⟨rfl, rfl, yZ_bump J hn hB⟩
theorem rx_melt {k : Nat} {s : sz_T} {L O : Nat} {σ : kx_S} {r v : Int32} (hk : k < 600) (Z : yZ_ k s L O σ) : wX11_melt L r v σ (qz_ k L O (z_melt r v s)) (qe_ k L O pz_N (z_melt r v s)) := by
  obtain ⟨g, κ, B, n, e, eO, J, hn, hB⟩ := Z
  subst e
  subst eO
  have b := yB_ J hk hn hB
  have hB' : B ≤ 15 + 26 * s.1.1.toNatClampNeg + 3 * (k + 1) := by omega
  refine ⟨yg0 J, ?_⟩
  refine rx_reachAt J (by omega) (by omega) (fun hz R eR tR => ?_) (fun hz => ?_)
  · unfold z_melt
    rw [if_pos hz]
    have hr : ((r.toNatClampNeg : Nat) : Int) < s.1.1.toInt := by rw [ki_nat]; have := hz.1; have := hz.2; omega
    have z0 : (500 : Int32).toInt = 500 := by decide
    have o := yS_at J.2.2.2.2 hr eR
    refine rx_within (fun d => ⟨fun x => absurd rfl x, fun _ => ?_⟩) (fun c1 c2 => ⟨fun _ => ⟨tR, fun w ew τ1 e1 => ?_⟩, fun x => absurd x (by decide)⟩)
    · rw [ki_z0, z0] at d
      rw [if_pos (by rw [ki_lt, ki_le, ki_z0, z0]; omega)]
      exact ⟨rfl, rfl, yZ_of J hn hB'⟩
    · rw [ki_z0] at c1
      rw [z0] at c2
      rw [if_neg (by rw [ki_lt, ki_le, ki_z0, z0]; omega), e1, ew, o.2.2.2.1]
      exact ⟨rfl, rfl, yZ_of (yI_164 J hr eR) hn hB'⟩
  · unfold z_melt
    rw [if_neg hz]
    exact ⟨rfl, rfl, yZ_bump J hn hB⟩
theorem rx_watch {k : Nat} {s : sz_T} {L O : Nat} {σ : kx_S} {r v : Int32} (hv : v = 0 ∨ v = 1) (hk : k < 600) (Z : yZ_ k s L O σ) : wX11_watch L r v σ (qz_ k L O (z_watch r v s)) (qe_ k L O pz_N (z_watch r v s)) := by
  obtain ⟨g, κ, B, n, e, eO, J, hn, hB⟩ := Z
  subst e
  subst eO
  have b := yB_ J hk hn hB
  have hB' : B ≤ 15 + 26 * s.1.1.toNatClampNeg + 3 * (k + 1) := by omega
  refine ⟨yg0 J, ?_⟩
  refine rx_reachAt J (by omega) (by omega) (fun hz R eR tR => ?_) (fun hz => ?_)
  · unfold z_watch
    rw [if_pos hz]
    have hr : ((r.toNatClampNeg : Nat) : Int) < s.1.1.toInt := by rw [ki_nat]; have := hz.1; have := hz.2; omega
    have o := yS_at J.2.2.2.2 hr eR
    have w01 := (J.2.2.2.1 R).2.2.2.2.2.1 tR
    have nb : ∀ x : Int32, (x = 0 ∨ x = 1) → narrow .boolean (.int x) = .int x ∧ fits .boolean (.int x) = true := fun x hx => by rcases hx with e | e <;> rw [e] <;> decide
    refine ⟨tR, fun w ew => ⟨nb v hv, fun τ1 e1 => ⟨(nb w (by rw [ew]; exact w01)).1, ?_⟩⟩⟩
    rw [e1, ew, o.2.2.2.2.1]
    exact ⟨rfl, rfl, yZ_of (yI_171 J hr eR hv) hn hB'⟩
  · unfold z_watch
    rw [if_neg hz]
    exact ⟨rfl, rfl, yZ_bump J hn hB⟩
abbrev qu_ (k L O : Nat) (s : sz_T) {α : Type} : α → kx_S → Prop := fun _ σ => yZ_ (k + 1) s L O σ
abbrev qf_ (k L O : Nat) (s : sz_T) : String → kx_S → Prop := fun e σ => e = pz_N ∧ yZ_ (k + 1) s L O σ
theorem rx_logAt {s : sz_T} {g κ : Nat → Nat} {B n : Nat} {σ : kx_S} {r : Int32} {Q : Nat → kx_S → Prop} {QX : String → kx_S → Prop} (J : yJ_ s g κ B n σ) (hB : B ≤ 3000) (hn : n ≤ 200) (k1 : ∀ y, xt σ y = 8 → Q y σ) (k0 : QX pz_N (xbump σ)) : wX11_logAt (g 0) r σ Q QX := by
  have G2 := yg2 J
  have sz := ry_size J.1 G2.2.1
  obtain ⟨u, eu, dd⟩ := ki_dec2E (a := xi σ 18 (g 2)) (by omega)
  refine ⟨yg0 J, g 2, G2.1, G2.2.1, G2.2.1, ?_⟩
  show wX11_isWithin _ _ (xi σ 18 (g 2) - 1) _ _
  rw [← eu]
  refine rx_within (fun _ => ⟨fun x => absurd rfl x, fun _ => ⟨ry_room J.1 hB hn, k0⟩⟩) (fun c1 c2 => ⟨fun _ => ⟨yg0 J, g 2, G2.1, G2.2.1, ?_⟩, fun x => absurd x (by decide)⟩)
  rw [ki_z0] at c1
  refine ry_get J.1 G2.2.1 c1 (by omega) (fun y _ ty => ?_)
  rw [G2.2.2] at ty
  exact ⟨y, rfl, ty, k1 y ty⟩
theorem rx_checkCell {s : sz_T} {g κ : Nat → Nat} {B n : Nat} {σ : kx_S} {R : Nat} {c : Int32} {Q : kx_S → Prop} {QX : String → kx_S → Prop} (J : yJ_ s g κ B n σ) (hB : B ≤ 3000) (hn : n ≤ 200) (hR : xt σ R = 10) (k1 : ∀ l, xr σ 163 R = some l → xt σ l = 1 → κ l = 3 → 0 ≤ c.toInt → c.toInt < (xi σ 18 l).toInt → Q σ) (k0 : QX pz_N (xbump σ)) : wX11_checkCell R c σ Q QX := by
  obtain ⟨_, ⟨l, l1, l2, l3⟩, _⟩ := yp10 J hR
  have sz := ry_size J.1 l2
  obtain ⟨u, eu, dd⟩ := ki_dec2E (a := xi σ 18 l) (by omega)
  refine ⟨hR, l, l1, l2, l2, ?_⟩
  show wX11_isWithin _ _ (xi σ 18 l - 1) _ _
  rw [← eu]
  refine rx_within (fun _ => ⟨fun x => absurd rfl x, fun _ => ⟨ry_room J.1 hB hn, k0⟩⟩) (fun c1 c2 => ⟨fun _ => ?_, fun x => absurd x (by decide)⟩)
  rw [ki_z0] at c1
  exact k1 l l1 l2 l3 c1 (by omega)
theorem rx_numberAt {s : sz_T} {g κ : Nat → Nat} {B n : Nat} {σ : kx_S} {l : Nat} {i : Int32} {Q : Int32 → kx_S → Prop} (J : yJ_ s g κ B n σ) (hl : xt σ l = 1) (k8 : κ l = 8) (kk : ∀ r, Q r σ) : wX11_numberAt l i σ Q := by
  have sz := ry_size J.1 hl
  obtain ⟨u, eu, dd⟩ := ki_dec2E (a := xi σ 18 l) (by omega)
  refine ⟨hl, hl, ?_⟩
  show wX11_isWithin _ _ (xi σ 18 l - 1) _ _
  rw [← eu]
  refine rx_within (fun _ => ⟨fun _ => kk _, fun x => absurd rfl x⟩) (fun c1 c2 => ⟨fun x => absurd x (by decide), fun _ => ⟨hl, ?_⟩⟩)
  rw [ki_z0] at c1
  refine ry_get J.1 hl c1 (by omega) (fun y _ ty => ?_)
  rw [k8] at ty
  exact ⟨y, rfl, ty, kk _⟩
theorem rx_fault {k : Nat} {s : sz_T} {L O : Nat} {σ : kx_S} (hk : k < 600) (Z : yZ_ k s L O σ) : wX11_fault L σ (qu_ k L O s) := by
  obtain ⟨g, κ, B, n, e, eO, J, hn, hB⟩ := Z
  subst e
  subst eO
  have b := yB_ J hk hn hB
  have hB' : B ≤ 15 + 26 * s.1.1.toNatClampNeg + 3 * (k + 1) := by omega
  have Y : yZ_ (k + 1) s (g 0) (g 10) σ := yZ_of J hn hB'
  have X : pz_N = pz_N ∧ yZ_ (k + 1) s (g 0) (g 10) (xbump σ) := ⟨rfl, yZ_bump J hn hB⟩
  have room := ry_room J.1 (show B ≤ 3000 by omega) (show n ≤ 200 by omega)
  exact ⟨yg0 J, Y⟩
theorem rx_wants {k : Nat} {s : sz_T} {L O : Nat} {σ : kx_S} {i : Int32} (hk : k < 600) (Z : yZ_ k s L O σ) : wX11_wants L i σ (qu_ k L O s) (qf_ k L O s) := by
  obtain ⟨g, κ, B, n, e, eO, J, hn, hB⟩ := Z
  subst e
  subst eO
  have b := yB_ J hk hn hB
  have hB' : B ≤ 15 + 26 * s.1.1.toNatClampNeg + 3 * (k + 1) := by omega
  have Y : yZ_ (k + 1) s (g 0) (g 10) σ := yZ_of J hn hB'
  have X : pz_N = pz_N ∧ yZ_ (k + 1) s (g 0) (g 10) (xbump σ) := ⟨rfl, yZ_bump J hn hB⟩
  have room := ry_room J.1 (show B ≤ 3000 by omega) (show n ≤ 200 by omega)
  have G5 := yg5 J
  have sz := ry_size J.1 G5.2.1
  obtain ⟨u, eu, dd⟩ := ki_dec2E (a := xi σ 18 (g 5)) (by omega)
  refine ⟨yg0 J, g 5, G5.1, G5.2.1, G5.2.1, ?_⟩
  show wX11_isWithin _ _ (xi σ 18 (g 5) - 1) _ _
  rw [← eu]
  refine rx_within (fun _ => ⟨fun x => absurd rfl x, fun _ => ⟨room, X⟩⟩) (fun c1 c2 => ⟨fun _ => ⟨yg0 J, g 5, G5.1, G5.2.1, ?_⟩, fun x => absurd x (by decide)⟩)
  rw [ki_z0] at c1
  refine ry_get J.1 G5.2.1 c1 (by omega) (fun y _ ty => ?_)
  rw [G5.2.2] at ty
  exact ⟨y, rfl, ty, Y⟩
theorem rx_log {k : Nat} {s : sz_T} {L O : Nat} {σ : kx_S} {i w : Int32} (hk : k < 600) (Z : yZ_ k s L O σ) : wX11_log L i w σ (qu_ k L O s) (qf_ k L O s) := by
  obtain ⟨g, κ, B, n, e, eO, J, hn, hB⟩ := Z
  subst e
  subst eO
  have b := yB_ J hk hn hB
  have hB' : B ≤ 15 + 26 * s.1.1.toNatClampNeg + 3 * (k + 1) := by omega
  have Y : yZ_ (k + 1) s (g 0) (g 10) σ := yZ_of J hn hB'
  have X : pz_N = pz_N ∧ yZ_ (k + 1) s (g 0) (g 10) (xbump σ) := ⟨rfl, yZ_bump J hn hB⟩
  have room := ry_room J.1 (show B ≤ 3000 by omega) (show n ≤ 200 by omega)
  refine ⟨yg0 J, ?_⟩
  refine rx_logAt J (by omega) (by omega) (fun y ty => ?_) X
  exact fun v _ => ⟨fun _ => ⟨ty, Y⟩, fun _ => ⟨ty, Y⟩, fun _ => ⟨ty, Y⟩, fun _ => ⟨ty, Y⟩, fun _ => ⟨ty, Y⟩, fun _ => ⟨ty, Y⟩, fun _ => ⟨ty, Y⟩, fun _ => ⟨ty, Y⟩, fun _ _ _ _ _ _ _ _ => ⟨room, X⟩⟩
theorem rx_cell {k : Nat} {s : sz_T} {L O : Nat} {σ : kx_S} {r c w : Int32} (hk : k < 600) (Z : yZ_ k s L O σ) : wX11_cell L r c w σ (qu_ k L O s) (qf_ k L O s) := by
  obtain ⟨g, κ, B, n, e, eO, J, hn, hB⟩ := Z
  subst e
  subst eO
  have b := yB_ J hk hn hB
  have hB' : B ≤ 15 + 26 * s.1.1.toNatClampNeg + 3 * (k + 1) := by omega
  have Y : yZ_ (k + 1) s (g 0) (g 10) σ := yZ_of J hn hB'
  have X : pz_N = pz_N ∧ yZ_ (k + 1) s (g 0) (g 10) (xbump σ) := ⟨rfl, yZ_bump J hn hB⟩
  have room := ry_room J.1 (show B ≤ 3000 by omega) (show n ≤ 200 by omega)
  refine ⟨yg0 J, ?_⟩
  refine rx_reachAt J (by omega) (by omega) (fun _ R _ tR => ?_) (fun _ => X)
  refine rx_checkCell J (by omega) (by omega) tR (fun l l1 l2 l3 c1 c2 => ⟨tR, l, l1, l2, ?_⟩) X
  refine ry_get J.1 l2 c1 c2 (fun C _ tC => ?_)
  rw [l3] at tC
  obtain ⟨y, y1, y2, y3, y4⟩ := yp3 J tC
  exact ⟨C, rfl, tC, fun v _ => ⟨fun _ => ⟨y, y1, y2, y2, Y⟩, fun _ => ⟨fun _ => Y, fun _ => Y⟩, fun _ => ⟨fun _ => Y, fun _ => Y⟩, fun _ _ _ => ⟨room, X⟩⟩⟩
theorem rx_inCell {k : Nat} {s : sz_T} {L O : Nat} {σ : kx_S} {r c i : Int32} (hk : k < 600) (Z : yZ_ k s L O σ) : wX11_inCell L r c i σ (qu_ k L O s) (qf_ k L O s) := by
  obtain ⟨g, κ, B, n, e, eO, J, hn, hB⟩ := Z
  subst e
  subst eO
  have b := yB_ J hk hn hB
  have hB' : B ≤ 15 + 26 * s.1.1.toNatClampNeg + 3 * (k + 1) := by omega
  have Y : yZ_ (k + 1) s (g 0) (g 10) σ := yZ_of J hn hB'
  have X : pz_N = pz_N ∧ yZ_ (k + 1) s (g 0) (g 10) (xbump σ) := ⟨rfl, yZ_bump J hn hB⟩
  have room := ry_room J.1 (show B ≤ 3000 by omega) (show n ≤ 200 by omega)
  refine ⟨yg0 J, ?_⟩
  refine rx_reachAt J (by omega) (by omega) (fun _ R _ tR => ?_) (fun _ => X)
  refine rx_checkCell J (by omega) (by omega) tR (fun l l1 l2 l3 c1 c2 => ⟨tR, l, l1, l2, ?_⟩) X
  refine ry_get J.1 l2 c1 c2 (fun C _ tC => ?_)
  rw [l3] at tC
  obtain ⟨y, y1, y2, y3, y4⟩ := yp3 J tC
  exact ⟨C, rfl, tC, y, y1, rx_numberAt J y2 y3 (fun _ => Y)⟩
theorem rx_heap {k : Nat} {s : sz_T} {L O : Nat} {σ : kx_S} {r i : Int32} (hk : k < 600) (Z : yZ_ k s L O σ) : wX11_heap L r i σ (qu_ k L O s) (qf_ k L O s) := by
  obtain ⟨g, κ, B, n, e, eO, J, hn, hB⟩ := Z
  subst e
  subst eO
  have b := yB_ J hk hn hB
  have hB' : B ≤ 15 + 26 * s.1.1.toNatClampNeg + 3 * (k + 1) := by omega
  have Y : yZ_ (k + 1) s (g 0) (g 10) σ := yZ_of J hn hB'
  have X : pz_N = pz_N ∧ yZ_ (k + 1) s (g 0) (g 10) (xbump σ) := ⟨rfl, yZ_bump J hn hB⟩
  have room := ry_room J.1 (show B ≤ 3000 by omega) (show n ≤ 200 by omega)
  refine ⟨yg0 J, ?_⟩
  refine rx_reachAt J (by omega) (by omega) (fun _ R _ tR => ?_) (fun _ => X)
  refine ⟨tR, fun a ea => ?_, fun _ => Y⟩
  have ta : xt σ a = 2 := by
    rcases (yp10 J tR).2.2 with h | ⟨h, h1, h2⟩
    · rw [ea] at h; cases h
    · rw [ea] at h1; rw [Option.some.inj h1]; exact h2
  obtain ⟨⟨h, h1, h2, h3, h4⟩, _⟩ := yp2 J ta
  exact ⟨fun _ => ⟨a, ea, ta, h, h1, rx_numberAt J h2 h3 (fun _ => Y)⟩, fun _ => ⟨a, ea, ta, h, h1, h2, h2, Y⟩⟩
theorem rx_water {k : Nat} {s : sz_T} {L O : Nat} {σ : kx_S} {r w : Int32} (hk : k < 600) (Z : yZ_ k s L O σ) : wX11_water L r w σ (qu_ k L O s) (qf_ k L O s) := by
  obtain ⟨g, κ, B, n, e, eO, J, hn, hB⟩ := Z
  subst e
  subst eO
  have b := yB_ J hk hn hB
  have hB' : B ≤ 15 + 26 * s.1.1.toNatClampNeg + 3 * (k + 1) := by omega
  have Y : yZ_ (k + 1) s (g 0) (g 10) σ := yZ_of J hn hB'
  have X : pz_N = pz_N ∧ yZ_ (k + 1) s (g 0) (g 10) (xbump σ) := ⟨rfl, yZ_bump J hn hB⟩
  have room := ry_room J.1 (show B ≤ 3000 by omega) (show n ≤ 200 by omega)
  refine ⟨yg0 J, ?_⟩
  refine rx_reachAt J (by omega) (by omega) (fun _ R _ tR => ?_) (fun _ => X)
  obtain ⟨p1, ⟨l, l1, l2, l3⟩, _⟩ := yp10 J tR
  refine fun v _ => ⟨fun _ => ⟨tR, Y⟩, fun _ => ⟨tR, Y⟩, fun _ => ⟨tR, fun _ => Y, fun _ => Y⟩, fun _ => ⟨tR, fun a ea => ?_, fun _ => Y⟩, fun _ => ⟨tR, l, l1, l2, l2, Y⟩, fun _ _ _ _ _ => ⟨room, X⟩⟩
  have ta : xt σ a = 10 := by
    rcases p1 with h | ⟨h, h1, h2⟩
    · rw [ea] at h; cases h
    · rw [ea] at h1; rw [Option.some.inj h1]; exact h2
  exact ⟨a, ea, ta, Y⟩
theorem rx_waters {k : Nat} {s : sz_T} {L O : Nat} {σ : kx_S} {w : Int32} (hk : k < 600) (Z : yZ_ k s L O σ) : wX11_waters L w σ (qu_ k L O s) (qf_ k L O s) := by
  obtain ⟨g, κ, B, n, e, eO, J, hn, hB⟩ := Z
  subst e
  subst eO
  have b := yB_ J hk hn hB
  have hB' : B ≤ 15 + 26 * s.1.1.toNatClampNeg + 3 * (k + 1) := by omega
  have Y : yZ_ (k + 1) s (g 0) (g 10) σ := yZ_of J hn hB'
  have X : pz_N = pz_N ∧ yZ_ (k + 1) s (g 0) (g 10) (xbump σ) := ⟨rfl, yZ_bump J hn hB⟩
  have room := ry_room J.1 (show B ≤ 3000 by omega) (show n ≤ 200 by omega)
  exact fun v _ => ⟨fun _ => ⟨yg0 J, Y⟩, fun _ => ⟨yg0 J, Y⟩, fun _ _ => ⟨room, X⟩⟩
theorem rx_paid {k : Nat} {s : sz_T} {L O : Nat} {σ : kx_S} {m : Int32} (hk : k < 600) (Z : yZ_ k s L O σ) : wX11_paid L m σ (qu_ k L O s) (qf_ k L O s) := by
  obtain ⟨g, κ, B, n, e, eO, J, hn, hB⟩ := Z
  subst e
  subst eO
  have b := yB_ J hk hn hB
  have hB' : B ≤ 15 + 26 * s.1.1.toNatClampNeg + 3 * (k + 1) := by omega
  have Y : yZ_ (k + 1) s (g 0) (g 10) σ := yZ_of J hn hB'
  have X : pz_N = pz_N ∧ yZ_ (k + 1) s (g 0) (g 10) (xbump σ) := ⟨rfl, yZ_bump J hn hB⟩
  have room := ry_room J.1 (show B ≤ 3000 by omega) (show n ≤ 200 by omega)
  have G9 := yg9 J
  have z15 : (15 : Int32).toInt = 15 := by decide
  refine rx_within (fun _ => ⟨fun x => absurd rfl x, fun _ => ⟨room, X⟩⟩) (fun c1 c2 => ⟨fun _ => ⟨yg0 J, g 9, G9.1, G9.2.1, ?_, Y⟩, fun x => absurd x (by decide)⟩)
  rw [ki_z0] at c1
  rw [z15] at c2
  rw [G9.2.2, ki_in]; omega
theorem rx_board {k : Nat} {s : sz_T} {L O : Nat} {σ : kx_S} {i : Int32} (hk : k < 600) (Z : yZ_ k s L O σ) : wX11_board L i σ (qu_ k L O s) (qf_ k L O s) := by
  obtain ⟨g, κ, B, n, e, eO, J, hn, hB⟩ := Z
  subst e
  subst eO
  have b := yB_ J hk hn hB
  have hB' : B ≤ 15 + 26 * s.1.1.toNatClampNeg + 3 * (k + 1) := by omega
  have Y : yZ_ (k + 1) s (g 0) (g 10) σ := yZ_of J hn hB'
  have X : pz_N = pz_N ∧ yZ_ (k + 1) s (g 0) (g 10) (xbump σ) := ⟨rfl, yZ_bump J hn hB⟩
  have room := ry_room J.1 (show B ≤ 3000 by omega) (show n ≤ 200 by omega)
  have G2 := yg2 J
  have sz := ry_size J.1 G2.2.1
  have Lp : ∀ (m : Nat) (c : Int32), 0 ≤ c.toInt → c.toInt ≤ 400 → 400 - c.toInt < (m : Int) → wX11_board_2 (wX11_board_67 (qu_ k (g 0) (g 10) s) (qf_ k (g 0) (g 10) s)) (qu_ k (g 0) (g 10) s) (qf_ k (g 0) (g 10) s) m (g 0) i c σ := by
    intro m
    induction m with
    | zero => intro c h1 h2 h3; omega
    | succ m ih =>
      intro c h1 h2 h3
      refine ⟨yg0 J, g 2, G2.1, G2.2.1, G2.2.1, fun _ => ⟨room, X⟩, fun q => ⟨yg0 J, g 2, G2.1, G2.2.1, ?_⟩⟩
      rw [ki_le] at q
      obtain ⟨c', ec, ii⟩ := ki_incE (a := c) (by omega) (by omega)
      have a1 : 0 ≤ c'.toInt := by omega
      have a2 : c'.toInt ≤ 400 := by omega
      have a3 : 400 - c'.toInt < (m : Int) := by omega
      have N : wX11_board_61 (wX11_board_2 (wX11_board_67 (qu_ k (g 0) (g 10) s) (qf_ k (g 0) (g 10) s)) (qu_ k (g 0) (g 10) s) (qf_ k (g 0) (g 10) s) m) (qu_ k (g 0) (g 10) s) (qf_ k (g 0) (g 10) s) (g 0) i c σ := fun w ew => by
        rw [ew, ← ec]
        exact ih c' a1 a2 a3
      refine ry_get J.1 G2.2.1 h1 (by omega) (fun y _ ty => ?_)
      rw [G2.2.2] at ty
      refine ⟨y, rfl, ty, fun _ => N, fun _ => ?_⟩
      exact rx_within (fun _ => ⟨fun _ => N, fun x => absurd rfl x⟩) (fun _ _ => ⟨fun x => absurd x (by decide), fun _ => Y⟩)
  have fin := Lp 401 0 (by decide) (by decide) (by decide)
  exact ⟨401, fin⟩
theorem rx_countJams {s : sz_T} {g κ : Nat → Nat} {B n : Nat} {σ : kx_S} {f : Int32} {Q : Int32 → kx_S → Prop} (J : yJ_ s g κ B n σ) (kk : ∀ r, Q r σ) : wX11_countJams (g 0) f σ Q := by
  have G1 := yg1 J
  have sz := ry_size J.1 G1.2.1
  have Lp : ∀ (m : Nat) (a c : Int32), 0 ≤ c.toInt → c.toInt ≤ 400 → 400 - c.toInt < (m : Int) → wX11_countJams_4 Q m (g 0) f a c σ := by
    intro m
    induction m with
    | zero => intro a c h1 h2 h3; omega
    | succ m ih =>
      intro a c h1 h2 h3
      refine ⟨yg0 J, g 1, G1.1, G1.2.1, G1.2.1, fun _ => kk _, fun q => ⟨yg0 J, g 1, G1.1, G1.2.1, ?_⟩⟩
      rw [ki_le] at q
      obtain ⟨c', ec, ii⟩ := ki_incE (a := c) (by omega) (by omega)
      have a1 : 0 ≤ c'.toInt := by omega
      have a2 : c'.toInt ≤ 400 := by omega
      have a3 : 400 - c'.toInt < (m : Int) := by omega
      have N : ∀ a', wX11_countJams_99 (wX11_countJams_4 Q m) Q (g 0) f a' c σ := fun a' w ew => by
        rw [ew, ← ec]
        exact ih a' c' a1 a2 a3
      refine ry_get J.1 G1.2.1 h1 (by omega) (fun R _ tR => ?_)
      rw [G1.2.2] at tR
      obtain ⟨_, ⟨l, l1, l2, l3⟩, _⟩ := yp10 J tR
      have szl := ry_size J.1 l2
      refine ⟨R, rfl, tR, ?_⟩
      have Lq : ∀ (m2 : Nat) (a i : Int32), 0 ≤ i.toInt → i.toInt ≤ 400 → 400 - i.toInt < (m2 : Int) → wX11_countJams_35 (wX11_countJams_99 (wX11_countJams_4 Q m) Q) Q m2 (g 0) f a c R i σ := by
        intro m2
        induction m2 with
        | zero => intro a i g1 g2 g3; omega
        | succ m2 ih2 =>
          intro a i g1 g2 g3
          refine ⟨tR, l, l1, l2, l2, fun _ => N a, fun q => ⟨tR, l, l1, l2, ?_⟩⟩
          rw [ki_le] at q
          obtain ⟨i', ei, jj⟩ := ki_incE (a := i) (by omega) (by omega)
          have b1 : 0 ≤ i'.toInt := by omega
          have b2 : i'.toInt ≤ 400 := by omega
          have b3 : 400 - i'.toInt < (m2 : Int) := by omega
          have M : ∀ a', wX11_countJams_93 (wX11_countJams_35 (wX11_countJams_99 (wX11_countJams_4 Q m) Q) Q m2) Q (g 0) f a' c R i σ := fun a' w ew => by
            rw [ew, ← ei]
            exact ih2 a' i' b1 b2 b3
          refine ry_get J.1 l2 g1 (by omega) (fun C _ tC => ?_)
          rw [l3] at tC
          exact ⟨C, rfl, tC, fun _ => ⟨fun _ => M a, fun _ w _ => M w⟩, fun _ => ⟨fun _ => M a, fun _ w _ => M w⟩⟩
      have f2 := Lq 401 a 0 (by decide) (by decide) (by decide)
      exact ⟨401, f2⟩
  have fin := Lp 401 0 0 (by decide) (by decide) (by decide)
  exact ⟨401, fin⟩
theorem rx_count {k : Nat} {s : sz_T} {L O : Nat} {σ : kx_S} {w : Int32} (hk : k < 600) (Z : yZ_ k s L O σ) : wX11_count L w σ (qu_ k L O s) (qf_ k L O s) := by
  obtain ⟨g, κ, B, n, e, eO, J, hn, hB⟩ := Z
  subst e
  subst eO
  have b := yB_ J hk hn hB
  have hB' : B ≤ 15 + 26 * s.1.1.toNatClampNeg + 3 * (k + 1) := by omega
  have Y : yZ_ (k + 1) s (g 0) (g 10) σ := yZ_of J hn hB'
  have X : pz_N = pz_N ∧ yZ_ (k + 1) s (g 0) (g 10) (xbump σ) := ⟨rfl, yZ_bump J hn hB⟩
  have room := ry_room J.1 (show B ≤ 3000 by omega) (show n ≤ 200 by omega)
  exact fun v _ => ⟨fun _ => ⟨yg0 J, Y⟩, fun _ => ⟨yg0 J, g 1, (yg1 J).1, (yg1 J).2.1, (yg1 J).2.1, Y⟩, fun _ => ⟨yg0 J, g 2, (yg2 J).1, (yg2 J).2.1, (yg2 J).2.1, Y⟩, fun _ => ⟨yg0 J, g 3, (yg3 J).1, (yg3 J).2.1, (yg3 J).2.1, Y⟩, fun _ => ⟨yg0 J, Y⟩, fun _ => ⟨yg0 J, g 4, (yg4 J).1, (yg4 J).2.1, (yg4 J).2.1, Y⟩, fun _ => ⟨yg0 J, rx_countJams J (fun _ => Y)⟩, fun _ => ⟨yg0 J, rx_countJams J (fun _ => Y)⟩, fun _ => ⟨yg0 J, g 5, (yg5 J).1, (yg5 J).2.1, (yg5 J).2.1, Y⟩, fun _ => ⟨yg0 J, g 6, (yg6 J).1, (yg6 J).2, Y⟩, fun _ _ _ _ _ _ _ _ _ _ => ⟨room, X⟩⟩
theorem rx_let {k : Nat} {s : sz_T} {L O : Nat} {σ : kx_S} {i r c : Int32} (hk : k < 600) (Z : yZ_ k s L O σ) : wX11_let L i r c σ (qu_ k L O s) (qf_ k L O s) := by
  obtain ⟨g, κ, B, n, e, eO, J, hn, hB⟩ := Z
  subst e
  subst eO
  have b := yB_ J hk hn hB
  have hB' : B ≤ 15 + 26 * s.1.1.toNatClampNeg + 3 * (k + 1) := by omega
  have Y : yZ_ (k + 1) s (g 0) (g 10) σ := yZ_of J hn hB'
  have X : pz_N = pz_N ∧ yZ_ (k + 1) s (g 0) (g 10) (xbump σ) := ⟨rfl, yZ_bump J hn hB⟩
  have room := ry_room J.1 (show B ≤ 3000 by omega) (show n ≤ 200 by omega)
  have W : ∀ τ, yJ_ s g κ B n τ → yZ_ (k + 1) s (g 0) (g 10) τ := fun τ J' => yZ_of J' hn hB'
  have hB3 : B ≤ 3000 := by omega
  have hn2 : n ≤ 200 := by omega
  refine ⟨yg0 J, ?_⟩
  refine rx_logAt J hB3 hn2 (fun y ty => ⟨yg0 J, ?_⟩) X
  refine rx_reachAt J hB3 hn2 (fun _ R _ tR => ?_) (fun _ => X)
  refine rx_checkCell J hB3 hn2 tR (fun l l1 l2 l3 c1 c2 => ⟨ty, fun _ => ⟨yg0 J, g 8, (yg8 J).1, ?_⟩, fun _ => Y⟩) X
  refine rx_lawInForce J (fun q hq => ⟨yg0 J, (yg8 J).2, ?_⟩)
  refine rx_weigh (yW_refl J) (yg8 J).2 ty hq (fun τ K _ => ?_)
  refine ⟨yg0 K.1, g 8, (yg8 K.1).1, (yg8 K.1).2, fun _ => ⟨yW_tag K tR (by decide), ?_⟩, fun _ => W τ K.1⟩
  exact rx_takes K.1 hB3 hn2 (yW_tag K tR (by decide)) (yW_tag K ty (by decide)) (fun v τ2 _ K2 => ⟨fun _ => W τ2 K2.1, fun _ => W τ2 K2.1⟩)
