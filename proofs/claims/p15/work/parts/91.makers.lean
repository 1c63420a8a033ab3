theorem yG_idx {s : sz_T} {E : Nat → Prop} {g κ : Nat → Nat} {B n : Nat} {σ : kx_S} (I : yI_ s E g κ B n σ) : xi σ 18 (g 1) = s.1.1 ∧ xi σ 18 (g 2) = s.1.2.1 ∧ xi σ 18 (g 4) = s.1.2.2.1 ∧ xi σ 18 (g 5) = s.1.2.2.2.1 ∧ xi σ 177 (g 6) = s.1.2.2.2.2.1 ∧ xi σ 217 (g 0) = s.1.2.2.2.2.2 :=
  ⟨congrArg (fun p => p.1) I.2.2.2.2.1, congrArg (fun p => p.2.1) I.2.2.2.2.1, congrArg (fun p => p.2.2.1) I.2.2.2.2.1, congrArg (fun p => p.2.2.2.1) I.2.2.2.2.1, congrArg (fun p => p.2.2.2.2.1) I.2.2.2.2.1, congrArg (fun p => p.2.2.2.2.2) I.2.2.2.2.1⟩
theorem yK9_same {s : sz_T} {E : Nat → Prop} {g κ : Nat → Nat} {B n : Nat} {σ τ : kx_S} {l y : Nat} (I : yI_ s E g κ B n σ) (A : ya_ l y σ τ) (h9 : κ l ≠ 9) : ∀ a, xt σ a = 1 → κ a = 9 → (xi τ 18 a).toInt ≤ (xi τ 18 (g 5)).toInt := by
  intro a ha k9
  rw [A.2.2.2.1, va_up_ne _ _ (fun e => h9 (by rw [← e]; exact k9)), va_up_ne _ _ (fun e => h9 (by rw [← e]; exact (yg5 I).2.2))]
  exact (I.2.2.2.1 a).2.2.2.2.2.2.2 ha k9
theorem rx_cut {k : Nat} {s : sz_T} {L O : Nat} {σ : kx_S} {m z t : Int32} (hk : k < 600) (Z : yZ_ k s L O σ) : wX11_cut L m z t σ (qz_ k L O (z_cut m z t s)) := by
  obtain ⟨g, κ, B, n, eg, eO, J, hn, hB⟩ := Z
  subst eg
  subst eO
  have b := yB_ J hk hn hB
  have hB' : B ≤ 15 + 26 * s.1.1.toNatClampNeg + 3 * (k + 1) := by omega
  have hB1 : B + 1 ≤ 15 + 26 * s.1.1.toNatClampNeg + 3 * (k + 1) := by omega
  have hB3 : B ≤ 3000 := by omega
  have hB4 : B + 1 ≤ 3000 := by omega
  have hn2 : n ≤ 200 := by omega
  have G2 := yg2 J
  have sz := ry_size J.1 G2.2.1
  have ids := yG_idx J
  have z400 : (400 : Int32).toInt = 400 := by decide
  have z15 : (15 : Int32).toInt = 15 := by decide
  have z9 : (9 : Int32).toInt = 9 := by decide
  have zM : (1000000 : Int32).toInt = 1000000 := by decide
  have no : (s.1.2.1 = 400 ∨ m < 0 ∨ 15 < m ∨ z < 1 ∨ 9 < z ∨ t < 0 ∨ ¬ t ≤ 1000000) → qz_ k (g 0) (g 10) (z_cut m z t s) (-1) σ := fun c => by
    rw [show z_cut m z t s = (0, -1, s) from if_pos c]
    exact ⟨rfl, rfl, yZ_of J hn hB'⟩
  refine ⟨yg0 J, g 2, G2.1, G2.2.1, G2.2.1, fun c => no (.inl ?_), fun c => ?_⟩
  · rw [ki_le, z400] at c
    rw [← ids.2.1]
    exact ki_eq.2 (by rw [z400]; omega)
  rw [ki_le, z400] at c
  refine rx_within (fun d => ⟨fun x => absurd rfl x, fun _ => no (.inr ?_)⟩) (fun c1 c2 => ⟨fun _ => ?_, fun x => absurd x (by decide)⟩)
  · rw [ki_z0, z15] at d
    rw [ki_lt, ki_z0, ki_lt, z15]
    by_cases q : m.toInt < 0
    · exact .inl q
    · exact .inr (.inl (by omega))
  rw [ki_z0] at c1
  rw [z15] at c2
  refine rx_within (fun d => ⟨fun _ => no (.inr (.inr (.inr ?_))), fun x => absurd rfl x⟩) (fun c3 c4 => ⟨fun x => absurd x (by decide), fun _ => ?_⟩)
  · rw [ki_z1, z9] at d
    rw [ki_lt (b := 1), ki_z1, ki_lt (b := z), z9]
    by_cases q : z.toInt < 1
    · exact .inl q
    · exact .inr (.inl (by omega))
  rw [ki_z1] at c3
  rw [z9] at c4
  refine rx_within (fun d => ⟨fun x => absurd rfl x, fun _ => no (.inr (.inr (.inr (.inr (.inr ?_)))))⟩) (fun c5 c6 => ⟨fun _ => ⟨ry_room J.1 hB3 hn2, fun p hp hz τ1 e1 => ?_⟩, fun x => absurd x (by decide)⟩)
  · rw [ki_z0, zM] at d
    rw [ki_lt, ki_z0, ki_le, zM]
    by_cases q : t.toInt < 0
    · exact .inl q
    · exact .inr (by omega)
  rw [ki_z0] at c5
  rw [zM] at c6
  have yes : z_cut m z t s = (0, s.1.2.1, ((s.1.1, s.1.2.1 + 1, s.1.2.2), s.2)) := by
    refine if_neg (fun h => ?_)
    rw [ki_lt, ki_lt, ki_lt, ki_lt, ki_lt, ki_le, ki_z0, z15, ki_z1, z9, zM] at h
    rcases h with h | h
    · have h' := congrArg Int32.toInt h
      rw [z400, ← ids.2.1] at h'
      omega
    · omega
  rw [yes]
  have I1 : yJ_ s g κ (B + 1) n τ1 := by rw [e1]; exact yI_new0 J hp hz (.inl rfl)
  have F1 : fg_ σ τ1 := by rw [e1]; exact fg_new hp
  have tp1 : xt τ1 p = 8 := by rw [e1]; exact va_up_self _ _ _
  have sz1 : xi τ1 18 (g 2) = s.1.2.1 := (yG_idx I1).2.1
  clear e1
  refine ⟨yg0 I1, g 2, (yg2 I1).1, (yg2 I1).2.1, (yg2 I1).2.1, tp1, fun a2 e2 a4 e4 a6 e6 a8 e8 a10 e10 a12 e12 a14 e14 a16 e16 => ?_⟩
  have I2 : yJ_ s g κ (B + 1) n a16 := by
    rw [e16, e14, e12, e10, e8, e6, e4, e2]
    exact yI_si (by decide) (yI_si (by decide) (yI_si (by decide) (yI_si (by decide) (yI_si (by decide) (yI_si (by decide) (yI_129 ⟨c1, c2⟩ (yI_si (by decide) I1)))))))
  have tp2 : xt a16 p = 8 := by rw [e16, e14, e12, e10, e8, e6, e4, e2]; exact tp1
  have nb : xi a16 128 p = xi τ1 18 (g 2) := by
    rw [e16, e14, e12, e10, e8, e6, e4, e2]
    exact va_up_self _ _ _
  clear e16 e14 e12 e10 e8 e6 e4 e2
  have ids2 := yG_idx I2
  have sc : (xi a16 18 (g 2)).toInt < 400 := by rw [ids2.2.1, ← ids.2.1]; omega
  refine ⟨yg0 I2, g 2, (yg2 I2).1, (yg2 I2).2.1, ?_⟩
  refine ry_add I2.1 hB4 hn2 (yg2 I2).2.1 (by rw [tp2, (yg2 I2).2.2]) (by unfold ylb; rw [if_pos rfl]; exact sc) (fun τ3 L3 A3 => ?_)
  have ne := yG_ne I2.2.2.1
  have q3 : xi τ3 18 (g 3) = xi a16 18 (g 3) := by rw [A3.2.2.2.1, va_up_ne _ _ (fun e => ne.2.2.2.2.1 e.symm)]
  have q4 : xi τ3 18 (g 4) = xi a16 18 (g 4) := by rw [A3.2.2.2.1, va_up_ne _ _ (fun e => ne.2.2.2.2.2.1 e.symm)]
  have q5 : xi τ3 18 (g 5) = xi a16 18 (g 5) := by rw [A3.2.2.2.1, va_up_ne _ _ (fun e => ne.2.2.2.2.2.2.1 e.symm)]
  have q2 : xi τ3 18 (g 2) = xi a16 18 (g 2) + 1 := by rw [A3.2.2.2.1, va_up_self]
  have SS := I2.2.2.2.2.2.2.2
  have S3 := yS_add I2 A3 (fun e => ne.1 e.symm) (by rw [q3]; exact SS.2.1) (by rw [q4]; exact SS.2.2.1) (by rw [q5]; exact SS.2.2.2)
  have I3 := yI_tr2 I2 L3 A3 S3 (yK9_same I2 A3 (by rw [(yg2 I2).2.2]; decide))
  rw [q2, q4, q5, ids2.2.1, ids2.2.2.1, ids2.2.2.2.1] at I3
  refine ⟨by rw [fg_tag A3.1 tp2 (by decide)], rfl, ?_, yZ_of I3 hn hB1⟩
  rw [A3.2.2.1 128 (by decide) (by decide), nb, sz1]
theorem rx_newCrew {k : Nat} {s : sz_T} {g κ : Nat → Nat} {B n : Nat} {σ : kx_S} {R : Nat} {Q : Int32 → kx_S → Prop} (J : yJ_ s g κ B n σ) (hB4 : B + 1 ≤ 3000) (hn2 : n ≤ 200) (hR : xt σ R = 10) (k0 : s.1.2.2.1 = 6 → Q (-1) σ) (k1 : s.1.2.2.1 ≠ 6 → ∀ τ, yJ_ ((s.1.1, s.1.2.1, s.1.2.2.1 + 1, s.1.2.2.2), s.2) g κ (B + 1) n τ → Q s.1.2.2.1 τ) : wX11_newCrew (g 0) R σ Q := by
  have G4 := yg4 J
  have sz := ry_size J.1 G4.2.1
  have ids := yG_idx J
  have z6 : (6 : Int32).toInt = 6 := by decide
  have b6 := J.2.2.2.2.2.2.2.2.2.1
  refine ⟨yg0 J, g 4, G4.1, G4.2.1, G4.2.1, fun c => ⟨yg0 J, g 4, G4.1, ry_room J.1 (by omega) hn2, fun p hp hz τ1 e1 => ?_⟩, fun c => k0 ?_⟩
  · rw [ki_lt, z6] at c
    have ne6 : s.1.2.2.1 ≠ 6 := fun x => by rw [← ids.2.2.1] at x; have := congrArg Int32.toInt x; rw [z6] at this; omega
    have I1 : yI_ s (fun a => False ∨ a = p) g κ (B + 1) n τ1 := by rw [e1]; exact yI_new J hp hz (by decide)
    have F1 : fg_ σ τ1 := by rw [e1]; exact fg_new hp
    have tp1 : xt τ1 p = 4 := by rw [e1]; exact va_up_self _ _ _
    have p0 : p ≠ g 0 := fun e => by have := yg0 J; rw [← e, hp] at this; omega
    clear e1
    refine ⟨yg0 I1, tp1, fun τ2 e2 τ3 e3 => ?_⟩
    have I2' : yI_ s (fun a => False ∨ a = p) g κ (B + 1) n τ3 := by rw [e3, e2]; exact yI_si (by decide) (yI_srE I1 (.inr rfl) (by decide) (by decide) p0)
    have tp3 : xt τ3 p = 4 := by rw [e3, e2]; exact tp1
    have tR3 : xt τ3 R = 10 := by rw [e3, e2]; show xt τ1 R = 10; exact fg_tag F1 hR (by decide)
    have r3 : xr τ3 64 p = some R := by rw [e3, e2]; exact va_up_self _ _ _
    clear e3 e2
    have I2 : yJ_ s g κ (B + 1) n τ3 := ⟨I2'.1, yP_add I2'.2.1 tp3 (fun q => absurd q (by decide)) (fun q => absurd q (by decide)) (fun _ => ⟨R, r3, tR3⟩) (fun q => absurd q (by decide)) (fun q => absurd q (by decide)) (by decide), I2'.2.2⟩
    clear I2'
    have ids2 := yG_idx I2
    have sc : (xi τ3 18 (g 4)).toInt < 6 := by rw [ids2.2.2.1, ← ids.2.2.1]; exact c
    have ne := yG_ne I2.2.2.1
    have inc := ki_inc (a := xi τ3 18 (g 4)) (by have := ry_size I2.1 (yg4 I2).2.1; omega) (by omega)
    refine ⟨(yg4 I2).2.1, ?_⟩
    refine ry_add I2.1 hB4 hn2 (yg4 I2).2.1 (by rw [tp3, (yg4 I2).2.2]) (by unfold ylb; rw [if_neg (fun e => ne.2.2.2.2.2.1 e.symm)]; omega) (fun τ4 L4 A4 => ?_)
    have q2 : xi τ4 18 (g 2) = xi τ3 18 (g 2) := by rw [A4.2.2.2.1, va_up_ne _ _ ne.2.2.2.2.2.1]
    have q3 : xi τ4 18 (g 3) = xi τ3 18 (g 3) := by rw [A4.2.2.2.1, va_up_ne _ _ ne.2.2.2.2.2.2.2.1]
    have q5 : xi τ4 18 (g 5) = xi τ3 18 (g 5) := by rw [A4.2.2.2.1, va_up_ne _ _ (fun e => ne.2.2.2.2.2.2.2.2.2 e.symm)]
    have q4 : xi τ4 18 (g 4) = xi τ3 18 (g 4) + 1 := by rw [A4.2.2.2.1, va_up_self]
    have SS := I2.2.2.2.2.2.2.2
    have S4 := yS_add I2 A4 (fun e => ne.2.2.1 e.symm) (by rw [q3]; exact SS.2.1) (by rw [q4, inc]; omega) (by rw [q5]; exact SS.2.2.2)
    have I4 := yI_tr2 I2 L4 A4 S4 (yK9_same I2 A4 (by rw [(yg4 I2).2.2]; decide))
    have gG := yg4 I4
    have eq4 : xi τ4 18 (g 4) - 1 = s.1.2.2.1 := by
      rw [q4, ← ids2.2.2.1]
      refine ki_eq.2 ?_
      have sz3 := (ry_size I2.1 (yg4 I2).2.1).1
      rw [ki_dec2 (by rw [inc]; omega), inc]
      omega
    rw [q2, q4, q5, ids2.2.1, ids2.2.2.1, ids2.2.2.2.1] at I4
    refine ⟨yg0 I4, g 4, gG.1, gG.2.1, gG.2.1, ?_⟩
    show Q (xi τ4 18 (g 4) - 1) τ4
    rw [eq4]
    exact k1 ne6 τ4 I4
  · rw [ki_lt, z6] at c
    rw [← ids.2.2.1]
    exact ki_eq.2 (by rw [z6]; omega)
theorem yI_64 {s : sz_T} {g κ : Nat → Nat} {B n : Nat} {σ : kx_S} {c R : Nat} (J : yJ_ s g κ B n σ) (hc : xt σ c = 4) (hR : xt σ R = 10) : yJ_ s g κ B n (xsr σ 64 c (some R)) := by
  refine ⟨J.1, fun a ha => ?_, J.2.2.1, J.2.2.2.1, J.2.2.2.2⟩
  obtain ⟨p2, p3, p4, p5, p6, p7, p10, p11, p12⟩ := J.2.1 a ha
  refine ⟨p2, p3, fun e => ?_, p5, p6, p7, p10, p11, p12⟩
  show ∃ h, va_up (xr σ 64) c (some R) a = some h ∧ xt σ h = 10
  by_cases q : a = c
  · rw [q, va_up_self]; exact ⟨R, rfl, hR⟩
  · rw [va_up_ne _ _ q]; exact p4 e
theorem rx_crew {k : Nat} {s : sz_T} {L O : Nat} {σ : kx_S} {c r : Int32} (hk : k < 600) (Z : yZ_ k s L O σ) : wX11_crew L c r σ (qz_ k L O (z_crew c r s)) (qe_ k L O pz_N (z_crew c r s)) := by
  obtain ⟨g, κ, B, n, eg, eO, J, hn, hB⟩ := Z
  subst eg
  subst eO
  have b := yB_ J hk hn hB
  have hB' : B ≤ 15 + 26 * s.1.1.toNatClampNeg + 3 * (k + 1) := by omega
  have hB1 : B + 1 ≤ 15 + 26 * s.1.1.toNatClampNeg + 3 * (k + 1) := by omega
  have hB3 : B ≤ 3000 := by omega
  have hB4 : B + 1 ≤ 3000 := by omega
  have hn2 : n ≤ 200 := by omega
  have G4 := yg4 J
  have sz := ry_size J.1 G4.2.1
  have ids := yG_idx J
  refine ⟨yg0 J, ?_⟩
  refine rx_reachAt J hB3 hn2 (fun hz R eR tR => ?_) (fun hz => ?_)
  · unfold z_crew
    rw [if_pos hz]
    refine ⟨fun d => ?_, fun d => ⟨yg0 J, ?_⟩⟩
    · rw [if_neg d]
      obtain ⟨u, eu, dd⟩ := ki_dec2E (a := xi σ 18 (g 4)) (by omega)
      have d' : c.toInt ≠ -1 := fun x => d (ki_eq.2 (x.trans ki_zm.symm))
      refine ⟨yg0 J, g 4, G4.1, G4.2.1, G4.2.1, ?_⟩
      show wX11_isWithin _ _ (xi σ 18 (g 4) - 1) _ _
      rw [← eu]
      refine rx_within (fun q => ⟨fun x => absurd rfl x, fun _ => ?_⟩) (fun c1 c2 => ⟨fun _ => ⟨yg0 J, g 4, G4.1, G4.2.1, ?_⟩, fun x => absurd x (by decide)⟩)
      · rw [ki_z0] at q
        rw [if_pos (by rw [ki_lt, ki_zm, ki_le, ← ids.2.2.1]; omega)]
        exact ⟨rfl, rfl, yZ_of J hn hB'⟩
      · rw [ki_z0] at c1
        have hc : c.toInt < (xi σ 18 (g 4)).toInt := by omega
        rw [if_neg (by rw [ki_lt, ki_zm, ki_le, ← ids.2.2.1]; omega)]
        refine ry_get J.1 G4.2.1 c1 hc (fun C _ tC => ?_)
        rw [G4.2.2] at tC
        obtain ⟨h, h1, h2⟩ := yp4 J tC
        refine ⟨C, rfl, tC, h, h1, h2, fun _ => ⟨rfl, rfl, yZ_of J hn hB'⟩, fun _ => ⟨yg0 J, tC, fun τ2 e2 τ4 e4 => ?_⟩⟩
        rw [e4, e2]
        exact ⟨rfl, rfl, yZ_of (yI_si (by decide) (yI_64 J tC tR)) hn hB'⟩
    · rw [if_pos d]
      refine rx_newCrew (k := k) J hB4 hn2 tR (fun e6 => ?_) (fun e6 τ Jn => ?_)
      · rw [if_pos e6]
        exact ⟨rfl, rfl, yZ_of J hn hB'⟩
      · rw [if_neg e6]
        exact ⟨rfl, rfl, yZ_of Jn hn hB1⟩
  · unfold z_crew
    rw [if_neg hz]
    exact ⟨rfl, rfl, yZ_bump J hn hB⟩
