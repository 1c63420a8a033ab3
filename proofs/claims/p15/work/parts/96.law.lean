theorem rx_copyOf {s : sz_T} {E : Nat → Prop} {g κ : Nat → Nat} {B n : Nat} {σ : kx_S} {h : Nat} {v : Int32} {Q : Nat → kx_S → Prop} (I : yI_ s E g κ B n σ) (hB : B ≤ 3000) (hn : n ≤ 200) (th : xt σ h = 20) (nh : xn σ h = 500) (hv : 0 ≤ v.toInt ∧ v.toInt ≤ 500) (kk : ∀ p τ, yI_ s E g κ (B + 1) n τ → fg_ σ τ → xt τ p = 20 → xn τ p ≤ 500 → (∀ f a, xi τ f a = xi σ f a) → Q p τ) : wJ7_copyOf_59c91 h v σ Q := by
  have e500 : (nI (xn σ h)).toInt = 500 := by rw [nh]; decide
  have room := ry_room I.1 hB hn
  refine ⟨th, fun c => ⟨room, by rw [ki_lt, ki_z0]; omega, by rw [ki_nat]; omega, fun p hp hz τ1 e1 => ?_⟩, fun c => ⟨room, by rw [nh]; decide, fun p hp hz τ1 e1 => ?_⟩⟩
  · have I1 : yI_ s E g κ (B + 1) n τ1 := by rw [e1]; exact yI_newA I hp hz (.inl rfl)
    have F1 : fg_ σ τ1 := by rw [e1]; exact fg_newA hp
    have tp1 : xt τ1 p = 20 := by rw [e1]; exact va_up_self _ _ _
    have np1 : xn τ1 p = v.toNatClampNeg := by rw [e1]; exact va_up_self _ _ _
    have i1 : ∀ f a, xi τ1 f a = xi σ f a := fun f a => by rw [e1]; rfl
    have nh1 : xn τ1 h = 500 := (F1.2.2.1 h (by rw [th]; decide)).trans nh
    have e5001 : (nI (xn τ1 h)).toInt = 500 := by rw [nh1]; decide
    clear e1
    have z0 : Int32.toNatClampNeg 0 = 0 := by decide
    refine ⟨fg_tag F1 th (by decide), fun w ew => ?_⟩
    have hw : w = v := by
      rw [ew]
      by_cases q : v < nI (xn τ1 h)
      · rw [if_pos q]
      · rw [if_neg q]
        rw [ki_lt, e5001] at q
        exact ki_eq.2 (by rw [e5001]; omega)
    rw [hw, z0]
    refine ⟨by decide, by decide, by rw [ki_lt, ki_z0]; omega, by rw [nh1, ki_nat]; omega, by rw [np1]; omega, fun τ2 e2 => ?_⟩
    rw [e2]
    exact kk p _ I1 F1 tp1 (by show xn τ1 p ≤ 500; rw [np1, ki_nat]; omega) i1
  · rw [e1]
    refine kk p _ (yI_newA (m := xn σ h) I hp hz (.inl rfl)) (fg_newA (m := xn σ h) (t := 20) hp) (va_up_self _ _ _) ?_ (fun _ _ => rfl)
    show va_up (xn σ) p (xn σ h) p ≤ 500
    rw [va_up_self, nh]
    decide
abbrev qy_ (k L O : Nat) (z : Int32 × sz_T) : Int32 → kx_S → Prop := fun _ σ => z.1 = 0 ∧ yZ_ (k + 1) z.2 L O σ
abbrev qx_ (k L O : Nat) (z : Int32 × sz_T) : String → kx_S → Prop := fun e σ => e = pz_I ∧ z.1 = 1 ∧ yZ_ (k + 1) z.2 L O σ
theorem rx_law {k : Nat} {s : sz_T} {L O : Nat} {σ : kx_S} {m d : Int32} (hk : k < 600) (Z : yZ_ k s L O σ) : wX11_law L m d σ (qy_ k L O (z_law m d s)) (qx_ k L O (z_law m d s)) := by
  obtain ⟨g, κ, B, n, eg, eO, J, hn, hB⟩ := Z
  subst eg
  subst eO
  have b := yB_ J hk hn hB
  have hB' : B ≤ 15 + 26 * s.1.1.toNatClampNeg + 3 * (k + 1) := by omega
  have hB2 : B + 1 + 1 ≤ 15 + 26 * s.1.1.toNatClampNeg + 3 * (k + 1) := by omega
  have hB3 : B ≤ 3000 := by omega
  have hB4 : B + 1 ≤ 3000 := by omega
  have hB5 : B + 1 + 1 ≤ 3000 := by omega
  have hn2 : n ≤ 200 := by omega
  have G6 := yg6 J
  have ids := yG_idx J
  have room := ry_room J.1 hB3 hn2
  have z1000 : (1000 : Int32).toInt = 1000 := by decide
  have z6 : (6 : Int32).toInt = 6 := by decide
  have no : (m < 0 ∨ s.1.2.2.2.2.1 < m ∨ d < 0 ∨ ¬ d ≤ 1000) → wX11_law_26 (qy_ k (g 0) (g 10) (z_law m d s)) (qx_ k (g 0) (g 10) (z_law m d s)) σ := fun c => by
    refine ⟨room, rfl, ?_⟩
    rw [show z_law m d s = (1, s) from if_pos c]
    exact ⟨rfl, yZ_bump J hn hB⟩
  refine ⟨yg0 J, g 6, G6.1, G6.2, ?_⟩
  rw [ids.2.2.2.2.1]
  refine rx_within (fun c => ⟨fun _ => no ?_, fun x => absurd rfl x⟩) (fun c1 c2 => ⟨fun x => absurd x (by decide), fun _ => ?_⟩)
  · rw [ki_z0] at c
    rw [ki_lt, ki_z0, ki_lt]
    by_cases q : m.toInt < 0
    · exact .inl q
    · exact .inr (.inl (by omega))
  rw [ki_z0] at c1
  refine rx_within (fun c => ⟨fun x => absurd rfl x, fun _ => no (.inr (.inr ?_))⟩) (fun c3 c4 => ⟨fun _ => ⟨yg0 J, g 6, G6.1, G6.2, fun τ1 e1 τ2 e2 => ?_⟩, fun x => absurd x (by decide)⟩)
  · rw [ki_z0, z1000] at c
    rw [ki_lt, ki_z0, ki_le, z1000]
    by_cases q : d.toInt < 0
    · exact .inl q
    · exact .inr (by omega)
  rw [ki_z0] at c3
  rw [z1000] at c4
  have hz : z_law m d s = (0, zt_ s 0) := by
    refine if_neg (fun h => ?_)
    rw [ki_lt, ki_lt, ki_lt, ki_le, ki_z0, z1000] at h
    omega
  rw [hz]
  have J2 : yJ_ (zt_ s 0) g κ B n τ2 := by rw [e2, e1]; exact yI_si (by decide) (yI_177 (by decide) J)
  clear e1 e2 no hz
  have G3 := yg3 J2
  refine ⟨g 3, G3.1, G3.2.1, G3.2.1, fun c => ⟨yg0 J2, g 7, (yg7 J2).1, (yg7 J2).2, ?_⟩, fun _ => ⟨rfl, yZ_of J2 hn hB'⟩⟩
  rw [ki_lt, z6] at c
  refine rx_readText J2 (yg7 J2).2 (fun τ3 K3 => ?_)
  have J3 := K3.1
  have c' : (xi τ3 18 (g 3)).toInt < 6 := by rw [K3.2.2]; exact c
  clear K3 c J2 G3
  refine ⟨yg0 J3, g 7, (yg7 J3).1, (yg7 J3).2, fun _ => ⟨g 3, (yg3 J3).1, ry_room J3.1 hB3 hn2, fun p hp hpz τ4 e4 => ?_⟩, fun _ => ⟨g 7, (yg7 J3).1, (yg7 J3).2, fun τ4 e4 => ?_⟩⟩
  rotate_left
  · have J4 : yJ_ (zt_ s 0) g κ B n τ4 := by rw [e4]; exact yI_si (by decide) J3
    exact ⟨g 7, (yg7 J4).1, (yg7 J4).2, rfl, yZ_of J4 hn hB'⟩
  have p0 : p ≠ g 0 := fun e => by have := yg0 J3; rw [← e, hp] at this; omega
  have I4 : yI_ (zt_ s 0) (fun a => False ∨ a = p) g κ (B + 1) n τ4 := by rw [e4]; exact yI_new J3 hp hpz (by decide)
  have F4 : fg_ τ3 τ4 := by rw [e4]; exact fg_new hp
  have tp4 : xt τ4 p = 6 := by rw [e4]; exact va_up_self _ _ _
  have s4 : xi τ4 18 (g 3) = xi τ3 18 (g 3) := by rw [e4]; exact va_up_ne _ _ (fun e => by have := (yg3 J3).2.1; rw [e, hp] at this; omega)
  clear e4
  obtain ⟨_, h, h1, h2, h3⟩ := yp7 J3 (yg7 J3).2
  have h1' : xr τ4 113 (g 7) = some h := fg_ref F4 (yg7 J3).2 (by decide) (by decide) h1
  have h2' := fg_tag F4 h2 (by decide)
  have h3' : xn τ4 h = 500 := (F4.2.2.1 h (by rw [h2]; decide)).trans h3
  have h4 := (I4.2.2.2.1 (g 7)).2.2.2.1 (yg7 I4).2
  refine ⟨yg0 I4, g 7, (yg7 I4).1, (yg7 I4).2, h, h1', g 7, (yg7 I4).1, (yg7 I4).2, ?_⟩
  refine rx_copyOf I4 hB4 hn2 h2' h3' h4 (fun q τ5 I5 F5 tq5 nq5 i5 => ?_)
  have tp5 := fg_tag F5 tp4 (by decide)
  refine ⟨tp5, fun τ6 e6 τ7 e7 => ?_⟩
  have I7' : yI_ (zt_ s 0) (fun a => False ∨ a = p) g κ (B + 1 + 1) n τ7 := by rw [e7, e6]; exact yI_srE (yI_si (by decide) I5) (.inr rfl) (by decide) (by decide) p0
  have tp7 : xt τ7 p = 6 := by rw [e7, e6]; exact tp5
  have tq7 : xt τ7 q = 20 := by rw [e7, e6]; exact tq5
  have nq7 : xn τ7 q ≤ 500 := by rw [e7, e6]; exact nq5
  have r7 : xr τ7 97 p = some q := by rw [e7, e6]; exact va_up_self _ _ _
  have s7 : xi τ7 18 (g 3) = xi τ3 18 (g 3) := by
    rw [e7, e6]
    show xi τ5 18 (g 3) = _
    rw [i5, s4]
  clear e7 e6
  have I7 : yJ_ (zt_ s 0) g κ (B + 1 + 1) n τ7 := ⟨I7'.1, yP_add I7'.2.1 tp7 (fun x => absurd x (by decide)) (fun x => absurd x (by decide)) (fun x => absurd x (by decide)) (fun _ => ⟨q, r7, tq7, nq7⟩) (fun x => absurd x (by decide)) (by decide), I7'.2.2⟩
  clear I7'
  rw [← s7] at c'
  have G3 := yg3 I7
  have ne := yG_ne I7.2.2.1
  have sz := ry_size I7.1 G3.2.1
  have inc := ki_inc (a := xi τ7 18 (g 3)) (by omega) (by omega)
  have bl : (xi τ7 18 (g 3)).toInt < (ylb g (g 3) : Int) := by
    have : ylb g (g 3) ≥ 100 := by unfold ylb; split <;> omega
    omega
  refine ⟨G3.2.1, ?_⟩
  refine ry_add I7.1 hB5 hn2 G3.2.1 (by rw [tp7, G3.2.2]) bl (fun τ8 L8 A8 => ?_)
  have q2 : xi τ8 18 (g 2) = xi τ7 18 (g 2) := by rw [A8.2.2.2.1, va_up_ne _ _ ne.2.2.2.2.1]
  have q4 : xi τ8 18 (g 4) = xi τ7 18 (g 4) := by rw [A8.2.2.2.1, va_up_ne _ _ (fun e => ne.2.2.2.2.2.2.2.1 e.symm)]
  have q5 : xi τ8 18 (g 5) = xi τ7 18 (g 5) := by rw [A8.2.2.2.1, va_up_ne _ _ (fun e => ne.2.2.2.2.2.2.2.2.1 e.symm)]
  have q3 : xi τ8 18 (g 3) = xi τ7 18 (g 3) + 1 := by rw [A8.2.2.2.1, va_up_self]
  have SS := I7.2.2.2.2.2.2.2
  have ids7 := yG_idx I7
  have S8 := yS_add I7 A8 (fun e => ne.2.1 e.symm) (by rw [q3, inc]; omega) (by rw [q4]; exact SS.2.2.1) (by rw [q5]; exact SS.2.2.2)
  have I8 := yI_tr2 I7 L8 A8 S8 (yK9_same I7 A8 (by rw [G3.2.2]; decide))
  rw [q2, q4, q5, ids7.2.1, ids7.2.2.1, ids7.2.2.2.1] at I8
  exact ⟨yg0 I8, g 3, (yg3 I8).1, (yg3 I8).2.1, (yg3 I8).2.1, rfl, yZ_of I8 hn hB2⟩
