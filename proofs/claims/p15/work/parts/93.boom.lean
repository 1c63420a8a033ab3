theorem fg_srN {σ τ : kx_S} {f p : Nat} {v : Option Nat} (F : fg_ σ τ) (hp : xt σ p = 0) : fg_ σ (xsr τ f p v) := by
  refine ⟨F.1, fun k a hk ha => ?_, F.2.2.1, F.2.2.2⟩
  have ne : a ≠ p := fun e => ha (by rw [e]; exact hp)
  exact (xup_ne τ.2.2.1 ne).trans (F.2.1 k a hk ha)
theorem fg_siN {σ τ : kx_S} {f p : Nat} {v : Int32} (F : fg_ σ τ) : fg_ σ (xsi τ f p v) := F
theorem rx_newList {s : sz_T} {E : Nat → Prop} {g κ : Nat → Nat} {B n : Nat} {σ : kx_S} {p t : Nat} {Q : kx_S → Prop} (I : yI_ s E g κ B n σ) (hp : xt σ p = 0) (ht : kx_el t) (kk : ∀ τ, yI_ s E g (va_up κ p t) (B + 1) (n + 1) τ → fg_ σ τ → xt τ p = 1 → xi τ 18 p = 0 → (∀ f a, a ≠ p → xi τ f a = xi σ f a) → (∀ a, xt τ a = va_up (xt σ) p 1 a) → (∀ i, xe τ (g 1) i = xe σ (g 1) i) → Q τ) : ∀ σ5, σ5 = xnew σ p 1 → wJx4a65c_init_da8c8 p σ5 Q := by
  intro σ5 e5
  subst e5
  refine ⟨va_up_self _ _ _, fun τ3 e3 => ⟨by rw [e3]; exact va_up_self _ _ _, fun τ e => ?_⟩⟩
  have e' : τ = xsr (xsi (xnew σ p 1) 16 p 0) 17 p (some (xz σ)) := by rw [e, e3]; rfl
  obtain ⟨a, b, c, d⟩ := yI_newL I hp ht e'
  refine kk τ a b c d (fun f x hx => ?_) (fun x => by rw [e']; rfl) (fun i => ?_)
  · rw [e']
    show (if f = 16 then va_up (va_up (xi σ 16) p 0) p 0 else va_up (xi σ f) p 0) x = _
    by_cases q : f = 16
    · rw [if_pos q, va_up_ne _ _ hx, va_up_ne _ _ hx, q]
    · rw [if_neg q, va_up_ne _ _ hx]
  · have ng : g 1 ≠ p := fun q => by have := (yg1 I).2.1; rw [q, hp] at this; omega
    have : xr τ 17 (g 1) = xr σ 17 (g 1) := by
      rw [e']
      show va_up (va_up (xr σ 17) p none) p (some (xz σ)) (g 1) = _
      rw [va_up_ne _ _ ng, va_up_ne _ _ ng]
    unfold xe
    rw [this, e']
    rfl
/-- a reach has a boom -/
theorem yI_boom {s : sz_T} {g κ : Nat → Nat} {B n : Nat} {σ : kx_S} {r R : Nat} (J : yJ_ s g κ B n σ) (hr : (r : Int) < s.1.1.toInt) (e : xe σ (g 1) r = some R) (hb : xr σ 172 R ≠ none) : yJ_ (s.1, s.2.1, s.2.2.1, s.2.2.2.1, s.2.2.2.2.1, upd s.2.2.2.2.2 r 1) g κ B n σ := by
  have S := J.2.2.2.2
  have e1 : xi σ 18 (g 1) = s.1.1 := congrArg (fun p => p.1) S.1
  refine ⟨J.1, J.2.1, J.2.2.1, J.2.2.2.1, S.1, fun q hq => ?_, fun q hq => ?_, S.2.2.2⟩
  · obtain ⟨R2, oe, o1, o2, o3, o4, o5, o6⟩ := S.2.1 q hq
    refine ⟨R2, oe, o1, o2, o3, o4, o5, ?_⟩
    show xr σ 172 R2 = none ↔ upd s.2.2.2.2.2 r 1 q = 0
    by_cases c : q = r
    · rw [c] at oe
      rw [e] at oe
      rw [← Option.some.inj oe, c, ku_self]
      exact ⟨fun x => absurd x hb, fun x => absurd x (by decide)⟩
    · rw [ku_ne c]; exact o6
  · obtain ⟨z1, z2, z3, z4, z5⟩ := S.2.2.1 q hq
    have hq' : s.1.1.toInt ≤ (q : Int) := by rw [← e1]; exact hq
    exact ⟨z1, z2, z3, z4, by show upd s.2.2.2.2.2 r 1 q = 0; rw [ku_ne (by omega)]; exact z5⟩
theorem yI_172 {s : sz_T} {g κ : Nat → Nat} {B n : Nat} {σ : kx_S} {r R p : Nat} (J : yJ_ s g κ B n σ) (hr : (r : Int) < s.1.1.toInt) (e : xe σ (g 1) r = some R) (hp : xt σ p = 2) : yJ_ (s.1, s.2.1, s.2.2.1, s.2.2.2.1, s.2.2.2.2.1, upd s.2.2.2.2.2 r 1) g κ B n (xsr σ 172 R (some p)) := by
  have S := J.2.2.2.2
  have e1 : xi σ 18 (g 1) = s.1.1 := congrArg (fun p => p.1) S.1
  have o0 := yS_at S hr e
  refine ⟨J.1, fun a ha => ?_, J.2.2.1, J.2.2.2.1, S.1, fun q hq => ?_, fun q hq => ?_, S.2.2.2⟩
  · obtain ⟨p2, p3, p4, p5, p6, p7, p10, p11, p12⟩ := J.2.1 a ha
    refine ⟨p2, p3, p4, p5, p6, p7, fun t => ⟨(p10 t).1, (p10 t).2.1, ?_⟩, p11, p12⟩
    show va_up (xr σ 172) R (some p) a = none ∨ ∃ h, va_up (xr σ 172) R (some p) a = some h ∧ xt σ h = 2
    by_cases c : a = R
    · rw [c, va_up_self]; exact .inr ⟨p, rfl, hp⟩
    · rw [va_up_ne _ _ c]; exact (p10 t).2.2
  · obtain ⟨R2, oe, o1, o2, o3, o4, o5, o6⟩ := S.2.1 q hq
    refine ⟨R2, oe, o1, o2, o3, o4, o5, ?_⟩
    show va_up (xr σ 172) R (some p) R2 = none ↔ upd s.2.2.2.2.2 r 1 q = 0
    by_cases c : q = r
    · rw [c] at oe
      rw [e] at oe
      rw [← Option.some.inj oe, c, ku_self, va_up_self]
      exact ⟨fun x => (by cases x), fun x => absurd x (by decide)⟩
    · have ne : R2 ≠ R := fun x => by
        have t := o0.1
        rw [← x] at t
        omega
      rw [ku_ne c, va_up_ne _ _ ne]; exact o6
  · obtain ⟨z1, z2, z3, z4, z5⟩ := S.2.2.1 q hq
    have hq' : s.1.1.toInt ≤ (q : Int) := by rw [← e1]; exact hq
    exact ⟨z1, z2, z3, z4, by show upd s.2.2.2.2.2 r 1 q = 0; rw [ku_ne (by omega)]; exact z5⟩
theorem rx_boom39 {k : Nat} {s : sz_T} {g κ : Nat → Nat} {B n : Nat} {σ : kx_S} {R a : Nat} {m w : Int32} {QX : String → kx_S → Prop} (J : yJ_ s g κ B n σ) (hn : n ≤ 5 + 13 * s.1.1.toNatClampNeg + 2 * yc_ s.2.2.2.2.2 10) (hB : B ≤ 15 + 26 * s.1.1.toNatClampNeg + 3 * (k + 1)) (hR : xt σ R = 10) (ea : xr σ 172 R = some a) (ta : xt σ a = 2) (hw : w.toInt ≤ 100) : wX11_boom_39 (qz_ k (g 0) (g 10) (0, 1, s)) QX m w R σ := by
  refine ⟨hR, a, ea, ta, fun τ1 e1 => ⟨a, by rw [e1]; exact ea, by rw [e1]; exact ta, fun τ2 e2 => ⟨rfl, rfl, ?_⟩⟩⟩
  rw [e2, e1]
  exact yZ_of (yI_35 hw (yI_si (by decide) J)) hn hB
theorem rx_boom {k : Nat} {s : sz_T} {L O : Nat} {σ : kx_S} {r m w : Int32} (hk : k < 600) (Z : yZ_ k s L O σ) : wX11_boom L r m w σ (qz_ k L O (z_boom r w s)) (qe_ k L O pz_N (z_boom r w s)) := by
  obtain ⟨g, κ, B, n, eg, eO, J, hn, hB⟩ := Z
  subst eg
  subst eO
  have b := yB_ J hk hn hB
  have hB' : B ≤ 15 + 26 * s.1.1.toNatClampNeg + 3 * (k + 1) := by omega
  have hB3 : B ≤ 3000 := by omega
  have hn2 : n ≤ 200 := by omega
  have ids := yG_idx J
  have z100 : (100 : Int32).toInt = 100 := by decide
  refine ⟨yg0 J, ?_⟩
  refine rx_reachAt J hB3 hn2 (fun hz R eR tR => ?_) (fun hz => ?_)
  rotate_left
  · unfold z_boom
    rw [if_neg hz]
    exact ⟨rfl, rfl, yZ_bump J hn hB⟩
  have hr : ((r.toNatClampNeg : Nat) : Int) < s.1.1.toInt := by rw [ki_nat]; have := hz.1; have := hz.2; omega
  have r10 : r.toNatClampNeg < 10 := by
    have := J.2.2.2.2.2.2.2.1
    rw [ids.1] at this
    omega
  have o := yS_at J.2.2.2.2 hr eR
  unfold z_boom
  rw [if_pos hz]
  refine rx_within (fun d => ⟨fun x => absurd rfl x, fun _ => ?_⟩) (fun c1 c2 => ⟨fun _ => ⟨tR, fun a ea => ?_, fun en => ⟨ry_room J.1 hB3 hn2, fun p hp hpz τ1 e1 => ?_⟩⟩, fun x => absurd x (by decide)⟩)
  · rw [ki_z1, z100] at d
    rw [if_pos (by rw [ki_lt, ki_le, ki_z1, z100]; omega)]
    exact ⟨rfl, rfl, yZ_of J hn hB'⟩
  · rw [ki_z1] at c1
    rw [z100] at c2
    rw [if_neg (by rw [ki_lt, ki_le, ki_z1, z100]; omega)]
    have ta : xt σ a = 2 := by
      rcases (yp10 J tR).2.2 with h | ⟨h, h1, h2⟩
      · rw [ea] at h; cases h
      · rw [ea] at h1; rw [Option.some.inj h1]; exact h2
    have nb0 : s.2.2.2.2.2 r.toNatClampNeg ≠ 0 := fun x => by have := o.2.2.2.2.2.2 x; rw [ea] at this; cases this
    have J2 := yI_boom J hr eR (by rw [ea]; exact fun x => by cases x)
    have ey : yc_ (upd s.2.2.2.2.2 r.toNatClampNeg 1) 10 = yc_ s.2.2.2.2.2 10 := yc_eq 10 (fun q _ => by
      by_cases c : q = r.toNatClampNeg
      · rw [c, ku_self]; exact ⟨fun x => absurd x (by decide), fun x => absurd x nb0⟩
      · rw [ku_ne c])
    exact rx_boom39 J2 (by show n ≤ 5 + 13 * s.1.1.toNatClampNeg + 2 * yc_ (upd s.2.2.2.2.2 r.toNatClampNeg 1) 10; rw [ey]; exact hn) hB' tR ea ta c2
  · rw [ki_z1] at c1
    rw [z100] at c2
    rw [if_neg (by rw [ki_lt, ki_le, ki_z1, z100]; omega)]
    have b0 : s.2.2.2.2.2 r.toNatClampNeg = 0 := o.2.2.2.2.2.1 en
    have ey : yc_ (upd s.2.2.2.2.2 r.toNatClampNeg 1) 10 = yc_ s.2.2.2.2.2 10 + 1 := yc_up b0 (by decide) 10 r10
    have hp0 : p ≠ g 0 := fun e => by have := yg0 J; rw [← e, hp] at this; omega
    have I1 : yI_ s (fun a => False ∨ a = p) g κ (B + 1) n τ1 := by rw [e1]; exact yI_new J hp hpz (by decide)
    have F1 : fg_ σ τ1 := by rw [e1]; exact fg_new hp
    have tp1 : xt τ1 p = 2 := by rw [e1]; exact va_up_self _ _ _
    have x1 : ∀ i, xe τ1 (g 1) i = xe σ (g 1) i := fun i => by
      have ng : g 1 ≠ p := fun q => by have := (yg1 J).2.1; rw [q, hp] at this; omega
      unfold xe
      have : xr τ1 17 (g 1) = xr σ 17 (g 1) := by rw [e1]; exact va_up_ne _ _ ng
      rw [this, e1]
      rfl
    clear e1
    refine ⟨ry_room I1.1 (by omega) hn2, fun q hq hqz => ?_⟩
    refine rx_newList (t := 8) I1 hq (.inr (.inr (.inr (.inl rfl)))) (fun τ2 I2 F2 tq2 _ _ _ x2 => ?_)
    have tp2 := fg_tag F2 tp1 (by decide)
    refine ⟨tp2, fun τ3 e3 => ?_⟩
    have I3 : yI_ s (fun a => False ∨ a = p) g (va_up κ q 8) (B + 1 + 1) (n + 1) τ3 := by rw [e3]; exact yI_srE I2 (.inr rfl) (by decide) (by decide) hp0
    have tp3 : xt τ3 p = 2 := by rw [e3]; exact tp2
    have tq3 : xt τ3 q = 1 := by rw [e3]; exact tq2
    have r3 : xr τ3 32 p = some q := by rw [e3]; exact va_up_self _ _ _
    have F3 : fg_ σ τ3 := by rw [e3]; exact fg_srN (fg_trans F1 F2) hp
    have x3 : ∀ i, xe τ3 (g 1) i = xe σ (g 1) i := fun i => by
      rw [e3]
      show xe τ2 (g 1) i = _
      rw [x2, x1]
    clear e3
    have q2 : q ≠ g 2 := fun e => by have := (yg2 I1).2.1; rw [← e, hq] at this; omega
    refine ⟨ry_room I3.1 (by omega) (by omega), fun u hu huz => ?_⟩
    refine rx_newList (t := 9) I3 hu (.inr (.inr (.inr (.inr (.inl rfl))))) (fun τ4 I4 F4 tu4 _ _ _ x4 => ?_)
    have tp4 := fg_tag F4 tp3 (by decide)
    refine ⟨tp4, fun τ5 e5 => ?_⟩
    have I5 : yI_ s (fun a => False ∨ a = p) g (va_up (va_up κ q 8) u 9) (B + 1 + 1 + 1) (n + 1 + 1) τ5 := by rw [e5]; exact yI_srE I4 (.inr rfl) (by decide) (by decide) hp0
    have tp5 : xt τ5 p = 2 := by rw [e5]; exact tp4
    have tu5 : xt τ5 u = 1 := by rw [e5]; exact tu4
    have tq5 : xt τ5 q = 1 := by rw [e5]; show xt τ4 q = 1; exact fg_tag F4 tq3 (by decide)
    have r5 : xr τ5 33 p = some u := by rw [e5]; exact va_up_self _ _ _
    have r5' : xr τ5 32 p = some q := by rw [e5]; show xr τ4 32 p = some q; exact fg_ref F4 tp3 (by decide) (by decide) r3
    have F5 : fg_ σ τ5 := by rw [e5]; exact fg_srN (fg_trans F3 F4) hp
    have x5 : ∀ i, xe τ5 (g 1) i = xe σ (g 1) i := fun i => by
      rw [e5]
      show xe τ4 (g 1) i = _
      rw [x4, x3]
    clear e5
    have u5 : u ≠ g 5 := fun e => by have := (yg5 I3).2.1; rw [← e, hu] at this; omega
    have qu : q ≠ u := fun e => by rw [e, hu] at tq3; omega
    have J5 : yJ_ s g (va_up (va_up κ q 8) u 9) (B + 1 + 1 + 1) (n + 1 + 1) τ5 := ⟨I5.1, yP_add I5.2.1 tp5 (fun _ => ⟨⟨q, r5', tq5, by rw [va_up_ne _ _ qu, va_up_self], q2⟩, u, r5, tu5, va_up_self _ _ _, u5⟩) (fun x => absurd x (by decide)) (fun x => absurd x (by decide)) (fun x => absurd x (by decide)) (fun x => absurd x (by decide)) (.inl rfl), I5.2.2⟩
    refine ⟨fg_tag F5 tR (by decide), fun τ6 e6 => ?_⟩
    have J6 : yJ_ (s.1, s.2.1, s.2.2.1, s.2.2.2.1, s.2.2.2.2.1, upd s.2.2.2.2.2 r.toNatClampNeg 1) g (va_up (va_up κ q 8) u 9) (B + 1 + 1 + 1) (n + 1 + 1) τ6 := by
      rw [e6]
      exact yI_172 J5 hr (by rw [x5]; exact eR) tp5
    refine rx_boom39 J6 ?_ ?_ (by rw [e6]; show xt τ5 R = 10; exact fg_tag F5 tR (by decide)) (by rw [e6]; exact va_up_self _ _ _) (by rw [e6]; exact tp5) c2
    · show n + 1 + 1 ≤ 5 + 13 * s.1.1.toNatClampNeg + 2 * yc_ (upd s.2.2.2.2.2 r.toNatClampNeg 1) 10
      rw [ey]; omega
    · show B + 1 + 1 + 1 ≤ 15 + 26 * s.1.1.toNatClampNeg + 3 * (k + 1)
      omega
