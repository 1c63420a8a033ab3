theorem xe_new {σ : kx_S} {p t l i : Nat} (h : l ≠ p) : xe (xnew σ p t) l i = xe σ l i := by
  unfold xe
  have : xr (xnew σ p t) 17 l = xr σ 17 l := va_up_ne _ _ h
  rw [this]
  rfl
theorem yI_160 {s : sz_T} {E : Nat → Prop} {g κ : Nat → Nat} {B n : Nat} {σ : kx_S} {p : Nat} {v : Int32} (I : yI_ s E g κ B n σ) (hp : ∀ r : Nat, (r : Int) < (xi σ 18 (g 1)).toInt → xe σ (g 1) r ≠ some p) : yI_ s E g κ B n (xsi σ 160 p v) := by
  have S := I.2.2.2.2
  refine ⟨I.1, I.2.1, I.2.2.1, I.2.2.2.1, S.1, fun q hq => ?_, S.2.2⟩
  obtain ⟨R2, oe, o1, o2⟩ := S.2.1 q hq
  refine ⟨R2, oe, ?_, o2⟩
  show (va_up (xi σ 160) p v R2).toInt = (q : Int)
  rw [va_up_ne _ _ (fun e => hp q hq (by rw [← e]; exact oe))]
  exact o1
/-- a reach that is made, not yet among the others: c cells so far -/
def yq_ (g κ : Nat → Nat) (l p : Nat) (c v : Int32) (σ : kx_S) : Prop := xt σ p = 10 ∧ xr σ 163 p = some l ∧ xt σ l = 1 ∧ κ l = 3 ∧ xi σ 18 l = c ∧ xi σ 160 p = v ∧ xi σ 165 p = 0 ∧ xi σ 168 p = 0 ∧ xi σ 164 p = 0 ∧ xi σ 171 p = 0 ∧ xr σ 172 p = none
theorem rx_newCell {s : sz_T} {g κ : Nat → Nat} {B n : Nat} {σ : kx_S} {l p : Nat} {c v cr : Int32} {Q : kx_S → Prop} (J : yJ_ s g κ B n σ) (hB : B + 2 ≤ 3000) (hn : n + 1 ≤ 200) (Y : yq_ g κ l p c v σ) (hc : c.toInt < 12) (hcr : cr.toInt ≤ 20) (kk : ∀ κ' τ, yJ_ s g κ' (B + 1 + 1) (n + 1) τ → yq_ g κ' l p (c + 1) v τ → Q τ) : xc σ < kx_N ∧ ∀ p13, xt σ p13 = 0 → p13 ≠ xz σ → ∀ σ16, σ16 = xnew σ p13 3 → wX1_init p13 cr σ16 (fun σ18 => xt σ18 l = 1 ∧ wJx4a65c_add_9ea2d l p13 σ18 (fun r20 σ19 => Q σ19)) := by
  obtain ⟨y1, y2, y3, y4, y5, y6, y7, y8, y9, y10, y11⟩ := Y
  refine ⟨ry_room J.1 (by omega) (by omega), fun q hq hqz τ1 e1 => ?_⟩
  have q0 : q ≠ g 0 := fun e => by have := yg0 J; rw [← e, hq] at this; omega
  have ql : l ≠ q := fun e => by rw [e, hq] at y3; omega
  have qp : p ≠ q := fun e => by rw [e, hq] at y1; omega
  have I1 : yI_ s (fun a => False ∨ a = q) g κ (B + 1) n τ1 := by rw [e1]; exact yI_new J hq hqz (by decide)
  have F1 : fg_ σ τ1 := by rw [e1]; exact fg_new hq
  have tq1 : xt τ1 q = 3 := by rw [e1]; exact va_up_self _ _ _
  have i1 : ∀ f a, a ≠ q → xi τ1 f a = xi σ f a := fun f a ha => by rw [e1]; exact va_up_ne _ _ ha
  clear e1
  refine ⟨tq1, fun τ2 e2 => ?_⟩
  have I2 : yI_ s (fun a => False ∨ a = q) g κ (B + 1) n τ2 := by rw [e2]; exact yI_48 hcr I1
  have F2 : fg_ σ τ2 := by rw [e2]; exact fg_siN F1
  have tq2 : xt τ2 q = 3 := by rw [e2]; exact tq1
  have i2 : ∀ f a, a ≠ q → xi τ2 f a = xi σ f a := fun f a ha => by
    rw [e2, ← i1 f a ha]
    exact xup_ne τ1.2.1 ha
  clear e2
  refine ⟨ry_room I2.1 (by omega) (by omega), fun u hu huz => ?_⟩
  have u2 : u ≠ g 2 := fun e => by have := (yg2 I2).2.1; rw [← e, hu] at this; omega
  have ul : l ≠ u := fun e => by have := fg_tag F2 y3 (by decide); rw [e, hu] at this; omega
  have up : p ≠ u := fun e => by have := fg_tag F2 y1 (by decide); rw [e, hu] at this; omega
  refine rx_newList (t := 8) I2 hu (.inr (.inr (.inr (.inl rfl)))) (fun τ3 I3 F3 tu3 _ i3 _ _ => ?_)
  refine ⟨fg_tag F3 tq2 (by decide), fun τ4 e4 => ?_⟩
  have I4 : yI_ s (fun a => False ∨ a = q) g (va_up κ u 8) (B + 1 + 1) (n + 1) τ4 := by rw [e4]; exact yI_srE I3 (.inr rfl) (by decide) (by decide) q0
  have tq4 : xt τ4 q = 3 := by rw [e4]; show xt τ3 q = 3; exact fg_tag F3 tq2 (by decide)
  have tu4 : xt τ4 u = 1 := by rw [e4]; exact tu3
  have r4 : xr τ4 49 q = some u := by rw [e4]; exact va_up_self _ _ _
  have F4 : fg_ σ τ4 := by rw [e4]; exact fg_srN (fg_trans F2 F3) hq
  have i4 : ∀ f a, a ≠ q → a ≠ u → xi τ4 f a = xi σ f a := fun f a h1 h2 => by
    rw [e4]
    show xi τ3 f a = _
    rw [i3 f a h2, i2 f a h1]
  clear e4
  have J4 : yJ_ s g (va_up κ u 8) (B + 1 + 1) (n + 1) τ4 := ⟨I4.1, yP_add I4.2.1 tq4 (fun x => absurd x (by decide)) (fun _ => ⟨u, r4, tu4, va_up_self _ _ _, u2⟩) (fun x => absurd x (by decide)) (fun x => absurd x (by decide)) (fun x => absurd x (by decide)) (.inr (.inl rfl)), I4.2.2⟩
  clear I4
  have tl4 := fg_tag F4 y3 (by decide)
  have kl : va_up κ u 8 l = 3 := by rw [va_up_ne _ _ ul]; exact y4
  have s4 : xi τ4 18 l = c := by rw [i4 18 l ql ul]; exact y5
  have c0 := (ry_size J4.1 tl4).1
  rw [s4] at c0
  have inc := ki_inc (a := c) (by omega) (by omega)
  have bl : (xi τ4 18 l).toInt < (ylb g l : Int) := by
    have : ylb g l ≥ 100 := by unfold ylb; split <;> omega
    rw [s4]; omega
  refine ⟨tl4, ?_⟩
  refine ry_add J4.1 (by omega) hn tl4 (by rw [tq4, kl]) bl (fun τ5 L5 A5 => ?_)
  have og : ∀ i, va_up κ u 8 (g i) ≠ 3 → xi τ5 18 (g i) = xi τ4 18 (g i) := fun i h => by
    rw [A5.2.2.2.1, va_up_ne _ _ (fun e => h (by rw [e]; exact kl))]
  have p1 := og 1 (by rw [(yg1 J4).2.2]; decide)
  have p2 := og 2 (by rw [(yg2 J4).2.2]; decide)
  have p3 := og 3 (by rw [(yg3 J4).2.2]; decide)
  have p4 := og 4 (by rw [(yg4 J4).2.2]; decide)
  have p5 := og 5 (by rw [(yg5 J4).2.2]; decide)
  have SS := J4.2.2.2.2.2.2.2
  have ids := yG_idx J4
  have S5 := yS_add J4 A5 (fun e => by have := (yg1 J4).2.2; rw [← e, kl] at this; cases this) (by rw [p3]; exact SS.2.1) (by rw [p4]; exact SS.2.2.1) (by rw [p5]; exact SS.2.2.2)
  have I5 := yI_tr2 J4 L5 A5 S5 (yK9_same J4 A5 (by rw [kl]; decide))
  rw [p2, p4, p5, ids.2.1, ids.2.2.1, ids.2.2.2.1] at I5
  have iz : ∀ f, f ≠ 16 → f ≠ 18 → xi τ5 f p = xi σ f p := fun f h1 h2 => by rw [A5.2.2.1 f h1 h2, i4 f p qp up]
  have F5 := fg_trans F4 A5.1
  refine kk (va_up κ u 8) τ5 I5 ⟨fg_tag F5 y1 (by decide), fg_ref F5 y1 (by decide) (by decide) y2, fg_tag F5 y3 (by decide), kl, ?_, (iz 160 (by decide) (by decide)).trans y6, (iz 165 (by decide) (by decide)).trans y7, (iz 168 (by decide) (by decide)).trans y8, (iz 164 (by decide) (by decide)).trans y9, (iz 171 (by decide) (by decide)).trans y10, fg_ref F5 y1 (by decide) (by decide) y11⟩
  rw [A5.2.2.2.1, va_up_self, s4]
/-- a reach among the others -/
theorem rx_reachIn {k : Nat} {s : sz_T} {g κ : Nat → Nat} {B n : Nat} {σ : kx_S} {l p : Nat} {c : Int32} {z : Int32 × Int32 × sz_T} (J : yJ_ s g κ B n σ) (hz : z = (0, s.1.1, ((s.1.1 + 1, s.1.2), s.2))) (h10 : s.1.1.toInt < 10) (hB : B ≤ 15 + 26 * (s.1.1.toNatClampNeg + 1) + 3 * (k + 1)) (hn : n ≤ 5 + 13 * (s.1.1.toNatClampNeg + 1) + 2 * yc_ s.2.2.2.2.2 10) (hB3 : B ≤ 3000) (hn2 : n ≤ 200) (Y : yq_ g κ l p c s.1.1 σ) : wX11_reach_148 (qz_ k (g 0) (g 10) z) (g 0) p σ := by
  subst hz
  obtain ⟨y1, y2, y3, y4, y5, y6, y7, y8, y9, y10, y11⟩ := Y
  have G1 := yg1 J
  have ids := yG_idx J
  have sz := ry_size J.1 G1.2.1
  rw [ids.1] at sz
  obtain ⟨N, eN⟩ : ∃ N, N = s.1.1 := ⟨_, rfl⟩
  rw [← eN] at sz h10
  have inc := ki_inc (a := N) (by omega) (by omega)
  have ne := yG_ne J.2.2.1
  refine ⟨yg0 J, g 1, G1.1, G1.2.1, ?_⟩
  have bl : (xi σ 18 (g 1)).toInt < (ylb g (g 1) : Int) := by
    unfold ylb
    rw [if_neg ne.1, ids.1, ← eN]
    omega
  refine ry_add J.1 hB3 hn2 G1.2.1 (by rw [y1, G1.2.2]) bl (fun τ L A => ?_)
  obtain ⟨F, T, i0, i18, r0, x0, x1, l0⟩ := id A
  have q2 : xi τ 18 (g 2) = s.1.2.1 := by rw [i18, va_up_ne _ _ (fun e => ne.1 e.symm)]; exact ids.2.1
  have q3 : xi τ 18 (g 3) = xi σ 18 (g 3) := by rw [i18, va_up_ne _ _ (fun e => ne.2.1 e.symm)]
  have q4 : xi τ 18 (g 4) = s.1.2.2.1 := by rw [i18, va_up_ne _ _ (fun e => ne.2.2.1 e.symm)]; exact ids.2.2.1
  have q5 : xi τ 18 (g 5) = s.1.2.2.2.1 := by rw [i18, va_up_ne _ _ (fun e => ne.2.2.2.1 e.symm)]; exact ids.2.2.2.1
  have q1 : xi τ 18 (g 1) = N + 1 := by rw [i18, va_up_self, ids.1, eN]
  have S := J.2.2.2.2
  have SS := S.2.2.2
  have S' : yS_ ((s.1.1 + 1, s.1.2), s.2) g τ := by
    refine ⟨?_, fun r hr => ?_, fun r hr => ?_, ?_, by rw [q3]; exact SS.2.1, ?_, ?_⟩
    · rw [q1, q2, q4, q5, i0 177 (by decide) (by decide), i0 217 (by decide) (by decide), ids.2.2.2.2.1, ids.2.2.2.2.2, eN]
    · rw [q1, inc] at hr
      show ∃ R, xe τ (g 1) r = some R ∧ (xi τ 160 R).toInt = (r : Int) ∧ xi τ 165 R = s.2.1 r ∧ xi τ 168 R = s.2.2.1 r ∧ xi τ 164 R = s.2.2.2.1 r ∧ xi τ 171 R = s.2.2.2.2.1 r ∧ (xr τ 172 R = none ↔ s.2.2.2.2.2 r = 0)
      rw [i0 160 (by decide) (by decide), i0 165 (by decide) (by decide), i0 168 (by decide) (by decide), i0 164 (by decide) (by decide), i0 171 (by decide) (by decide), r0 172 (by decide)]
      by_cases e : (r : Int) = N.toInt
      · have er : r = (xi σ 18 (g 1)).toNatClampNeg := by rw [ids.1, ← eN, ki_nat]; omega
        obtain ⟨z1, z2, z3, z4, z5⟩ := S.2.2.1 r (by rw [ids.1, ← eN]; omega)
        exact ⟨p, by rw [er]; exact x1, by rw [y6, ← eN, e], y7.trans z1.symm, y8.trans z2.symm, y9.trans z3.symm, y10.trans z4.symm, ⟨fun _ => z5, fun _ => y11⟩⟩
      · have hr2 : (r : Int) < (xi σ 18 (g 1)).toInt := by rw [ids.1, ← eN]; omega
        obtain ⟨R, o1, o2⟩ := S.2.1 r hr2
        exact ⟨R, by rw [x0 (g 1) G1.2.1 r hr2]; exact o1, o2⟩
    · rw [q1, inc] at hr
      exact S.2.2.1 r (by rw [ids.1, ← eN]; omega)
    · rw [q1, inc]; omega
    · rw [q4, ← ids.2.2.1]; exact SS.2.2.1
    · rw [q5, ← ids.2.2.2.1]; exact SS.2.2.2
  have I' := yI_tr2 J L A S' (yK9_same J A (by rw [G1.2.2]; decide))
  have hN : (s.1.1 + 1).toNatClampNeg = s.1.1.toNatClampNeg + 1 := by
    rw [← eN, ki_nat, ki_nat, inc]
    omega
  refine ⟨fg_tag F y1 (by decide), rfl, ?_, yZ_of I' ?_ ?_⟩
  · rw [i0 160 (by decide) (by decide), y6]
  · show n ≤ 5 + 13 * (s.1.1 + 1).toNatClampNeg + 2 * yc_ s.2.2.2.2.2 10
    rw [hN]; exact hn
  · show B ≤ 15 + 26 * (s.1.1 + 1).toNatClampNeg + 3 * (k + 1)
    rw [hN]; exact hB
theorem rx_reach90 {k : Nat} {s : sz_T} {g κ : Nat → Nat} {B n : Nat} {σ : kx_S} {ln cr jm : Int32} {bw : Option Nat} {z : Int32 × Int32 × sz_T} (J : yJ_ s g κ B n σ) (hz : z = (0, s.1.1, ((s.1.1 + 1, s.1.2), s.2))) (h10 : s.1.1.toInt < 10) (hB : B ≤ 15 + 26 * s.1.1.toNatClampNeg + 3 * k) (hn : n ≤ 5 + 13 * s.1.1.toNatClampNeg + 2 * yc_ s.2.2.2.2.2 10) (hB3 : B ≤ 2100) (hn2 : n ≤ 155) (hl : ln.toInt ≤ 12) (hl0 : 1 ≤ ln.toInt) (hcr : cr.toInt ≤ 20) (hbw : bw = none ∨ ∃ h, bw = some h ∧ xt σ h = 10) : wX11_reach_90 (qz_ k (g 0) (g 10) z) (g 0) ln cr jm bw σ := by
  refine ⟨ry_room J.1 (by omega) (by omega), fun p hp hpz τ1 e1 => ?_⟩
  have p0 : p ≠ g 0 := fun e => by have := yg0 J; rw [← e, hp] at this; omega
  have p1 : g 1 ≠ p := fun e => by have := (yg1 J).2.1; rw [e, hp] at this; omega
  have I1 : yI_ s (fun a => False ∨ a = p) g κ (B + 1) n τ1 := by rw [e1]; exact yI_new J hp hpz (by decide)
  have F1 : fg_ σ τ1 := by rw [e1]; exact fg_new hp
  have tp1 : xt τ1 p = 10 := by rw [e1]; exact va_up_self _ _ _
  have i1 : ∀ f, xi τ1 f p = 0 := fun f => by rw [e1]; exact va_up_self _ _ _
  have r1 : ∀ f, xr τ1 f p = none := fun f => by rw [e1]; exact va_up_self _ _ _
  have np : ∀ r : Nat, (r : Int) < (xi τ1 18 (g 1)).toInt → xe τ1 (g 1) r ≠ some p := by
    intro r hr q
    rw [e1, xe_new p1] at q
    have hr2 : (r : Int) < (xi σ 18 (g 1)).toInt := by
      rw [e1] at hr
      have : xi (xnew σ p 10) 18 (g 1) = xi σ 18 (g 1) := va_up_ne _ _ p1
      rw [this] at hr
      exact hr
    obtain ⟨y, ey, ty⟩ := ry_el J.1 (yg1 J).2.1 hr2
    rw [q] at ey
    rw [← Option.some.inj ey, hp, (yg1 J).2.2] at ty
    cases ty
  clear e1
  have ids1 := yG_idx I1
  refine ⟨yg0 I1, g 1, (yg1 I1).1, (yg1 I1).2.1, (yg1 I1).2.1, tp1, fun τ2 e2 τ4 e4 τ6 e6 => ?_⟩
  have I6 : yI_ s (fun a => False ∨ a = p) g κ (B + 1) n τ6 := by
    rw [e6, e4, e2]
    exact yI_si (by decide) (yI_srE (yI_160 I1 np) (.inr rfl) (by decide) (by decide) p0)
  have F6 : fg_ σ τ6 := by rw [e6, e4, e2]; exact fg_siN (fg_srN (fg_siN F1) hp)
  have tp6 : xt τ6 p = 10 := by rw [e6, e4, e2]; exact tp1
  have a160 : xi τ6 160 p = s.1.1 := by
    rw [e6, e4, e2, ← ids1.1]
    exact va_up_self _ _ _
  have a165 : xi τ6 165 p = 0 := by rw [e6, e4, e2]; exact i1 165
  have a168 : xi τ6 168 p = 0 := by rw [e6, e4, e2]; exact i1 168
  have a164 : xi τ6 164 p = 0 := by rw [e6, e4, e2]; exact i1 164
  have a171 : xi τ6 171 p = 0 := by rw [e6, e4, e2]; exact i1 171
  have r161 : xr τ6 161 p = bw := by rw [e6, e4, e2]; exact va_up_self _ _ _
  have r172 : xr τ6 172 p = none := by rw [e6, e4, e2]; exact r1 172
  clear e6 e4 e2 i1 r1 np I1
  refine ⟨ry_room I6.1 (by omega) (by omega), fun u hu huz => ?_⟩
  have up : p ≠ u := fun e => by rw [e, hu] at tp6; omega
  refine rx_newList (t := 3) I6 hu (.inl rfl) (fun τ7 I7 F7 tu7 su7 i7 _ _ => ?_)
  refine ⟨fg_tag F7 tp6 (by decide), fun τ8 e8 => ⟨13, ?_⟩⟩
  have I8 : yI_ s (fun a => False ∨ a = p) g (va_up κ u 3) (B + 1 + 1) (n + 1) τ8 := by rw [e8]; exact yI_srE I7 (.inr rfl) (by decide) (by decide) p0
  have F8 : fg_ σ τ8 := by rw [e8]; exact fg_srN (fg_trans F6 F7) hp
  have tp8 : xt τ8 p = 10 := by rw [e8]; show xt τ7 p = 10; exact fg_tag F7 tp6 (by decide)
  have tu8 : xt τ8 u = 1 := by rw [e8]; exact tu7
  have r163 : xr τ8 163 p = some u := by rw [e8]; exact va_up_self _ _ _
  have r161' : xr τ8 161 p = bw := by rw [e8]; show xr τ7 161 p = bw; exact fg_ref F7 tp6 (by decide) (by decide) r161
  have r172' : xr τ8 172 p = none := by rw [e8]; show xr τ7 172 p = none; exact fg_ref F7 tp6 (by decide) (by decide) r172
  have su8 : xi τ8 18 u = 0 := by rw [e8]; exact su7
  have i8 : ∀ f, xi τ8 f p = xi τ6 f p := fun f => by rw [e8]; show xi τ7 f p = _; exact i7 f p up
  clear e8
  have hbw8 : xr τ8 161 p = none ∨ ∃ h, xr τ8 161 p = some h ∧ xt τ8 h = 10 := by
    rw [r161']
    rcases hbw with h | ⟨h, h1, h2⟩
    · exact .inl h
    · exact .inr ⟨h, h1, fg_tag F8 h2 (by decide)⟩
  have J8 : yJ_ s g (va_up κ u 3) (B + 1 + 1) (n + 1) τ8 := ⟨I8.1, yP_add I8.2.1 tp8 (fun x => absurd x (by decide)) (fun x => absurd x (by decide)) (fun x => absurd x (by decide)) (fun x => absurd x (by decide)) (fun _ => ⟨hbw8, ⟨u, r163, tu8, va_up_self _ _ _⟩, .inl r172'⟩) (by decide), I8.2.2⟩
  have Y8 : yq_ g (va_up κ u 3) u p 0 s.1.1 τ8 := ⟨tp8, r163, tu8, va_up_self _ _ _, su8, (i8 160).trans a160, (i8 165).trans a165, (i8 168).trans a168, (i8 164).trans a164, (i8 171).trans a171, r172'⟩
  clear I8
  have Lp : ∀ (m : Nat) (c : Int32) (κ' : Nat → Nat) (B' n' : Nat) (τ : kx_S), 0 ≤ c.toInt → c.toInt ≤ ln.toInt → ln.toInt - c.toInt < (m : Int) → yJ_ s g κ' B' n' τ → yq_ g κ' u p c s.1.1 τ → (B' : Int) = B + 2 + 2 * c.toInt → (n' : Int) = n + 1 + c.toInt → wX11_reach_117 (wX11_reach_148 (qz_ k (g 0) (g 10) z)) (qz_ k (g 0) (g 10) z) m (g 0) ln cr p c τ := by
    intro m
    induction m with
    | zero => intro c κ' B' n' τ h1 h2 h3; omega
    | succ m ih =>
      intro c κ' B' n' τ h1 h2 h3 J' Y' eB en
      have Y2 := Y'
      obtain ⟨w1, w2, w3, _⟩ := Y2
      refine ⟨fun q => rx_reachIn J' hz h10 (by omega) (by omega) (by omega) (by omega) Y', fun q => ⟨w1, u, w2, ?_⟩⟩
      rw [ki_le] at q
      obtain ⟨c', ec, ii⟩ := ki_incE (a := c) (by omega) (by omega)
      have b1 : 0 ≤ c'.toInt := by omega
      have b2 : c'.toInt ≤ ln.toInt := by omega
      have b3 : ln.toInt - c'.toInt < (m : Int) := by omega
      have b4 : ((B' + 1 + 1 : Nat) : Int) = B + 2 + 2 * c'.toInt := by omega
      have b5 : ((n' + 1 : Nat) : Int) = n + 1 + c'.toInt := by omega
      refine rx_newCell J' (by omega) (by omega) Y' (by omega) hcr (fun κ2 τ2 J2 Y2 w ew => ?_)
      rw [← ec] at Y2
      rw [ew, ← ec]
      exact ih c' κ2 (B' + 1 + 1) (n' + 1) τ2 b1 b2 b3 J2 Y2 b4 b5
  have fin := Lp 13 0 _ _ _ τ8 (by decide) (by rw [ki_z0]; omega) (by rw [ki_z0]; omega) J8 Y8 (by rw [ki_z0]; omega) (by rw [ki_z0]; omega)
  exact fin
theorem rx_reach {k : Nat} {s : sz_T} {L O : Nat} {σ : kx_S} {nx ln cr jm : Int32} (hk : k < 600) (Z : yZ_ k s L O σ) : wX11_reach L nx ln cr jm σ (qz_ k L O (z_reach nx ln cr jm s)) := by
  obtain ⟨g, κ, B, n, eg, eO, J, hn, hB⟩ := Z
  subst eg
  subst eO
  have b := yB_ J hk hn hB
  have hB' : B ≤ 15 + 26 * s.1.1.toNatClampNeg + 3 * (k + 1) := by omega
  have G1 := yg1 J
  have ids := yG_idx J
  have sz := ry_size J.1 G1.2.1
  have b10 := J.2.2.2.2.2.2.2.1
  obtain ⟨N, eN⟩ : ∃ N, N = xi σ 18 (g 1) := ⟨_, rfl⟩
  rw [← eN] at sz b10 ids
  have z10 : (10 : Int32).toInt = 10 := by decide
  have z12 : (12 : Int32).toInt = 12 := by decide
  have z20 : (20 : Int32).toInt = 20 := by decide
  have z1000 : (1000 : Int32).toInt = 1000 := by decide
  have no : (s.1.1 = 10 ∨ nx < -1 ∨ s.1.1 ≤ nx ∨ ln < 1 ∨ 12 < ln ∨ cr < 1 ∨ 20 < cr ∨ jm < 0 ∨ ¬ jm ≤ 1000) → qz_ k (g 0) (g 10) (z_reach nx ln cr jm s) (-1) σ := fun c => by
    rw [show z_reach nx ln cr jm s = (0, -1, s) from if_pos c]
    exact ⟨rfl, rfl, yZ_of J hn hB'⟩
  obtain ⟨u, eu, dd⟩ := ki_dec2E (a := N) (by omega)
  refine ⟨yg0 J, g 1, G1.1, G1.2.1, G1.2.1, fun c => no (.inl ?_), fun c => ⟨yg0 J, g 1, G1.1, G1.2.1, G1.2.1, ?_⟩⟩
  · rw [← eN, ki_le, z10] at c
    rw [← ids.1]
    exact ki_eq.2 (by rw [z10]; omega)
  rw [← eN, ki_le, z10] at c
  show wX11_isWithin _ _ (xi σ 18 (g 1) - 1) _ _
  rw [← eN, ← eu]
  refine rx_within (fun d => ⟨fun x => absurd rfl x, fun _ => no (.inr ?_)⟩) (fun c1 c2 => ⟨fun _ => ?_, fun x => absurd x (by decide)⟩)
  · rw [ki_zm] at d
    rw [ki_lt, ki_zm, ki_le, ← ids.1]
    by_cases q : nx.toInt < -1
    · exact .inl q
    · exact .inr (.inl (by omega))
  rw [ki_zm] at c1
  refine rx_within (fun d => ⟨fun _ => no (.inr (.inr (.inr ?_))), fun x => absurd rfl x⟩) (fun c3 c4 => ⟨fun x => absurd x (by decide), fun _ => ?_⟩)
  · rw [ki_z1, z12] at d
    rw [ki_lt (b := 1), ki_z1, ki_lt (b := ln), z12]
    by_cases q : ln.toInt < 1
    · exact .inl q
    · exact .inr (.inl (by omega))
  rw [ki_z1] at c3
  rw [z12] at c4
  refine rx_within (fun d => ⟨fun _ => no (.inr (.inr (.inr (.inr (.inr ?_))))), fun x => absurd rfl x⟩) (fun c5 c6 => ⟨fun x => absurd x (by decide), fun _ => ?_⟩)
  · rw [ki_z1, z20] at d
    rw [ki_lt (b := 1), ki_z1, ki_lt (b := cr), z20]
    by_cases q : cr.toInt < 1
    · exact .inl q
    · exact .inr (.inl (by omega))
  rw [ki_z1] at c5
  rw [z20] at c6
  refine rx_within (fun d => ⟨fun x => absurd rfl x, fun _ => no (.inr (.inr (.inr (.inr (.inr (.inr (.inr ?_)))))))⟩) (fun c7 c8 => ⟨fun _ => ?_, fun x => absurd x (by decide)⟩)
  · rw [ki_z0, z1000] at d
    rw [ki_lt, ki_z0, ki_le, z1000]
    by_cases q : jm.toInt < 0
    · exact .inl q
    · exact .inr (by omega)
  rw [ki_z0] at c7
  rw [z1000] at c8
  have hz : z_reach nx ln cr jm s = (0, s.1.1, ((s.1.1 + 1, s.1.2), s.2)) := by
    refine if_neg (fun h => ?_)
    rw [ki_lt, ki_le, ki_lt, ki_lt, ki_lt, ki_lt, ki_lt, ki_le, ki_zm, ki_z1, z12, z20, ki_z0, z1000, ← ids.1] at h
    rcases h with h | h
    · have h' := congrArg Int32.toInt h
      rw [z10] at h'
      omega
    · omega
  have h10 : s.1.1.toInt < 10 := by rw [← ids.1]; omega
  refine ⟨fun _ => rx_reach90 J hz h10 hB hn b.1 b.2 c4 c3 c6 (.inl rfl), fun q => ⟨yg0 J, g 1, G1.1, G1.2.1, ?_⟩⟩
  rw [ki_lt, ki_z0] at q
  refine ry_get J.1 G1.2.1 (by omega) (by rw [← eN]; omega) (fun R _ tR => ?_)
  rw [G1.2.2] at tR
  exact ⟨R, rfl, tR, rx_reach90 J hz h10 hB hn b.1 b.2 c4 c3 c6 (.inr ⟨R, rfl, tR⟩)⟩
