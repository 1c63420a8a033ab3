/-! a reach that is made -/
def wz_reach (n l c j : Int32) (s : sz_T) (w : wt_T) : wt_T := if s.1.1 = 10 ∨ n < -1 ∨ s.1.1 ≤ n ∨ l < 1 ∨ 12 < l ∨ c < 1 ∨ 20 < c ∨ j < 0 ∨ ¬ j ≤ 1000 then w else (upd w.1 s.1.1.toNatClampNeg n, w.2)
theorem vw_reach90 {s : sz_T} {g κ : Nat → Nat} {B m n : Nat} {σ : kx_S} {ad : Nat → Nat} {w : wt_T} {nx ln cr jm : Int32} {bw : Option Nat} {Q : Int32 → kx_S → Prop} (J : yJ_ s g κ B m σ) (hn : s.1.1.toInt = (n : Int)) (ok : w_ok n w) (h : yw_ ad n w (g 0) σ) (hb : (bw = none ∧ nx = -1) ∨ ∃ q : Nat, nx.toInt = (q : Int) ∧ q < n ∧ bw = some (ad q)) (kk : ∀ r u, Yw_ (n + 1) (upd w.1 n nx, w.2) (g 0) u → Q r u) : vX11_reach_90 Q (g 0) ln cr jm bw σ := by
  unfold vX11_reach_90
  intro _ p hp hz σ27 e27 _ a30 e30 _
  subst e27
  have g0p : g 0 ≠ p := fun e => by have := yg0 J; rw [e, hp] at this; exact absurd this (by decide)
  have g1p : g 1 ≠ p := fun e => by have := (yg1 J).2.1; rw [e, hp] at this; exact absurd this (by decide)
  have q1 : a30 = g 1 := by
    have e : xr (xnew σ p 10) 208 (g 0) = xr σ 208 (g 0) := va_up_ne _ _ g0p
    rw [e, (yg1 J).1] at e30
    exact (Option.some.inj e30).symm
  subst q1
  unfold vJx4a65c_size_8abf5
  intro _
  have e18 : xi (xnew σ p 10) 18 (g 1) = s.1.1 := (va_up_ne _ _ g1p).trans (congrArg (fun p => p.1) J.2.2.2.2.1)
  rw [e18]
  unfold vX8_init
  intro _ σ2 e2 σ4 e4 σ6 e6 _ p9 hp9 _ σ12 e12
  unfold vJx4a65c_init_da8c8 vJxc12de_init_da8c8 vJxa1e45_init_da8c8
  intro _ σ3 e3 _ σ5 e5 _ σ16 e16 j
  subst e2
  subst e4
  have t6 : xt σ6 = va_up (xt σ) p 10 := by rw [e6]; rfl
  obtain ⟨⟨t1, t2⟩, h1, h2, h3⟩ := h
  have nep : ∀ r, r < n → ad r ≠ p := fun r hr e => by have := t2 r hr; rw [e, hp] at this; exact absurd this (by decide)
  have Y6 : yw_ (va_up ad n p) (n + 1) (upd w.1 n nx, w.2) (g 0) σ6 := by
    refine ⟨⟨fun R hR => ?_, fun r hr => ?_⟩, fun r hr => ?_, ?_, ?_⟩
    · rw [t6] at hR
      by_cases c : R = p
      · exact ⟨n, by omega, by rw [va_up_self]; exact c⟩
      · rw [va_up_ne _ _ c] at hR
        obtain ⟨r, r1, r2⟩ := t1 R hR
        exact ⟨r, by omega, by rw [va_up_ne _ _ (by omega)]; exact r2⟩
    · rw [t6]
      by_cases c : r = n
      · rw [c, va_up_self, va_up_self]
      · have hr' : r < n := by omega
        rw [va_up_ne ad _ c, va_up_ne _ _ (nep r hr')]
        exact t2 r hr'
    · rw [e6]
      by_cases c : r = n
      · subst c
        rw [va_up_self]
        obtain ⟨z1, z2, z3, z4⟩ := ok.2 r (Nat.le_refl r)
        refine ⟨?_, ?_, ?_, ?_, ?_, ?_⟩
        · show (va_up (va_up (xi σ 160) p 0) p s.1.1 p).toInt = _
          rw [va_up_self]
          exact hn
        · exact (va_up_self (xi σ 166) p 0).trans z1.symm
        · exact (va_up_self (xi σ 167) p 0).trans z2.symm
        · exact (va_up_self (xi σ 169) p 0).trans z3.symm
        · exact (va_up_self (xi σ 170) p 0).trans z4.symm
        · show (va_up (va_up (xr σ 161) p none) p bw p = none ∧ upd w.1 r nx r = -1) ∨ ∃ q : Nat, (upd w.1 r nx r).toInt = (q : Int) ∧ q < r ∧ va_up (va_up (xr σ 161) p none) p bw p = some (va_up ad r p q)
          rw [va_up_self, w_updS]
          rcases hb with ⟨b1, b2⟩ | ⟨q, b1, b2, b3⟩
          · exact .inl ⟨b1, b2⟩
          · exact .inr ⟨q, b1, b2, by rw [va_up_ne _ _ (by omega)]; exact b3⟩
      · have hr' : r < n := by omega
        have ne := nep r hr'
        rw [va_up_ne ad _ c]
        obtain ⟨b1, b2, b3, b4, b5, b6⟩ := h1 r hr'
        refine ⟨?_, (va_up_ne _ _ ne).trans b2, (va_up_ne _ _ ne).trans b3, (va_up_ne _ _ ne).trans b4, (va_up_ne _ _ ne).trans b5, ?_⟩
        · show (va_up (va_up (xi σ 160) p 0) p s.1.1 (ad r)).toInt = _
          rw [va_up_ne _ _ ne, va_up_ne _ _ ne]
          exact b1
        · show (va_up (va_up (xr σ 161) p none) p bw (ad r) = none ∧ upd w.1 n nx r = -1) ∨ ∃ q : Nat, (upd w.1 n nx r).toInt = (q : Int) ∧ q < r ∧ va_up (va_up (xr σ 161) p none) p bw (ad r) = some (va_up ad n p q)
          rw [va_up_ne _ _ ne, va_up_ne _ _ ne, w_updN c]
          rcases b6 with b | ⟨q, d1, d2, d3⟩
          · exact .inl b
          · exact .inr ⟨q, d1, d2, by rw [va_up_ne _ _ (by omega)]; exact d3⟩
    · rw [e6]
      exact (va_up_ne _ _ g0p).trans h2
    · rw [e6]
      exact (va_up_ne _ _ g0p).trans h3
  have tL : xt σ6 (g 0) ≠ 0 := by rw [t6, va_up_ne _ _ g0p, yg0 J]; decide
  have W := wf_fw (L := g 0) (σ := σ6) tL (W := [16, 17, 163, 1101]) (by decide)
  have f1 := (W _ wf_refl).2.2.2.2.2.2.1 1 (by decide) p9 hp9
  rw [← e12] at f1
  have f2 := ((W _ f1).1 16 (by decide)).1 p9 0
  rw [← e3] at f2
  have f3 := ((W _ f2).1 17 (by decide)).2.1 p9 (some (xz σ3))
  rw [← e5] at f3
  have f4 := ((W _ f3).1 163 (by decide)).2.1 p (some p9)
  rw [← e16] at f4
  have Y16 := yw_wf Y6 f4
  have tL16 : xt σ16 (g 0) ≠ 0 := by rw [f4.1 _ tL]; exact tL
  have hQ : ∀ r u, wf_ (g 0) σ16 u → Q r u := fun r u i => kk r u ⟨_, yw_wf Y16 i⟩
  exact jfX11_reach_117 (I := wf_ (g 0) σ16) (wf_fw tL16 (by decide)) (k148 := vX11_reach_148 Q) (fun _ _ _ i => jfX11_reach_148 (I := wf_ (g 0) σ16) (wf_fw tL16 (by decide)) hQ _ _ _ i) hQ j _ _ _ _ _ _ wf_refl
theorem rv_reach {k : Nat} {s : sz_T} {L O : Nat} {σ : kx_S} {nx ln cr jm : Int32} {nr : Nat} {w : wt_T} (hk : k < 600) (Z : yZ_ k s L O σ) (hnr : s.1.1.toInt = (nr : Int)) (ok : w_ok nr w) (V : Yw_ nr w L σ) : wX11_reach L nx ln cr jm σ (fun r u => qz_ k L O (z_reach nx ln cr jm s) r u ∧ Yw_ (z_reach nx ln cr jm s).2.2.1.1.toNatClampNeg (wz_reach nx ln cr jm s w) L u) := by
  have R0 := rx_reach (nx := nx) (ln := ln) (cr := cr) (jm := jm) hk Z
  obtain ⟨g, κ, B, n, eg, eO, J, hn, hB⟩ := Z
  subst eg
  subst eO
  obtain ⟨ad, h⟩ := V
  have G1 := yg1 J
  have ids := (yG_idx J).1
  have b10 := J.2.2.2.2.2.2.2.1
  rw [ids] at b10
  have en : s.1.1.toNatClampNeg = nr := by rw [ki_nat]; omega
  have z10 : (10 : Int32).toInt = 10 := by decide
  have z12 : (12 : Int32).toInt = 12 := by decide
  have z20 : (20 : Int32).toInt = 20 := by decide
  have z1000 : (1000 : Int32).toInt = 1000 := by decide
  refine jcX11_reach (Q' := fun _ u => Yw_ (z_reach nx ln cr jm s).2.2.1.1.toNatClampNeg (wz_reach nx ln cr jm s w) (g 0) u) (fun _ _ a b => ⟨a, b⟩) _ _ _ _ _ _ R0 ?_
  have no : (s.1.1 = 10 ∨ nx < -1 ∨ s.1.1 ≤ nx ∨ ln < 1 ∨ 12 < ln ∨ cr < 1 ∨ 20 < cr ∨ jm < 0 ∨ ¬ jm ≤ 1000) → Yw_ (z_reach nx ln cr jm s).2.2.1.1.toNatClampNeg (wz_reach nx ln cr jm s w) (g 0) σ := fun c => by
    rw [show z_reach nx ln cr jm s = (0, -1, s) from if_pos c, show wz_reach nx ln cr jm s w = w from if_pos c]
    show Yw_ s.1.1.toNatClampNeg w (g 0) σ
    rw [en]
    exact ⟨ad, h⟩
  unfold vX11_reach
  intro _ a38 e38 _
  have q1 : a38 = g 1 := Option.some.inj (e38.symm.trans G1.1)
  subst q1
  unfold vJx4a65c_size_8abf5
  intro _
  rw [ids]
  obtain ⟨u, eu, dd⟩ := ki_dec2E (a := s.1.1) (by omega)
  refine ⟨fun c => no (.inl ?_), fun c _ a45 e45 _ _ => ?_⟩
  · rw [ki_le, z10] at c
    exact ki_eq.2 (by rw [z10]; omega)
  have q2 : a45 = g 1 := Option.some.inj (e45.symm.trans G1.1)
  subst q2
  rw [ki_le, z10] at c
  rw [ids]
  show vX11_isWithin _ _ (s.1.1 - 1) _ _
  rw [← eu]
  refine vy_within (fun d => ⟨fun x => absurd rfl x, fun _ => no (.inr ?_)⟩) (fun c1 c2 => ⟨fun _ => ?_, fun x => absurd x (by decide)⟩)
  · rw [ki_zm] at d
    rw [ki_lt, ki_zm, ki_le]
    by_cases q : nx.toInt < -1
    · exact .inl q
    · exact .inr (.inl (by omega))
  rw [ki_zm] at c1
  refine vy_within (fun d => ⟨fun _ => no (.inr (.inr (.inr ?_))), fun x => absurd rfl x⟩) (fun c3 c4 => ⟨fun x => absurd x (by decide), fun _ => ?_⟩)
  · rw [ki_z1, z12] at d
    rw [ki_lt (b := 1), ki_z1, ki_lt (b := ln), z12]
    by_cases q : ln.toInt < 1
    · exact .inl q
    · exact .inr (.inl (by omega))
  rw [ki_z1] at c3
  rw [z12] at c4
  refine vy_within (fun d => ⟨fun _ => no (.inr (.inr (.inr (.inr (.inr ?_))))), fun x => absurd rfl x⟩) (fun c5 c6 => ⟨fun x => absurd x (by decide), fun _ => ?_⟩)
  · rw [ki_z1, z20] at d
    rw [ki_lt (b := 1), ki_z1, ki_lt (b := cr), z20]
    by_cases q : cr.toInt < 1
    · exact .inl q
    · exact .inr (.inl (by omega))
  rw [ki_z1] at c5
  rw [z20] at c6
  refine vy_within (fun d => ⟨fun x => absurd rfl x, fun _ => no (.inr (.inr (.inr (.inr (.inr (.inr (.inr ?_)))))))⟩) (fun c7 c8 => ⟨fun _ => ?_, fun x => absurd x (by decide)⟩)
  · rw [ki_z0, z1000] at d
    rw [ki_lt, ki_z0, ki_le, z1000]
    by_cases q : jm.toInt < 0
    · exact .inl q
    · exact .inr (by omega)
  rw [ki_z0] at c7
  rw [z1000] at c8
  have hz : ¬ (s.1.1 = 10 ∨ nx < -1 ∨ s.1.1 ≤ nx ∨ ln < 1 ∨ 12 < ln ∨ cr < 1 ∨ 20 < cr ∨ jm < 0 ∨ ¬ jm ≤ 1000) := by
    intro h
    rw [ki_lt, ki_le, ki_lt, ki_lt, ki_lt, ki_lt, ki_lt, ki_le, ki_zm, ki_z1, z12, z20, ki_z0, z1000] at h
    rcases h with h | h
    · have h' := congrArg Int32.toInt h
      rw [z10] at h'
      omega
    · omega
  have e1 : (s.1.1 + 1).toNatClampNeg = nr + 1 := by
    obtain ⟨v, ev, vv⟩ := ki_incE (a := s.1.1) (by omega) (by omega)
    rw [← ev, ki_nat]
    omega
  have kk : ∀ (r : Int32) (u : kx_S), Yw_ (nr + 1) (upd w.1 nr nx, w.2) (g 0) u → Yw_ (z_reach nx ln cr jm s).2.2.1.1.toNatClampNeg (wz_reach nx ln cr jm s w) (g 0) u := fun r u y => by
    rw [show z_reach nx ln cr jm s = (0, s.1.1, ((s.1.1 + 1, s.1.2), s.2)) from if_neg hz, show wz_reach nx ln cr jm s w = (upd w.1 s.1.1.toNatClampNeg nx, w.2) from if_neg hz]
    show Yw_ (s.1.1 + 1).toNatClampNeg (upd w.1 s.1.1.toNatClampNeg nx, w.2) (g 0) u
    rw [e1, en]
    exact y
  refine ⟨fun q => ?_, fun q _ a64 e64 _ => ?_⟩
  · rw [ki_lt, ki_z0] at q
    exact vw_reach90 J hnr ok h (.inl ⟨rfl, ki_eq.2 (by rw [ki_zm]; omega)⟩) kk
  · rw [ki_lt, ki_z0] at q
    have q3 : a64 = g 1 := Option.some.inj (e64.symm.trans G1.1)
    subst q3
    refine vy_get (fun _ _ => ?_)
    intro a69 e69 _
    have hq : nx.toNatClampNeg < nr := by rw [ki_nat]; omega
    rw [(yw_at J hnr h hq).1] at e69
    have e69 := Option.some.inj e69
    exact vw_reach90 J hnr ok h (.inr ⟨nx.toNatClampNeg, by rw [ki_nat]; omega, hq, by rw [e69]⟩) kk
/-! what is asked of the waters -/
def zq_waters (a : Int32) : Int32 := if a = 0 then 0 else if a = 1 then 0 else 1
def zv_waters (a : Int32) (w : wt_T) : Int64 := if a = 0 then w.2.2.2.2.2.1 else w.2.2.2.2.2.2
theorem rv_waters {k : Nat} {s : sz_T} {L O : Nat} {σ : kx_S} {a : Int32} {nr : Nat} {w : wt_T} (hk : k < 600) (Z : yZ_ k s L O σ) (V : Yw_ nr w L σ) : wX11_waters L a σ (fun r u => qu_ k L O s r u ∧ Yw_ nr w L u ∧ zq_waters a = 0 ∧ r = zv_waters a w) (fun e u => qf_ k L O s e u ∧ Yw_ nr w L u ∧ zq_waters a = 1) := by
  refine jcX11_waters (Q' := fun r u => Yw_ nr w L u ∧ zq_waters a = 0 ∧ r = zv_waters a w) (QX' := fun _ u => Yw_ nr w L u ∧ zq_waters a = 1) (fun _ _ a b => ⟨a, b⟩) (fun _ _ a b => ⟨a, b⟩) _ _ _ (rx_waters (w := a) hk Z) ?_
  have V0 := V
  obtain ⟨ad, h⟩ := V
  unfold vX11_waters
  rintro v1 rfl
  refine ⟨fun c _ => ⟨V0, ?_, ?_⟩, fun c _ => ⟨V0, ?_, ?_⟩, fun c d _ => ⟨Yw_bump V0, ?_⟩⟩
  · exact if_pos c
  · rw [h.2.2.1]
    exact (if_pos c).symm
  · rw [c]
    decide
  · rw [h.2.2.2, c]
    exact (if_neg (by decide)).symm
  · unfold zq_waters
    rw [if_neg c, if_neg d]
