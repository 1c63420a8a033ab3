theorem ki_half : ∀ k : Nat, k < 401 → ((nI k) >>> ((1 : Int32) &&& 31)).toInt = ((k / 2 : Nat) : Int) := by decide +kernel
/-- what growing leaves -/
def yg_ (l p : Nat) (σ τ : kx_S) : Prop := xt σ p = 0 ∧ p ≠ xz σ ∧ xt τ = va_up (xt σ) p 22 ∧ (∀ f, xi τ f = xi σ f) ∧ xr τ 17 = va_up (xr σ 17) l (some p) ∧ (∀ f, f ≠ 17 → xr τ f = xr σ f) ∧ (∃ N, xn τ = va_up (xn σ) p N ∧ (xi σ 18 l).toInt < (N : Int)) ∧ (∀ a, a ≠ p → xar τ a = xar σ a) ∧ (∀ i : Nat, (i : Int) < (xi σ 18 l).toInt → xar τ p i = xe σ l i) ∧ xz τ = xz σ ∧ xl τ = xl σ
theorem ry_grow {g κ : Nat → Nat} {B n : Nat} {σ : kx_S} {l d : Nat} {Q : Nat → kx_S → Prop} (H : yL_ g κ B n σ) (hB : B ≤ 3000) (hn : n ≤ 200) (hl : xt σ l = 1) (hd : xr σ 17 l = some d) (full : (d = xz σ ∧ xi σ 18 l = 0) ∨ (d ≠ xz σ ∧ (xi σ 18 l).toInt = (xn σ d : Int))) (hs : (xi σ 18 l).toInt < (ylb g l : Int)) (kk : ∀ p τ, yL_ g κ B n τ → yg_ l p σ τ → Q p τ) : wJx4a65c_grow_d5877 l σ Q := by
  have room := ry_room H hB hn
  have z10 : (10 : Int32).toInt = 10 := by decide
  obtain ⟨d2, hd2, s1, s2, o⟩ := H.1 l hl
  rw [hd] at hd2
  have ed : d = d2 := Option.some.inj hd2
  subst ed
  have bc : ylb g l = 400 ∧ ylc g l = 600 ∨ ylb g l = 100 ∧ ylc g l = 150 := by
    unfold ylb ylc
    by_cases c : l = g 2
    · rw [if_pos c, if_pos c]; exact .inl ⟨rfl, rfl⟩
    · rw [if_neg c, if_neg c]; exact .inr ⟨rfl, rfl⟩
  refine ⟨hl, hl, d, hd, fun c => ⟨fun x => absurd x (by decide), fun _ => ⟨d, hd, fun _ v ev => ?_, fun q => absurd (congrArg some c) q⟩⟩, fun c => ?_⟩
  · have e0 : xi σ 18 l = 0 := by
      rcases full with f | f
      · exact f.2
      · exact absurd c f.1
    have v10 : v = 10 := by
      rw [ev, e0, if_neg (by decide)]
    subst v10
    refine ⟨room, by decide, by decide, fun p hp hz τ1 e1 => ?_⟩
    subst e1
    have hlp : l ≠ p := fun e => by rw [e, hp] at hl; omega
    refine ⟨?_, fun τ e2 => ?_⟩
    · show va_up (xt σ) p 22 l = 1
      rw [va_up_ne _ _ hlp]; exact hl
    · subst e2
      have t6 : ∀ i : Nat, (i : Int) < (xi σ 18 l).toInt → xar (xsr (xnewA σ p 22 (Int32.toNatClampNeg 10)) 17 l (some p)) p i = xar σ d i := fun i hi => by rw [e0, ki_z0] at hi; omega
      refine kk p _ (yL_grow (N := 10) H hl hd hp hz rfl rfl rfl rfl (fun a ha => va_up_ne _ _ ha) t6 rfl rfl (by decide) (by rcases bc with b | b <;> omega) ?_ (by rw [e0, ki_z0]; decide)) ⟨hp, hz, rfl, fun _ => rfl, rfl, fun f hf => ?_, ⟨10, rfl, by rw [e0]; decide⟩, fun a ha => va_up_ne _ _ ha, fun i hi => by rw [e0, ki_z0] at hi; omega, rfl, rfl⟩
      · rw [ycap_some hd, if_pos c]; decide
      · show (if f = 17 then _ else xr σ f) = xr σ f
        rw [if_neg hf]
  · obtain ⟨o1, o2, o3, o4, o5, o6⟩ : d ≠ xz σ ∧ xt σ d = 22 ∧ 10 ≤ xn σ d ∧ xn σ d ≤ ylc g l ∧ (xi σ 18 l).toInt ≤ (xn σ d : Int) ∧ ∀ i : Nat, (i : Int) < (xi σ 18 l).toInt → ∃ y, xar σ d i = some y ∧ xt σ y = κ l := o.resolve_left (fun x => c x.1)
    have hsz : (xi σ 18 l).toInt = (xn σ d : Int) := by
      rcases full with f | f
      · exact absurd f.1 c
      · exact f.2
    have hm : xn σ d < 400 := by rcases bc with b | b <;> omega
    obtain ⟨m, em⟩ : ∃ m, m = xn σ d := ⟨_, rfl⟩
    have nm := nI_toInt (n := m) (by omega)
    refine ⟨o2, fun v ev => ⟨fun _ => ?_, fun x => ?_⟩⟩
    · have hf := ki_half m (by omega)
      rw [← em] at ev
      have hl1 := ki_inc (a := xi σ 18 l) (by omega) (by omega)
      have esub := ki_sub (a := xi σ 18 l + 1) (b := nI m) (by omega) (by omega)
      intro v1 e1 v2 e2
      rw [ev] at e1 e2
      have ev1 : v1.toInt = ((m / 2 : Nat) : Int) := by
        rw [e1, if_pos (by rw [ki_lt]; omega)]
        exact hf
      have ev2 : v2.toInt = (m : Int) + ((m / 2 : Nat) : Int) := by rw [e2, ki_add (by omega) (by omega), nm, ev1]
      have zm : (2147483639 : Int32).toInt = 2147483639 := by decide
      have nlen : m + m / 2 ≤ ylc g l := by rcases bc with b | b <;> omega
      have n600 : m + m / 2 ≤ 600 := by rcases bc with b | b <;> omega
      have vn : v2.toNatClampNeg = m + m / 2 := by rw [ki_nat]; omega
      refine ⟨fun x => ?_, fun _ => ⟨fun x => ?_, fun _ => ⟨hl, d, hd, o2, room, ?_, ?_, fun p hp hz τ1 e3 => ?_⟩⟩⟩
      · rw [ki_le, ki_z0] at x; omega
      · rw [ki_lt, zm] at x; omega
      · rw [ki_lt, ki_z0]; omega
      · rw [vn]; exact n600
      · rw [vn] at e3
        subst e3
        have hlp : l ≠ p := fun e => by rw [e, hp] at hl; omega
        have hdp : d ≠ p := fun e => by rw [e, hp] at o2; omega
        have td : xt (xnewA σ p 22 (m + m / 2)) d = 22 := by show va_up (xt σ) p 22 d = 22; rw [va_up_ne _ _ hdp]; exact o2
        have nd : xn (xnewA σ p 22 (m + m / 2)) d = m := by show va_up (xn σ) p (m + m / 2) d = m; rw [va_up_ne _ _ hdp]; exact em.symm
        have np : xn (xnewA σ p 22 (m + m / 2)) p = m + m / 2 := va_up_self _ _ _
        have ad : xar (xnewA σ p 22 (m + m / 2)) d = xar σ d := va_up_ne _ _ hdp
        have tl : ∀ a, xt σ a ≠ 0 → xt (xnewA σ p 22 (m + m / 2)) a = xt σ a := fun a ha => va_up_ne _ _ (fun e => ha (by rw [e]; exact hp))
        refine ⟨td, fun w ew => ?_⟩
        rw [nd] at ew
        have wm : w.toNatClampNeg = m := by
          rw [ew, if_neg (by rw [ki_lt]; omega), ki_nat]
          omega
        have z0 : Int32.toNatClampNeg 0 = 0 := by decide
        refine ⟨va_up_self _ _ _, by decide, by decide, ?_, ?_, ?_, ?_, fun τ2 e4 => ?_⟩
        · rw [ew, if_neg (by rw [ki_lt]; omega), ki_lt, ki_z0]; omega
        · rw [wm, z0, nd]; omega
        · rw [wm, z0, np]; omega
        · intro i hi y hy
          rw [wm] at hi
          rw [z0, Nat.zero_add, ad] at hy
          obtain ⟨y2, ey, ty⟩ := o6 i (by omega)
          rw [hy] at ey
          have := Option.some.inj ey
          subst this
          have k := H.2.2.1 l hl
          rw [tl y (by rw [ty]; exact k.ne), ty]
          exact k
        · rw [wm, z0] at e4
          refine ⟨?_, fun τ e5 => ?_⟩
          · rw [e4]; show xt (xnewA σ p 22 (m + m / 2)) l = 1; rw [tl l (by rw [hl]; decide)]; exact hl
          · rw [e5, e4]
            have rd : ∀ i : Nat, i < m → va_up (xar (xnewA σ p 22 (m + m / 2))) p (va_cpy (xar (xnewA σ p 22 (m + m / 2)) d) (xar (xnewA σ p 22 (m + m / 2)) p) 0 0 m) p i = xar σ d i := by
              intro i hi
              rw [va_up_self]
              unfold va_cpy
              rw [if_pos (by omega), ad, Nat.zero_add, Nat.sub_zero]
            have ot : ∀ a, a ≠ p → va_up (xar (xnewA σ p 22 (m + m / 2))) p (va_cpy (xar (xnewA σ p 22 (m + m / 2)) d) (xar (xnewA σ p 22 (m + m / 2)) p) 0 0 m) a = xar σ a := by
              intro a ha
              rw [va_up_ne _ _ ha]
              exact va_up_ne _ _ ha
            refine kk p _ (yL_grow (N := m + m / 2) H hl hd hp hz rfl rfl rfl rfl ot (fun i hi => rd i (by omega)) rfl rfl (by omega) nlen ?_ (by omega)) ⟨hp, hz, rfl, fun _ => rfl, rfl, fun f hf => ?_, ⟨m + m / 2, rfl, by omega⟩, ot, fun i hi => ?_, rfl, rfl⟩
            · rw [ycap_some hd, if_neg c]; omega
            · show (if f = 17 then _ else xr σ f) = xr σ f
              rw [if_neg hf]
            · rw [xe_some hd]; exact rd i (by omega)
    · refine absurd ?_ x
      rw [ev, ← em, ki_lt, ki_z0, nm]; omega
/-- a list that has room takes one more -/
theorem yL_put {g κ : Nat → Nat} {B n : Nat} {σ τ : kx_S} {l d y : Nat} (H : yL_ g κ B n σ) (hl : xt σ l = 1) (hd : xr σ 17 l = some d) (hz : d ≠ xz σ) (hy : xt σ y = κ l) (hs : (xi σ 18 l).toInt < (ylb g l : Int)) (hr : (xi σ 18 l).toInt < (xn σ d : Int))
    (t1 : xt τ = xt σ) (t2 : xi τ 18 = va_up (xi σ 18) l (xi σ 18 l + 1)) (t3 : xr τ 17 = xr σ 17) (t4 : xn τ = xn σ) (t5 : xar τ = va_up (xar σ) d (va_up (xar σ d) (xi σ 18 l).toNatClampNeg (some y))) (t7 : xc τ = xc σ) (t8 : xz τ = xz σ) : yL_ g κ B n τ := by
  have sz := ry_size H hl
  have inc := ki_inc (a := xi σ 18 l) (by omega) (by omega)
  refine ⟨fun a ha => ?_, ?_, fun a ha => H.2.2.1 a (by rw [← t1]; exact ha), ?_⟩
  · rw [t1] at ha
    obtain ⟨d2, hd2, s1, s2, o⟩ := H.1 a ha
    by_cases e : a = l
    · subst e
      rw [hd] at hd2
      have ed : d = d2 := Option.some.inj hd2
      subst ed
      obtain ⟨o1, o2, o3, o4, o5, o6⟩ := o.resolve_left (fun x => hz x.1)
      refine ⟨d, by rw [t3]; exact hd, by rw [t2, va_up_self]; omega, by rw [t2, va_up_self]; omega, .inr ⟨by rw [t8]; exact o1, by rw [t1]; exact o2, by rw [t4]; exact o3, by rw [t4]; exact o4, by rw [t2, va_up_self, t4]; omega, fun i hi => ?_⟩⟩
      rw [t2, va_up_self] at hi
      rw [t5, va_up_self, t1]
      by_cases e : i = (xi σ 18 a).toNatClampNeg
      · rw [e, va_up_self]; exact ⟨y, rfl, hy⟩
      · rw [va_up_ne _ _ e]
        rw [ki_nat] at e
        exact o6 i (by omega)
    · refine ⟨d2, by rw [t3]; exact hd2, by rw [t2, va_up_ne _ _ e]; exact s1, by rw [t2, va_up_ne _ _ e]; exact s2, ?_⟩
      rw [t8, t2, va_up_ne _ _ e, t1, t4, t5]
      rcases o with o | o
      · exact .inl o
      · have dd : d2 ≠ d := fun q => e (H.2.1 a l d ha hl (by rw [← q]; exact hd2) hd hz)
        rw [va_up_ne _ _ dd]
        exact .inr o
  · intro a b x ha hb
    rw [t1] at ha hb
    rw [t3, t8]
    exact H.2.1 a b x ha hb
  · obtain ⟨LS, e, nd, m, b⟩ := H.2.2.2
    have ec : ycap τ = ycap σ := by
      funext a
      unfold ycap
      rw [t3, t8, t4]
    exact ⟨LS, e, nd, fun a => by rw [t1]; exact m a, by rw [ec, t7]; exact b⟩
/-- what an add leaves -/
def ya_ (l y : Nat) (σ τ : kx_S) : Prop := fg_ σ τ ∧ (∀ a, xt τ a = xt σ a ∨ xt σ a = 0 ∧ xt τ a = 22) ∧ (∀ f, f ≠ 16 → f ≠ 18 → xi τ f = xi σ f) ∧ xi τ 18 = va_up (xi σ 18) l (xi σ 18 l + 1) ∧ (∀ f, f ≠ 17 → xr τ f = xr σ f) ∧ (∀ l' : Nat, xt σ l' = 1 → ∀ i : Nat, (i : Int) < (xi σ 18 l').toInt → xe τ l' i = xe σ l' i) ∧ xe τ l (xi σ 18 l).toNatClampNeg = some y ∧ xl τ = xl σ
theorem ry_add {g κ : Nat → Nat} {B n : Nat} {σ : kx_S} {l y : Nat} {Q : Int32 → kx_S → Prop} (H : yL_ g κ B n σ) (hB : B ≤ 3000) (hn : n ≤ 200) (hl : xt σ l = 1) (hy : xt σ y = κ l) (hs : (xi σ 18 l).toInt < (ylb g l : Int)) (kk : ∀ τ, yL_ g κ B n τ → ya_ l y σ τ → Q 1 τ) : wJx4a65c_add_9ea2d l y σ Q := by
  obtain ⟨d, hd, s1, s2, o⟩ := H.1 l hl
  have hk := H.2.2.1 l hl
  obtain ⟨S, eS⟩ : ∃ S, S = xi σ 18 l := ⟨_, rfl⟩
  refine ⟨hl, fun τ0 e0 => ?_⟩
  have H0 : yL_ g κ B n τ0 := by rw [e0]; exact H
  have x0 : xt τ0 = xt σ := by rw [e0]; rfl
  have z0 : xz τ0 = xz σ := by rw [e0]; rfl
  have r0 : ∀ f, xr τ0 f = xr σ f := fun f => by rw [e0]; rfl
  have i0 : xi τ0 18 = xi σ 18 := by rw [e0]; rfl
  have i00 : ∀ f, f ≠ 16 → xi τ0 f = xi σ f := fun f hf => by
    rw [e0]
    show (if f = 16 then _ else xi σ f) = xi σ f
    rw [if_neg hf]
  have n0 : xn τ0 = xn σ := by rw [e0]; rfl
  have a0 : xar τ0 = xar σ := by rw [e0]; rfl
  have l0 : xl τ0 = xl σ := by rw [e0]; rfl
  clear e0
  refine ⟨d, by rw [r0]; exact hd, ?_⟩
  rw [i0, ← eS]
  have own : ∀ a, xt σ a = 1 → a ≠ l → ∀ d2, xr σ 17 a = some d2 → d2 ≠ xz σ → d2 ≠ d := fun a ha e d2 h2 hz q => e (H.2.1 a l d2 ha hl h2 (by rw [q]; exact hd) hz)
  -- the last step
  have E : ∀ d' τ1, yL_ g κ B n τ1 → xt τ1 l = 1 → xr τ1 17 l = some d' → d' ≠ xz τ1 → xt τ1 d' = 22 → xt τ1 y = κ l → xi τ1 18 l = S → S.toInt < (xn τ1 d' : Int) →
      (∀ τ, xt τ = xt τ1 → (∀ f, f ≠ 18 → xi τ f = xi τ1 f) → xi τ 18 = va_up (xi τ1 18) l (S + 1) → xr τ = xr τ1 → xn τ = xn τ1 → xar τ = va_up (xar τ1) d' (va_up (xar τ1 d') S.toNatClampNeg (some y)) → xz τ = xz τ1 → xl τ = xl τ1 → ya_ l y σ τ) →
      wJx4a65c_add_72be8_11 (fun σ6 => Q 1 σ6) l y d' S τ1 := by
    intro d' τ1 H1 hl1 hd1 hz1 ht1 hy1 hs1 hr1 ka
    refine ⟨ht1, by rw [ki_in, eS]; rw [eS] at hr1; omega, by rw [hy1]; exact hk, fun τ2 e2 => ⟨by rw [e2]; exact hl1, fun τ e3 => ?_⟩⟩
    rw [e3, e2]
    refine kk _ (yL_put H1 hl1 hd1 hz1 hy1 (by rw [hs1, eS]; exact hs) (by rw [hs1]; exact hr1) rfl (by rw [hs1]; rfl) rfl rfl (by rw [hs1]; rfl) rfl rfl) (ka _ rfl (fun f hf => ?_) rfl rfl rfl rfl rfl rfl)
    show (if f = 18 then _ else xi τ1 f) = xi τ1 f
    rw [if_neg hf]
  -- no growth
  have N : d ≠ xz σ → xt σ d = 22 → S.toInt < (xn σ d : Int) → wJx4a65c_add_72be8_11 (fun σ6 => Q 1 σ6) l y d S τ0 := by
    intro hz ht hr
    refine E d τ0 H0 (by rw [x0]; exact hl) (by rw [r0]; exact hd) (by rw [z0]; exact hz) (by rw [x0]; exact ht) (by rw [x0]; exact hy) (by rw [i0, eS]) (by rw [n0]; exact hr) (fun τ u1 u2 u3 u4 u5 u6 u7 u8 => ?_)
    refine ⟨⟨fun a _ => by rw [u1, x0], fun f a _ _ => by rw [u4, r0], fun a _ => by rw [u5, n0], by rw [u7, z0]⟩, fun a => .inl (by rw [u1, x0]), fun f f1 f2 => by rw [u2 f f2, i00 f f1], by rw [u3, i0, eS], fun f _ => by rw [u4, r0], fun l' hl' i hi => ?_, ?_, by rw [u8, l0]⟩
    · obtain ⟨d2, hd2, _, _, o2⟩ := H.1 l' hl'
      rw [xe_some (d := d2) (by rw [u4, r0]; exact hd2), xe_some hd2, u6, a0]
      by_cases e : d2 = d
      · have el : l' = l := H.2.1 l' l d2 hl' hl hd2 (by rw [e]; exact hd) (by rw [e]; exact hz)
        rw [e, va_up_self, va_up_ne _ _ (by rw [el] at hi; rw [eS, ki_nat]; omega)]
      · rw [va_up_ne _ _ e]
    · rw [← eS, xe_some (d := d) (by rw [u4, r0]; exact hd), u6, va_up_self, va_up_self]
  -- growth
  have G : ((d = xz σ ∧ xi σ 18 l = 0) ∨ (d ≠ xz σ ∧ (xi σ 18 l).toInt = (xn σ d : Int))) → wJx4a65c_grow_d5877 l τ0 (fun b13 σ12 => wJx4a65c_add_72be8_11 (fun σ6 => Q 1 σ6) l y b13 S σ12) := by
    intro full
    refine ry_grow H0 hB hn (by rw [x0]; exact hl) (by rw [r0]; exact hd) (by rw [z0, i0, n0]; exact full) (by rw [i0]; exact hs) (fun p τ1 H1 G1 => ?_)
    obtain ⟨g1, g2, g3, g4, g5, g6, ⟨N', g7, g7'⟩, g8, g9, g10, g11⟩ := G1
    rw [x0] at g1 g3
    rw [z0] at g2 g10
    have pl : l ≠ p := fun e => by rw [e, g1] at hl; omega
    have py : y ≠ p := fun e => by rw [e, g1] at hy; exact hk.ne hy.symm
    refine E p τ1 H1 (by rw [g3, va_up_ne _ _ pl]; exact hl) (by rw [g5, va_up_self]) (by rw [g10]; exact g2) (by rw [g3, va_up_self]) (by rw [g3, va_up_ne _ _ py]; exact hy) (by rw [g4, i0, eS]) (by rw [g7, va_up_self, eS, ← i0]; exact g7') (fun τ u1 u2 u3 u4 u5 u6 u7 u8 => ?_)
    have tg : ∀ a, xt σ a ≠ 0 → xt τ a = xt σ a := fun a ha => by rw [u1, g3, va_up_ne _ _ (fun e => ha (by rw [e]; exact g1))]
    refine ⟨⟨tg, fun f a hf _ => by rw [u4, g6 f hf, r0], fun a ha => by rw [u5, g7, va_up_ne _ _ (fun e => ha (by rw [e]; exact g1)), n0], by rw [u7, g10]⟩, fun a => ?_, fun f f1 f2 => by rw [u2 f f2, g4, i00 f f1], by rw [u3, g4, i0, eS], fun f hf => by rw [u4, g6 f hf, r0], fun l' hl' i hi => ?_, ?_, by rw [u8, g11, l0]⟩
    · by_cases e : a = p
      · exact .inr ⟨by rw [e]; exact g1, by rw [u1, g3, e, va_up_self]⟩
      · exact .inl (by rw [u1, g3, va_up_ne _ _ e])
    · obtain ⟨d2, hd2, _, _, o2⟩ := H.1 l' hl'
      by_cases e : l' = l
      · rw [e, xe_some (d := p) (by rw [u4, g5, va_up_self]), u6, va_up_self, va_up_ne _ _ (by rw [e] at hi; rw [eS, ki_nat]; omega), g9 i (by rw [i0, ← e]; exact hi)]
        unfold xe
        rw [r0, a0]
      · have dp : d2 ≠ p := by
          intro q
          rcases o2 with o2 | o2
          · exact g2 (q.symm.trans o2.1)
          · have := o2.2.1
            rw [q, g1] at this
            omega
        rw [xe_some (d := d2) (by rw [u4, g5, va_up_ne _ _ e, r0]; exact hd2), xe_some hd2, u6, va_up_ne _ _ dp, g8 d2 dp, a0]
    · rw [← eS, xe_some (d := p) (by rw [u4, g5, va_up_self]), u6, va_up_self, va_up_self]
  have lim : ∀ q : Nat, q ≤ 600 → (nI q).toInt = (q : Int) := fun q hq => nI_toInt (by omega)
  refine ⟨fun c => ⟨fun q => ?_, fun _ => ⟨by rw [x0]; exact hl, ?_⟩⟩, fun c => ?_⟩
  · rw [z0] at c
    rcases o with o | o
    · exact absurd (eS.trans o.2) q
    · exact absurd c o.1
  · rw [z0] at c
    rcases o with o | o
    · exact G (.inl o)
    · exact absurd c o.1
  · rw [z0] at c
    obtain ⟨o1, o2, o3, o4, o5, o6⟩ := o.resolve_left (fun x => c x.1)
    have hc : xn σ d ≤ 600 := by
      unfold ylc at o4
      split at o4 <;> omega
    refine ⟨by rw [x0]; exact o2, fun q => N c o2 ?_, fun q => ⟨by rw [x0]; exact hl, G (.inr ⟨c, ?_⟩)⟩⟩
    · rw [n0] at q
      have : S.toInt ≠ (xn σ d : Int) := fun x => q (ki_eq.2 (x.trans (lim _ hc).symm))
      rw [eS]
      rw [eS] at this
      omega
    · rw [n0] at q
      rw [← eS, q, lim _ hc]
