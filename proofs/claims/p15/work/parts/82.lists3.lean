theorem yL_cut {g κ : Nat → Nat} {B n : Nat} {σ τ : kx_S} {l d : Nat} (H : yL_ g κ B n σ) (hl : xt σ l = 1) (hd : xr σ 17 l = some d) (h0 : 0 < (xi σ 18 l).toInt)
    (t1 : xt τ = xt σ) (t2 : xi τ 18 = va_up (xi σ 18) l (xi σ 18 l - 1)) (t3 : xr τ 17 = xr σ 17) (t4 : xn τ = xn σ) (t5 : ∀ a, a ≠ d → xar τ a = xar σ a) (t6 : ∀ k : Nat, (k : Int) < (xi σ 18 l).toInt - 1 → ∃ j : Nat, (j : Int) < (xi σ 18 l).toInt ∧ xar τ d k = xar σ d j) (t7 : xc τ = xc σ) (t8 : xz τ = xz σ) : yL_ g κ B n τ := by
  have sz := ry_size H hl
  have dec := ki_dec2 (a := xi σ 18 l) (by omega)
  refine ⟨fun a ha => ?_, ?_, fun a ha => H.2.2.1 a (by rw [← t1]; exact ha), ?_⟩
  · rw [t1] at ha
    obtain ⟨d2, hd2, s1, s2, o⟩ := H.1 a ha
    by_cases e : a = l
    · subst e
      rw [hd] at hd2
      have ed : d = d2 := Option.some.inj hd2
      subst ed
      obtain ⟨o1, o2, o3, o4, o5, o6⟩ := o.resolve_left (fun x => by rw [x.2, ki_z0] at h0; omega)
      refine ⟨d, by rw [t3]; exact hd, by rw [t2, va_up_self]; omega, by rw [t2, va_up_self]; omega, .inr ⟨by rw [t8]; exact o1, by rw [t1]; exact o2, by rw [t4]; exact o3, by rw [t4]; exact o4, by rw [t2, va_up_self, t4]; omega, fun i hi => ?_⟩⟩
      rw [t2, va_up_self] at hi
      rw [t1]
      obtain ⟨j, hj, ej⟩ := t6 i (by omega)
      rw [ej]
      exact o6 j hj
    · refine ⟨d2, by rw [t3]; exact hd2, by rw [t2, va_up_ne _ _ e]; exact s1, by rw [t2, va_up_ne _ _ e]; exact s2, ?_⟩
      rw [t8, t2, va_up_ne _ _ e, t1, t4]
      rcases o with o | o
      · exact .inl o
      · have dd : d2 ≠ d := fun q => e (H.2.1 a l d2 ha hl hd2 (by rw [q]; exact hd) o.1)
        rw [t5 d2 dd]
        exact .inr o
  · intro a b x ha hb
    rw [t1] at ha hb
    rw [t3, t8]
    exact H.2.1 a b x ha hb
  · obtain ⟨LS, e, nd, m, b⟩ := H.2.2.2
    have ec : ycap τ = ycap σ := by
      funext a
      unfold ycap
      rw [t3, t8, t4]
    exact ⟨LS, e, nd, fun a => by rw [t1]; exact m a, by rw [ec, t7]; exact b⟩
/-- what a removal leaves -/
def yr_ (l : Nat) (σ τ : kx_S) : Prop := fg_ σ τ ∧ xt τ = xt σ ∧ (∀ f, f ≠ 16 → f ≠ 18 → xi τ f = xi σ f) ∧ xi τ 18 = va_up (xi σ 18) l (xi σ 18 l - 1) ∧ (∀ f, xr τ f = xr σ f) ∧ (∀ l' : Nat, xt σ l' = 1 → l' ≠ l → 0 < (xi σ 18 l').toInt → ∀ i : Nat, xe τ l' i = xe σ l' i) ∧ xl τ = xl σ
theorem ry_remove {g κ : Nat → Nat} {B n : Nat} {σ : kx_S} {l : Nat} {i : Int32} {Q : Option Nat → kx_S → Prop} (H : yL_ g κ B n σ) (hl : xt σ l = 1) (h0 : 0 ≤ i.toInt) (h1 : i.toInt < (xi σ 18 l).toInt) (kk : ∀ q τ, yL_ g κ B n τ → yr_ l σ τ → Q q τ) : wJx4a65c_remove_915e3 l i σ Q := by
  obtain ⟨d, hd, s1, s2, o⟩ := H.1 l hl
  have hk := H.2.2.1 l hl
  have sz := ry_size H hl
  have dec := ki_dec2 (a := xi σ 18 l) (by omega)
  obtain ⟨o1, o2, o3, o4, o5, o6⟩ := o.resolve_left (fun x => by rw [x.2, ki_z0] at h1; omega)
  refine ⟨hl, ry_check h0 h1 ⟨hl, d, hd, o2, by rw [ki_in]; omega, fun q9 e9 => ⟨hl, fun τ0 e0 v ev => ?_⟩⟩⟩
  have v0 : v = xi σ 18 l - 1 := by rw [ev, e0]; rfl
  have i0 : xi τ0 18 l = xi σ 18 l := by rw [e0]; rfl
  have x0 : xt τ0 = xt σ := by rw [e0]; rfl
  have n0 : xn τ0 = xn σ := by rw [e0]; rfl
  have a0 : xar τ0 = xar σ := by rw [e0]; rfl
  have vt : v.toInt = (xi σ 18 l).toInt - 1 := by rw [v0, dec]
  rw [i0, ← v0]
  clear ev
  -- the last step
  have E : ∀ τ1, xt τ1 = xt σ → (∀ f, f ≠ 16 → xi τ1 f = xi σ f) → (∀ f, xr τ1 f = xr σ f) → xn τ1 = xn σ → (∀ a, a ≠ d → xar τ1 a = xar σ a) → (∀ k : Nat, (k : Int) < v.toInt → ∃ j : Nat, (j : Int) < (xi σ 18 l).toInt ∧ xar τ1 d k = xar σ d j) → xc τ1 = xc σ → xz τ1 = xz σ → xl τ1 = xl σ → wJx4a65c_fastRemove_b59b0_34 (fun σ10 => Q q9 σ10) l d v τ1 := by
    intro τ1 u1 u2 u3 u4 u5 u6 u7 u8 u9
    refine ⟨by rw [u1]; exact hl, fun τ2 e2 => ⟨by rw [e2]; show xt τ1 d = 22; rw [u1]; exact o2, by rw [e2]; show vp_in v (xn τ1 d); rw [u4, ki_in]; omega, fun τ e3 => ?_⟩⟩
    rw [e3, e2]
    have w1 : xt (xsar (xsi τ1 18 l v) d v.toNatClampNeg none) = xt σ := u1
    have w2 : xi (xsar (xsi τ1 18 l v) d v.toNatClampNeg none) 18 = va_up (xi σ 18) l (xi σ 18 l - 1) := by
      show va_up (xi τ1 18) l v = _
      rw [u2 18 (by decide), v0]
    have w3 : ∀ f, xr (xsar (xsi τ1 18 l v) d v.toNatClampNeg none) f = xr σ f := u3
    have w5 : ∀ a, a ≠ d → xar (xsar (xsi τ1 18 l v) d v.toNatClampNeg none) a = xar σ a := fun a ha => (va_up_ne _ _ ha).trans (u5 a ha)
    have w6 : ∀ k : Nat, (k : Int) < (xi σ 18 l).toInt - 1 → ∃ j : Nat, (j : Int) < (xi σ 18 l).toInt ∧ xar (xsar (xsi τ1 18 l v) d v.toNatClampNeg none) d k = xar σ d j := by
      intro k hk
      obtain ⟨j, hj, ej⟩ := u6 k (by omega)
      refine ⟨j, hj, ?_⟩
      show va_up (xar τ1) d (va_up (xar τ1 d) v.toNatClampNeg none) d k = _
      rw [va_up_self, va_up_ne _ _ (by rw [ki_nat]; omega)]
      exact ej
    refine kk q9 _ (yL_cut H hl hd (by omega) w1 w2 (w3 17) u4 w5 w6 u7 u8) ⟨⟨fun a _ => by rw [w1], fun f a _ _ => by rw [w3], fun a _ => congrFun u4 a, u8⟩, w1, fun f f1 f2 => ?_, w2, w3, fun l' hl' ne hp i => ?_, u9⟩
    · show (if f = 18 then _ else xi τ1 f) = xi σ f
      rw [if_neg f2]
      exact u2 f f1
    · obtain ⟨d2, hd2, _, _, oo⟩ := H.1 l' hl'
      rw [xe_some (d := d2) (by rw [w3]; exact hd2), xe_some hd2]
      have nz : d2 ≠ xz σ := by
        rcases oo with oo | oo
        · rw [oo.2, ki_z0] at hp; omega
        · exact oo.1
      rw [w5 d2 (fun q => ne (H.2.1 l' l d2 hl' hl hd2 (by rw [q]; exact hd) nz))]
  have i00 : ∀ f, f ≠ 16 → xi τ0 f = xi σ f := fun f hf => by
    rw [e0]
    show (if f = 16 then _ else xi σ f) = xi σ f
    rw [if_neg hf]
  have r0 : ∀ f, xr τ0 f = xr σ f := fun f => by rw [e0]; rfl
  have c0 : xc τ0 = xc σ := by rw [e0]; rfl
  have z0 : xz τ0 = xz σ := by rw [e0]; rfl
  have l0 : xl τ0 = xl σ := by rw [e0]; rfl
  clear e0
  refine ⟨fun c => E τ0 x0 i00 r0 n0 (fun a _ => by rw [a0]) (fun k hk => ⟨k, by omega, by rw [a0]⟩) c0 z0 l0, fun c => ?_⟩
  rw [ki_le] at c
  have ii := ki_inc (a := i) (by omega) (by omega)
  have vd := ki_sub (a := v) (b := i) (by omega) (by omega)
  obtain ⟨x, ex⟩ : ∃ x, x = i.toNatClampNeg := ⟨_, rfl⟩
  have hx : (x : Int) = i.toInt := by rw [ex, ki_nat]; omega
  have x1 : (i + 1).toNatClampNeg = x + 1 := by rw [ki_nat]; omega
  obtain ⟨m, em⟩ : ∃ m, m = (v - i).toNatClampNeg := ⟨_, rfl⟩
  have hm : (m : Int) = v.toInt - i.toInt := by rw [em, ki_nat]; omega
  rw [← ex, ← em, x1]
  refine ⟨by rw [x0]; exact o2, by rw [ki_lt, ki_z0]; omega, by rw [ki_lt, ki_z0]; omega, by rw [ki_lt, ki_z0]; omega, by rw [n0]; omega, by rw [n0]; omega, fun k hk2 y hy => ?_, fun τ1 e1 => ?_⟩
  · rw [a0] at hy
    obtain ⟨y2, ey, ty⟩ := o6 (x + 1 + k) (by omega)
    rw [hy] at ey
    have := Option.some.inj ey
    subst this
    rw [x0, ty]
    exact hk
  · rw [e1]
    refine E _ x0 i00 r0 n0 (fun a ha => (va_up_ne _ _ ha).trans (congrFun a0 a)) (fun k hk => ?_) c0 z0 l0
    show ∃ j : Nat, (j : Int) < (xi σ 18 l).toInt ∧ va_up (xar τ0) d (va_cpy (xar τ0 d) (xar τ0 d) (x + 1) x m) d k = xar σ d j
    rw [va_up_self, a0]
    unfold va_cpy
    by_cases c2 : x ≤ k ∧ k < x + m
    · rw [if_pos c2]
      exact ⟨x + 1 + (k - x), by omega, rfl⟩
    · rw [if_neg c2]
      exact ⟨k, by omega, rfl⟩
/-- a new list, empty -/
theorem yL_new {g κ : Nat → Nat} {B n : Nat} {σ τ : kx_S} {p t : Nat} (H : yL_ g κ B n σ) (hp : xt σ p = 0) (ht : kx_el t) (t1 : xt τ = va_up (xt σ) p 1) (t2 : xi τ 18 = va_up (xi σ 18) p 0) (t3 : xr τ 17 = va_up (xr σ 17) p (some (xz σ))) (t4 : xn τ = xn σ) (t5 : xar τ = xar σ) (t7 : xc τ = xc σ + 1) (t8 : xz τ = xz σ) : yL_ g (va_up κ p t) (B + 1) (n + 1) τ := by
  have ne : ∀ a, xt σ a ≠ 0 → a ≠ p := fun a h e => h (by rw [e]; exact hp)
  have one : ∀ a, a ≠ p → (xt τ a = 1 ↔ xt σ a = 1) := fun a e => by rw [t1, va_up_ne _ _ e]
  have wellp : ∀ a, xt τ a ≠ 0 → a ≠ p → xt σ a ≠ 0 := fun a h e => by rw [t1, va_up_ne _ _ e] at h; exact h
  refine ⟨fun a ha => ?_, fun a b x ha hb xa xb hx => ?_, fun a ha => ?_, ?_⟩
  · by_cases e : a = p
    · rw [e]
      refine ⟨xz σ, by rw [t3, va_up_self], by rw [t2, va_up_self]; decide, by rw [t2, va_up_self, ki_z0]; omega, .inl ⟨t8.symm, by rw [t2, va_up_self]⟩⟩
    · have ha' := (one a e).1 ha
      obtain ⟨d2, hd2, s1, s2, o⟩ := H.1 a ha'
      refine ⟨d2, by rw [t3, va_up_ne _ _ e]; exact hd2, by rw [t2, va_up_ne _ _ e]; exact s1, by rw [t2, va_up_ne _ _ e]; exact s2, ?_⟩
      rw [t8, t2, va_up_ne _ _ e, t4, t5, va_up_ne _ _ e]
      rcases o with o | o
      · exact .inl o
      · refine .inr ⟨o.1, by rw [t1, va_up_ne _ _ (ne d2 (by rw [o.2.1]; decide))]; exact o.2.1, o.2.2.1, o.2.2.2.1, o.2.2.2.2.1, fun i hi => ?_⟩
        obtain ⟨y, ey, ty⟩ := o.2.2.2.2.2 i hi
        exact ⟨y, ey, by rw [t1, va_up_ne _ _ (ne y (by rw [ty]; exact (H.2.2.1 a ha').ne))]; exact ty⟩
  · rw [t3] at xa xb
    rw [t8] at hx
    by_cases ea : a = p
    · rw [ea, va_up_self] at xa
      exact absurd (Option.some.inj xa).symm hx
    · by_cases eb : b = p
      · rw [eb, va_up_self] at xb
        exact absurd (Option.some.inj xb).symm hx
      · rw [va_up_ne _ _ ea] at xa
        rw [va_up_ne _ _ eb] at xb
        exact H.2.1 a b x ((one a ea).1 ha) ((one b eb).1 hb) xa xb hx
  · by_cases e : a = p
    · rw [e, va_up_self]; exact ht
    · rw [va_up_ne _ _ e]
      exact H.2.2.1 a ((one a e).1 ha)
  · obtain ⟨LS, e, nd, m, b⟩ := H.2.2.2
    have np : p ∉ LS := fun q => by have := (m p).1 q; rw [hp] at this; omega
    refine ⟨p :: LS, by rw [List.length_cons, e], List.nodup_cons.2 ⟨np, nd⟩, fun a => ?_, ?_⟩
    · rw [List.mem_cons]
      by_cases ea : a = p
      · rw [ea, t1, va_up_self]
        exact ⟨fun _ => rfl, fun _ => .inl rfl⟩
      · rw [one a ea, ← m a]
        exact ⟨fun h => h.elim (fun q => absurd q ea) id, fun h => .inr h⟩
    · have ec : LS.map (ycap τ) = LS.map (ycap σ) := List.map_congr_left (fun a ha => by
        unfold ycap
        have q : a ≠ p := fun q => np (by rw [← q]; exact ha)
        rw [t3, t8, t4, va_up_ne _ _ q])
      rw [List.map_cons, List.sum_cons, ec, t7]
      omega
/-- a new thing that is no list -/
theorem yL_other {g κ : Nat → Nat} {B n : Nat} {σ τ : kx_S} {p t : Nat} (H : yL_ g κ B n σ) (hp : xt σ p = 0) (hz : p ≠ xz σ) (ht : t ≠ 1) (t1 : xt τ = va_up (xt σ) p t) (t2 : ∀ a, a ≠ p → xi τ 18 a = xi σ 18 a) (t3 : ∀ a, a ≠ p → xr τ 17 a = xr σ 17 a) (t4 : ∀ a, a ≠ p → xn τ a = xn σ a) (t5 : ∀ a, a ≠ p → xar τ a = xar σ a) (t7 : xc τ = xc σ + 1) (t8 : xz τ = xz σ) : yL_ g κ (B + 1) n τ := by
  have ne : ∀ a, xt σ a ≠ 0 → a ≠ p := fun a h e => h (by rw [e]; exact hp)
  have one : ∀ a, xt τ a = 1 ↔ xt σ a = 1 := by
    intro a
    by_cases e : a = p
    · rw [t1, e, va_up_self, hp]; omega
    · rw [t1, va_up_ne _ _ e]
  have n1 : ∀ a, xt σ a = 1 → a ≠ p := fun a h => ne a (by rw [h]; decide)
  refine ⟨fun a ha => ?_, fun a b x ha hb xa xb hx => ?_, fun a ha => H.2.2.1 a ((one a).1 ha), ?_⟩
  · have ha' := (one a).1 ha
    have e := n1 a ha'
    obtain ⟨d2, hd2, s1, s2, o⟩ := H.1 a ha'
    refine ⟨d2, by rw [t3 a e]; exact hd2, by rw [t2 a e]; exact s1, by rw [t2 a e]; exact s2, ?_⟩
    rw [t8, t2 a e]
    rcases o with o | o
    · exact .inl o
    · have dp := ne d2 (by rw [o.2.1]; decide)
      rw [t4 d2 dp, t5 d2 dp]
      refine .inr ⟨o.1, by rw [t1, va_up_ne _ _ dp]; exact o.2.1, o.2.2.1, o.2.2.2.1, o.2.2.2.2.1, fun i hi => ?_⟩
      obtain ⟨y, ey, ty⟩ := o.2.2.2.2.2 i hi
      exact ⟨y, ey, by rw [t1, va_up_ne _ _ (ne y (by rw [ty]; exact (H.2.2.1 a ha').ne))]; exact ty⟩
  · have ha' := (one a).1 ha
    have hb' := (one b).1 hb
    rw [t3 a (n1 a ha')] at xa
    rw [t3 b (n1 b hb')] at xb
    rw [t8] at hx
    exact H.2.1 a b x ha' hb' xa xb hx
  · obtain ⟨LS, e, nd, m, b⟩ := H.2.2.2
    refine ⟨LS, e, nd, fun a => (m a).trans (one a).symm, ?_⟩
    have ec : LS.map (ycap τ) = LS.map (ycap σ) := List.map_congr_left (fun a ha => by
      have ha' := (m a).1 ha
      obtain ⟨d2, hd2, _, _, o⟩ := H.1 a ha'
      rw [ycap_some hd2, ycap_some (d := d2) (by rw [t3 a (n1 a ha')]; exact hd2), t8]
      rcases o with o | o
      · rw [if_pos o.1, if_pos o.1]
      · rw [if_neg o.1, if_neg o.1, t4 d2 (ne d2 (by rw [o.2.1]; decide))])
    rw [ec, t7]
    omega
theorem yL_bump {g κ : Nat → Nat} {B n : Nat} {σ : kx_S} (H : yL_ g κ B n σ) : yL_ g κ (B + 1) n (xbump σ) := by
  refine ⟨H.1, H.2.1, H.2.2.1, ?_⟩
  obtain ⟨LS, e, nd, m, b⟩ := H.2.2.2
  refine ⟨LS, e, nd, m, ?_⟩
  show 5 * (xc σ + 1) ≤ 5 * (B + 1) + (LS.map (ycap σ)).sum
  omega
theorem yL_le {g κ : Nat → Nat} {B B' n : Nat} {σ : kx_S} (H : yL_ g κ B n σ) (h : B ≤ B') : yL_ g κ B' n σ := by
  refine ⟨H.1, H.2.1, H.2.2.1, ?_⟩
  obtain ⟨LS, e, nd, m, b⟩ := H.2.2.2
  exact ⟨LS, e, nd, m, by omega⟩
