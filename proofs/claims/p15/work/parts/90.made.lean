/-! things that are made -/
theorem fg_new {σ : kx_S} {p t : Nat} (hp : xt σ p = 0) : fg_ σ (xnew σ p t) := by
  have ne : ∀ a, xt σ a ≠ 0 → a ≠ p := fun a h e => h (by rw [e]; exact hp)
  exact ⟨fun a h => va_up_ne _ _ (ne a h), fun f a _ h => va_up_ne _ _ (ne a h), fun a _ => rfl, rfl⟩
theorem fg_newA {σ : kx_S} {p t m : Nat} (hp : xt σ p = 0) : fg_ σ (xnewA σ p t m) := by
  have ne : ∀ a, xt σ a ≠ 0 → a ≠ p := fun a h e => h (by rw [e]; exact hp)
  exact ⟨fun a h => va_up_ne _ _ (ne a h), fun f a _ _ => rfl, fun a h => va_up_ne _ _ (ne a h), rfl⟩
/-- what a step that makes one thing keeps -/
theorem yI_mk {s : sz_T} {E E' : Nat → Prop} {g κ κ' : Nat → Nat} {B B' n n' : Nat} {σ τ : kx_S} {p t : Nat} (I : yI_ s E g κ B n σ) (hp : xt σ p = 0) (L : yL_ g κ' B' n' τ) (F : fg_ σ τ) (t1 : xt τ = va_up (xt σ) p t) (ht : t = 1 ∨ t = 8 ∨ t = 9 ∨ t = 20 ∨ t = 21 ∨ E' p) (hE : ∀ a, ¬ E' a → ¬ E a) (K : ∀ a, a ≠ p → κ' a = κ a) (i1 : ∀ f a, a ≠ p → xi τ f a = xi σ f a) (i2 : ∀ f, f ≠ 16 → xi τ f p = 0 ∨ xt τ p = 20 ∨ xt τ p = 21) (X : ∀ i, xe τ (g 1) i = xe σ (g 1) i) : yI_ s E' g κ' B' n' τ := by
  obtain ⟨iL, iP, iG, iN, iS⟩ := I
  have G' := iG
  obtain ⟨g0, ⟨a1, b1, c1⟩, ⟨a2, b2, c2⟩, ⟨a3, b3, c3⟩, ⟨a4, b4, c4⟩, ⟨a5, b5, c5⟩, ⟨a6, b6⟩, _⟩ := G'
  have ne : ∀ a, xt σ a ≠ 0 → a ≠ p := fun a h e => h (by rw [e]; exact hp)
  have n0 := ne (g 0) (by rw [g0]; decide)
  have n1 := ne (g 1) (by rw [b1]; decide)
  have n2 := ne (g 2) (by rw [b2]; decide)
  have n3 := ne (g 3) (by rw [b3]; decide)
  have n4 := ne (g 4) (by rw [b4]; decide)
  have n5 := ne (g 5) (by rw [b5]; decide)
  have n6 := ne (g 6) (by rw [b6]; decide)
  have tg : ∀ a, a ≠ p → xt τ a = xt σ a := fun a e => by rw [t1, va_up_ne _ _ e]
  have tp : xt τ p = t := by rw [t1, va_up_self]
  have K1 : ∀ a, xt σ a = 1 → κ' a = κ a := fun a h => K a (ne a (by rw [h]; decide))
  have sz5 : 0 ≤ (xi σ 18 (g 5)).toInt := (ry_size iL b5).1
  refine ⟨L, yP_fg F (fun a ha => ?_) K1 (fun a ha => iP a (hE a ha)), yG_fg F K1 iG, fun a => ?_, ?_, fun r hr => ?_, ?_, ?_⟩
  · by_cases e : a = p
    · rw [e, tp]
      rcases ht with h | h | h | h | h | h
      · exact .inr (.inr (.inl h))
      · exact .inr (.inr (.inr (.inl h)))
      · exact .inr (.inr (.inr (.inr (.inl h))))
      · exact .inr (.inr (.inr (.inr (.inr (.inr (.inl h))))))
      · exact .inr (.inr (.inr (.inr (.inr (.inr (.inr (.inl h)))))))
      · exact absurd (by rw [e]; exact h) ha
    · exact .inl (tg a e)
  · by_cases e : a = p
    · subst e
      have z : ∀ f, f ≠ 16 → xt τ a ≠ 20 → xt τ a ≠ 21 → xi τ f a = 0 := fun f hf h1 h2 => (i2 f hf).elim id (fun h => h.elim (fun x => absurd x h1) (fun x => absurd x h2))
      refine ⟨fun q => ?_, fun q => ?_, fun q => ?_, fun q => ?_, fun q => ?_, fun q => ?_, fun q => ?_, fun q _ => ?_⟩
      · rw [z 35 (by decide) (by omega) (by omega)]; decide
      · rw [z 48 (by decide) (by omega) (by omega)]; decide
      · rw [z 82 (by decide) (by omega) (by omega), z 83 (by decide) (by omega) (by omega)]; decide
      · rw [z 114 (by decide) (by omega) (by omega)]; decide
      · rw [z 129 (by decide) (by omega) (by omega)]; decide
      · rw [z 171 (by decide) (by omega) (by omega)]; decide
      · rw [z 177 (by decide) (by omega) (by omega)]; decide
      · rw [z 18 (by decide) (by omega) (by omega), i1 18 (g 5) n5, ki_z0]; exact sz5
    · rw [tg a e, i1 35 a e, i1 48 a e, i1 82 a e, i1 83 a e, i1 114 a e, i1 129 a e, i1 171 a e, i1 177 a e, i1 18 a e, i1 18 (g 5) n5, K a e]
      exact iN a
  · rw [i1 18 (g 1) n1, i1 18 (g 2) n2, i1 18 (g 4) n4, i1 18 (g 5) n5, i1 177 (g 6) n6, i1 217 (g 0) n0]
    exact iS.1
  · rw [i1 18 (g 1) n1] at hr
    obtain ⟨R, r1, r2⟩ := iS.2.1 r hr
    have tR : xt σ R ≠ 0 := by
      obtain ⟨y, ey, ty⟩ := ry_el iL b1 hr
      rw [r1] at ey
      have := Option.some.inj ey
      rw [this, ty, c1]
      decide
    have nR := ne R tR
    refine ⟨R, by rw [X]; exact r1, ?_⟩
    rw [i1 160 R nR, i1 165 R nR, i1 168 R nR, i1 164 R nR, i1 171 R nR, F.2.1 172 R (by decide) tR]
    exact r2
  · rw [i1 18 (g 1) n1]; exact iS.2.2.1
  · rw [i1 18 (g 1) n1, i1 18 (g 3) n3, i1 18 (g 4) n4, i1 18 (g 5) n5]; exact iS.2.2.2
theorem yI_new {s : sz_T} {E : Nat → Prop} {g κ : Nat → Nat} {B n : Nat} {σ : kx_S} {p t : Nat} (I : yI_ s E g κ B n σ) (hp : xt σ p = 0) (hz : p ≠ xz σ) (ht : t ≠ 1) : yI_ s (fun a => E a ∨ a = p) g κ (B + 1) n (xnew σ p t) := by
  have ne : ∀ a, xt σ a ≠ 0 → a ≠ p := fun a h e => h (by rw [e]; exact hp)
  refine yI_mk I hp (yL_other I.1 hp hz ht rfl (fun a e => va_up_ne _ _ e) (fun a e => va_up_ne _ _ e) (fun a _ => rfl) (fun a _ => rfl) rfl rfl) (fg_new hp) rfl (.inr (.inr (.inr (.inr (.inr (.inr rfl)))))) (fun a h q => h (.inl q)) (fun _ _ => rfl) (fun f a e => va_up_ne _ _ e) (fun f _ => .inl (va_up_self _ _ _)) (fun i => ?_)
  unfold xe
  have : xr (xnew σ p t) 17 (g 1) = xr σ 17 (g 1) := va_up_ne _ _ (ne _ (by rw [(yg1 I).2.1]; decide))
  rw [this]
  rfl
/-- a log or an order: nothing of it points anywhere -/
theorem yI_new0 {s : sz_T} {E : Nat → Prop} {g κ : Nat → Nat} {B n : Nat} {σ : kx_S} {p t : Nat} (I : yI_ s E g κ B n σ) (hp : xt σ p = 0) (hz : p ≠ xz σ) (ht : t = 8 ∨ t = 9) : yI_ s E g κ (B + 1) n (xnew σ p t) := by
  have ne : ∀ a, xt σ a ≠ 0 → a ≠ p := fun a h e => h (by rw [e]; exact hp)
  refine yI_mk I hp (yL_other I.1 hp hz (by omega) rfl (fun a e => va_up_ne _ _ e) (fun a e => va_up_ne _ _ e) (fun a _ => rfl) (fun a _ => rfl) rfl rfl) (fg_new hp) rfl (by omega) (fun a h q => h q) (fun _ _ => rfl) (fun f a e => va_up_ne _ _ e) (fun f _ => .inl (va_up_self _ _ _)) (fun i => ?_)
  unfold xe
  have : xr (xnew σ p t) 17 (g 1) = xr σ 17 (g 1) := va_up_ne _ _ (ne _ (by rw [(yg1 I).2.1]; decide))
  rw [this]
  rfl
theorem yI_newA {s : sz_T} {E : Nat → Prop} {g κ : Nat → Nat} {B n : Nat} {σ : kx_S} {p t m : Nat} (I : yI_ s E g κ B n σ) (hp : xt σ p = 0) (hz : p ≠ xz σ) (ht : t = 20 ∨ t = 21) : yI_ s E g κ (B + 1) n (xnewA σ p t m) := by
  have ne : ∀ a, xt σ a ≠ 0 → a ≠ p := fun a h e => h (by rw [e]; exact hp)
  have G1 := yg1 I
  obtain ⟨d, hd, _, _, o⟩ := I.1.1 (g 1) G1.2.1
  have dp : d ≠ p := by
    rcases o with o | o
    · rw [o.1]; exact hz.symm
    · exact ne d (by rw [o.2.1]; decide)
  have tp : xt (xnewA σ p t m) p = t := va_up_self _ _ _
  refine yI_mk I hp (yL_other I.1 hp hz (by omega) rfl (fun a e => rfl) (fun a e => rfl) (fun a e => va_up_ne _ _ e) (fun a e => va_up_ne _ _ e) rfl rfl) (fg_newA hp) rfl (by omega) (fun a h q => h q) (fun _ _ => rfl) (fun f a e => rfl) (fun f _ => by rw [tp]; omega) (fun i => ?_)
  rw [xe_some (σ := σ) hd, xe_some (σ := xnewA σ p t m) (d := d) hd]
  exact congrFun (va_up_ne _ _ dp) i
theorem yI_newL {s : sz_T} {E : Nat → Prop} {g κ : Nat → Nat} {B n : Nat} {σ τ : kx_S} {p t : Nat} (I : yI_ s E g κ B n σ) (hp : xt σ p = 0) (ht : kx_el t) (e : τ = xsr (xsi (xnew σ p 1) 16 p 0) 17 p (some (xz σ))) : yI_ s E g (va_up κ p t) (B + 1) (n + 1) τ ∧ fg_ σ τ ∧ xt τ p = 1 ∧ xi τ 18 p = 0 := by
  have ne : ∀ a, xt σ a ≠ 0 → a ≠ p := fun a h e => h (by rw [e]; exact hp)
  have i16 : ∀ f a, f ≠ 16 → xi τ f a = va_up (xi σ f) p 0 a := fun f a hf => by
    rw [e]
    show (if f = 16 then _ else va_up (xi σ f) p 0) a = _
    rw [if_neg hf]
  have i1 : ∀ f a, a ≠ p → xi τ f a = xi σ f a := fun f a q => by
    rw [e]
    show (if f = 16 then va_up (va_up (xi σ 16) p 0) p 0 else va_up (xi σ f) p 0) a = _
    by_cases c : f = 16
    · rw [if_pos c, va_up_ne _ _ q, va_up_ne _ _ q, c]
    · rw [if_neg c, va_up_ne _ _ q]
  have r17 : xr τ 17 = va_up (xr σ 17) p (some (xz σ)) := by
    rw [e]
    funext a
    show va_up (va_up (xr σ 17) p none) p (some (xz σ)) a = _
    by_cases q : a = p
    · rw [q, va_up_self, va_up_self]
    · rw [va_up_ne _ _ q, va_up_ne _ _ q, va_up_ne _ _ q]
  have t1 : xt τ = va_up (xt σ) p 1 := by rw [e]; rfl
  have F : fg_ σ τ := by
    refine ⟨fun a h => by rw [t1, va_up_ne _ _ (ne a h)], fun f a hf h => ?_, fun a _ => by rw [e]; rfl, by rw [e]; rfl⟩
    rw [e]
    show (if f = 17 then _ else va_up (xr σ f) p none) a = _
    rw [if_neg hf, va_up_ne _ _ (ne a h)]
  refine ⟨yI_mk I hp (yL_new I.1 hp ht t1 (by funext a; rw [i16 18 a (by decide)]) r17 (by rw [e]; rfl) (by rw [e]; rfl) (by rw [e]; rfl) (by rw [e]; rfl)) F t1 (.inl rfl) (fun a h q => h q) (fun a q => va_up_ne _ _ q) i1 (fun f hf => .inl (by rw [i16 f p hf, va_up_self])) (fun i => ?_), F, by rw [t1, va_up_self], by rw [i16 18 p (by decide), va_up_self]⟩
  unfold xe
  have : xr τ 17 (g 1) = xr σ 17 (g 1) := by rw [r17, va_up_ne _ _ (ne _ (by rw [(yg1 I).2.1]; decide))]
  rw [this, e]
  rfl
/-- a reference written into what is being made -/
theorem yI_srE {s : sz_T} {E : Nat → Prop} {g κ : Nat → Nat} {B n : Nat} {σ : kx_S} {f p : Nat} {v : Option Nat} (I : yI_ s E g κ B n σ) (hE : E p) (h17 : f ≠ 17) (h172 : f ≠ 172) (h0 : p ≠ g 0) : yI_ s E g κ B n (xsr σ f p v) := by
  have ra : ∀ k a, a ≠ p → xr (xsr σ f p v) k a = xr σ k a := fun k a q => xup_ne σ.2.2.1 q
  have r17 : xr (xsr σ f p v) 17 = xr σ 17 := by
    show (if 17 = f then _ else xr σ 17) = xr σ 17
    rw [if_neg (fun e => h17 e.symm)]
  have r172 : xr (xsr σ f p v) 172 = xr σ 172 := by
    show (if 172 = f then _ else xr σ 172) = xr σ 172
    rw [if_neg (fun e => h172 e.symm)]
  have ex : ∀ l i, xe (xsr σ f p v) l i = xe σ l i := fun l i => by
    unfold xe
    rw [r17]
    rfl
  have ec : ycap (xsr σ f p v) = ycap σ := by
    funext a
    unfold ycap
    rw [r17]
    rfl
  obtain ⟨iL, iP, iG, iN, iS⟩ := I
  refine ⟨⟨fun a ha => ?_, fun a b d ha hb => ?_, iL.2.2.1, ?_⟩, fun a ha => ?_, ?_, iN, ?_⟩
  · have := iL.1 a ha
    unfold yl_ at this ⊢
    rw [r17]
    exact this
  · rw [r17]
    exact iL.2.1 a b d ha hb
  · obtain ⟨LS, q1, q2, q3, q4⟩ := iL.2.2.2
    exact ⟨LS, q1, q2, q3, by rw [ec]; exact q4⟩
  · have q : a ≠ p := fun e => ha (by rw [e]; exact hE)
    have := iP a ha
    rw [ra 32 a q, ra 33 a q, ra 49 a q, ra 64 a q, ra 80 a q, ra 81 a q, ra 97 a q, ra 112 a q, ra 113 a q, ra 161 a q, ra 163 a q, ra 172 a q, ra 176 a q, ra 192 a q]
    exact this
  · have q := h0.symm
    unfold yG_ at iG ⊢
    rw [ra 208 _ q, ra 209 _ q, ra 210 _ q, ra 211 _ q, ra 212 _ q, ra 213 _ q, ra 214 _ q, ra 215 _ q, ra 216 _ q]
    exact iG
  · unfold yS_ at iS ⊢
    rw [r172]
    refine ⟨iS.1, fun r hr => ?_, iS.2.2⟩
    rw [ex]
    exact iS.2.1 r hr
theorem yP_add {E : Nat → Prop} {g κ : Nat → Nat} {σ : kx_S} {p t : Nat} (P : yP_ (fun a => E a ∨ a = p) g κ σ) (tp : xt σ p = t)
    (f2 : t = 2 → (∃ h, xr σ 32 p = some h ∧ xt σ h = 1 ∧ κ h = 8 ∧ h ≠ g 2) ∧ ∃ o, xr σ 33 p = some o ∧ xt σ o = 1 ∧ κ o = 9 ∧ o ≠ g 5)
    (f3 : t = 3 → ∃ h, xr σ 49 p = some h ∧ xt σ h = 1 ∧ κ h = 8 ∧ h ≠ g 2)
    (f4 : t = 4 → ∃ h, xr σ 64 p = some h ∧ xt σ h = 10)
    (f6 : t = 6 → ∃ h, xr σ 97 p = some h ∧ xt σ h = 20 ∧ xn σ h ≤ 500)
    (f10 : t = 10 → (xr σ 161 p = none ∨ ∃ h, xr σ 161 p = some h ∧ xt σ h = 10) ∧ (∃ h, xr σ 163 p = some h ∧ xt σ h = 1 ∧ κ h = 3) ∧ (xr σ 172 p = none ∨ ∃ h, xr σ 172 p = some h ∧ xt σ h = 2))
    (ht : t = 2 ∨ t = 3 ∨ t = 4 ∨ t = 6 ∨ t = 10) : yP_ E g κ σ := by
  have c : t ≠ 5 ∧ t ≠ 7 ∧ t ≠ 11 ∧ t ≠ 12 := by clear f2 f3 f4 f6 f10; omega
  intro a ha
  by_cases e : a = p
  · subst e
    rw [tp]
    exact ⟨f2, f3, f4, fun q => absurd q c.1, f6, fun q => absurd q c.2.1, f10, fun q => absurd q c.2.2.1, fun q => absurd q c.2.2.2⟩
  · exact P a (fun h => h.elim ha e)
theorem yI_129 {s : sz_T} {E : Nat → Prop} {g κ : Nat → Nat} {B n : Nat} {σ : kx_S} {a : Nat} {v : Int32} (h : 0 ≤ v.toInt ∧ v.toInt ≤ 15) (I : yI_ s E g κ B n σ) : yI_ s E g κ B n (xsi σ 129 a v) := by
  refine yI_siN (by decide) I (fun b => ?_)
  obtain ⟨q1, q2, q3, q4, q5, q6, q7, q8⟩ := I.2.2.2.1 b
  refine ⟨q1, q2, q3, q4, fun e => ?_, q6, q7, q8⟩
  show 0 ≤ (va_up (xi σ 129) a v b).toInt ∧ (va_up (xi σ 129) a v b).toInt ≤ 15
  by_cases e2 : b = a
  · rw [e2, va_up_self]; exact h
  · rw [va_up_ne _ _ e2]; exact q5 e
theorem yI_48 {s : sz_T} {E : Nat → Prop} {g κ : Nat → Nat} {B n : Nat} {σ : kx_S} {a : Nat} {v : Int32} (h : v.toInt ≤ 20) (I : yI_ s E g κ B n σ) : yI_ s E g κ B n (xsi σ 48 a v) := by
  refine yI_siN (by decide) I (fun b => ?_)
  obtain ⟨q1, q2, q3, q4, q5, q6, q7, q8⟩ := I.2.2.2.1 b
  refine ⟨q1, fun e => ?_, q3, q4, q5, q6, q7, q8⟩
  show (va_up (xi σ 48) a v b).toInt ≤ 20
  by_cases e2 : b = a
  · rw [e2, va_up_self]; exact h
  · rw [va_up_ne _ _ e2]; exact q2 e
/-- a list takes one more: all but the counts -/
theorem yI_tr2 {s s' : sz_T} {E : Nat → Prop} {g κ : Nat → Nat} {B n : Nat} {σ τ : kx_S} {l y : Nat} (I : yI_ s E g κ B n σ) (L : yL_ g κ B n τ) (A : ya_ l y σ τ) (S' : yS_ s' g τ) (N9 : ∀ a, xt σ a = 1 → κ a = 9 → (xi τ 18 a).toInt ≤ (xi τ 18 (g 5)).toInt) : yI_ s' E g κ B n τ := by
  obtain ⟨iL, iP, iG, iN, iS⟩ := I
  obtain ⟨F, T, i0, i18, r0, x0, x1, l0⟩ := A
  refine ⟨L, yP_fg F (fun a _ => (T a).elim .inl (fun h => .inr (.inr (.inr (.inr (.inr (.inr (.inr (.inr h.2))))))))) (fun _ _ => rfl) iP, yG_fg F (fun _ _ => rfl) iG, fun a => ?_, S'⟩
  obtain ⟨q1, q2, q3, q4, q5, q6, q7, q8⟩ := iN a
  have tg : ∀ {t : Nat}, xt τ a = t → t ≠ 22 → xt σ a = t := fun {t} e c => by
    rcases T a with h | h
    · rw [← h]; exact e
    · omega
  rw [i0 35 (by decide) (by decide), i0 48 (by decide) (by decide), i0 82 (by decide) (by decide), i0 83 (by decide) (by decide), i0 114 (by decide) (by decide), i0 129 (by decide) (by decide), i0 171 (by decide) (by decide), i0 177 (by decide) (by decide)]
  exact ⟨fun e => q1 (tg e (by decide)), fun e => q2 (tg e (by decide)), fun e => q3 (tg e (by decide)), fun e => q4 (tg e (by decide)), fun e => q5 (tg e (by decide)), fun e => q6 (tg e (by decide)), fun e => q7 (tg e (by decide)), fun e c => N9 a (tg e (by decide)) c⟩
theorem yS_add {s : sz_T} {E : Nat → Prop} {g κ : Nat → Nat} {B n : Nat} {σ τ : kx_S} {l y : Nat} (I : yI_ s E g κ B n σ) (A : ya_ l y σ τ) (h1 : l ≠ g 1) (b3 : (xi τ 18 (g 3)).toInt ≤ 6) (b4 : (xi τ 18 (g 4)).toInt ≤ 6) (b5 : (xi τ 18 (g 5)).toInt ≤ 60) : yS_ ((s.1.1, xi τ 18 (g 2), xi τ 18 (g 4), xi τ 18 (g 5), s.1.2.2.2.2.1, s.1.2.2.2.2.2), s.2) g τ := by
  obtain ⟨F, T, i0, i18, r0, x0, x1, l0⟩ := A
  have S := I.2.2.2.2
  have G1 := yg1 I
  have e1 : xi τ 18 (g 1) = xi σ 18 (g 1) := by rw [i18, va_up_ne _ _ (fun e => h1 e.symm)]
  refine ⟨?_, fun r hr => ?_, ?_, ?_, b3, b4, b5⟩
  · rw [e1, i0 177 (by decide) (by decide), i0 217 (by decide) (by decide)]
    have h := S.1
    have a1 : xi σ 18 (g 1) = s.1.1 := congrArg (fun p => p.1) h
    have a2 : xi σ 177 (g 6) = s.1.2.2.2.2.1 := congrArg (fun p => p.2.2.2.2.1) h
    have a3 : xi σ 217 (g 0) = s.1.2.2.2.2.2 := congrArg (fun p => p.2.2.2.2.2) h
    rw [a1, a2, a3]
  · rw [e1] at hr
    obtain ⟨R, r1, r2⟩ := S.2.1 r hr
    refine ⟨R, by rw [x0 (g 1) G1.2.1 r hr]; exact r1, ?_⟩
    rw [i0 160 (by decide) (by decide), i0 165 (by decide) (by decide), i0 168 (by decide) (by decide), i0 164 (by decide) (by decide), i0 171 (by decide) (by decide), r0 172 (by decide)]
    exact r2
  · rw [e1]; exact S.2.2.1
  · rw [e1]; exact S.2.2.2.1
