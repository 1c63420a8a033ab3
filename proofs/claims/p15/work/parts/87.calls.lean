/-! the class's calls -/
def yc_ (f : Nat → Int32) : Nat → Nat
  | 0 => 0
  | n + 1 => yc_ f n + (if f n = 0 then 0 else 1)
theorem yc_le {f : Nat → Int32} : ∀ n, yc_ f n ≤ n := by
  intro n
  induction n with
  | zero => unfold yc_; omega
  | succ n ih => unfold yc_; split <;> omega
theorem yc_eq {f h : Nat → Int32} : ∀ n, (∀ q, q < n → (h q = 0 ↔ f q = 0)) → yc_ h n = yc_ f n := by
  intro n
  induction n with
  | zero => intro _; unfold yc_; rfl
  | succ n ih =>
    intro e
    unfold yc_
    rw [ih (fun q hq => e q (by omega))]
    have := e n (by omega)
    by_cases c : f n = 0
    · rw [if_pos c, if_pos (this.2 c)]
    · rw [if_neg c, if_neg (fun x => c (this.1 x))]
theorem yc_up {f : Nat → Int32} {r : Nat} {v : Int32} (hr : f r = 0) (hv : v ≠ 0) : ∀ n, r < n → yc_ (upd f r v) n = yc_ f n + 1 := by
  intro n
  induction n with
  | zero => intro h; omega
  | succ n ih =>
    intro h
    unfold yc_
    by_cases e : r = n
    · subst e
      rw [yc_eq (f := f) r (fun q hq => by rw [ku_ne (by omega)]), ku_self, if_neg hv, if_pos hr]
    · rw [ih (by omega), ku_ne (fun x => e x.symm)]
      omega
def yZ_ (k : Nat) (s : sz_T) (L O : Nat) (σ : kx_S) : Prop := ∃ g κ B n, g 0 = L ∧ g 10 = O ∧ yJ_ s g κ B n σ ∧ n ≤ 5 + 13 * s.1.1.toNatClampNeg + 2 * yc_ s.2.2.2.2.2 10 ∧ B ≤ 15 + 26 * s.1.1.toNatClampNeg + 3 * k
theorem yB_ {k : Nat} {s : sz_T} {E : Nat → Prop} {g κ : Nat → Nat} {B n : Nat} {σ : kx_S} (J : yI_ s E g κ B n σ) (hk : k < 600) (hn : n ≤ 5 + 13 * s.1.1.toNatClampNeg + 2 * yc_ s.2.2.2.2.2 10) (hB : B ≤ 15 + 26 * s.1.1.toNatClampNeg + 3 * k) : B ≤ 2100 ∧ n ≤ 155 := by
  have h1 : xi σ 18 (g 1) = s.1.1 := congrArg (fun p => p.1) J.2.2.2.2.1
  have h2 := J.2.2.2.2.2.2.2.1
  rw [h1] at h2
  have h3 := yc_le (f := s.2.2.2.2.2) 10
  rw [ki_nat] at hn hB
  omega
abbrev qz_ (k L O : Nat) (z : Int32 × Int32 × sz_T) : Int32 → kx_S → Prop := fun r σ => z.1 = 0 ∧ r = z.2.1 ∧ yZ_ (k + 1) z.2.2 L O σ
abbrev qe_ (k L O : Nat) (nm : String) (z : Int32 × Int32 × sz_T) : String → kx_S → Prop := fun e σ => e = nm ∧ z.1 = 1 ∧ yZ_ (k + 1) z.2.2 L O σ
theorem yZ_of {k : Nat} {s : sz_T} {g κ : Nat → Nat} {B n : Nat} {σ : kx_S} (J : yJ_ s g κ B n σ) (hn : n ≤ 5 + 13 * s.1.1.toNatClampNeg + 2 * yc_ s.2.2.2.2.2 10) (hB : B ≤ 15 + 26 * s.1.1.toNatClampNeg + 3 * (k + 1)) : yZ_ (k + 1) s (g 0) (g 10) σ := ⟨g, κ, B, n, rfl, rfl, J, hn, hB⟩
theorem yZ_bump {k : Nat} {s : sz_T} {g κ : Nat → Nat} {B n : Nat} {σ : kx_S} (J : yJ_ s g κ B n σ) (hn : n ≤ 5 + 13 * s.1.1.toNatClampNeg + 2 * yc_ s.2.2.2.2.2 10) (hB : B ≤ 15 + 26 * s.1.1.toNatClampNeg + 3 * k) : yZ_ (k + 1) s (g 0) (g 10) (xbump σ) := ⟨g, κ, B + 1, n, rfl, rfl, ⟨yL_bump J.1, J.2⟩, hn, by omega⟩
theorem rx_within {v a b : Int32} {σ : kx_S} {Q : Int32 → kx_S → Prop} (k0 : ¬ (a.toInt ≤ v.toInt ∧ v.toInt ≤ b.toInt) → Q 0 σ) (k1 : a.toInt ≤ v.toInt → v.toInt ≤ b.toInt → Q 1 σ) : wX11_isWithin v a b σ Q := by
  refine ⟨fun c => k0 ?_, fun c => ⟨fun d => k0 ?_, fun d => k1 ?_ ?_⟩⟩
  all_goals (simp only [ki_lt] at *; omega)
/-- one of a list, or none -/
theorem rx_reachAt {s : sz_T} {g κ : Nat → Nat} {B n : Nat} {σ : kx_S} {r : Int32} {Q : Nat → kx_S → Prop} {QX : String → kx_S → Prop} (J : yJ_ s g κ B n σ) (hB : B ≤ 3000) (hn : n ≤ 200) (k1 : z_is r s → ∀ R, xe σ (g 1) r.toNatClampNeg = some R → xt σ R = 10 → Q R σ) (k0 : ¬ z_is r s → QX pz_N (xbump σ)) : wX11_reachAt (g 0) r σ Q QX := by
  have G1 := yg1 J
  have sz := ry_size J.1 G1.2.1
  have e1 : xi σ 18 (g 1) = s.1.1 := congrArg (fun p => p.1) J.2.2.2.2.1
  obtain ⟨u, eu, dd⟩ := ki_dec2E (a := xi σ 18 (g 1)) (by omega)
  refine ⟨yg0 J, g 1, G1.1, G1.2.1, G1.2.1, ?_⟩
  show wX11_isWithin _ _ (xi σ 18 (g 1) - 1) _ _
  rw [← eu]
  refine rx_within (fun c => ⟨fun x => absurd rfl x, fun _ => ⟨ry_room J.1 hB hn, k0 (fun h => c ?_)⟩⟩) (fun c1 c2 => ⟨fun _ => ⟨yg0 J, g 1, G1.1, G1.2.1, ?_⟩, fun x => absurd x (by decide)⟩)
  · rw [ki_z0, dd, e1]
    exact ⟨h.1, by have := h.2; omega⟩
  · rw [ki_z0] at c1
    refine ry_get J.1 G1.2.1 c1 (by omega) (fun R eR tR => ?_)
    rw [G1.2.2] at tR
    exact ⟨R, rfl, tR, k1 ⟨c1, by rw [← e1]; omega⟩ R eR tR⟩
/-- the reach of a number -/
theorem yS_at {s : sz_T} {g : Nat → Nat} {σ : kx_S} {r R : Nat} (S : yS_ s g σ) (hr : (r : Int) < s.1.1.toInt) (e : xe σ (g 1) r = some R) : (xi σ 160 R).toInt = (r : Int) ∧ xi σ 165 R = s.2.1 r ∧ xi σ 168 R = s.2.2.1 r ∧ xi σ 164 R = s.2.2.2.1 r ∧ xi σ 171 R = s.2.2.2.2.1 r ∧ (xr σ 172 R = none ↔ s.2.2.2.2.2 r = 0) := by
  have e1 : xi σ 18 (g 1) = s.1.1 := congrArg (fun p => p.1) S.1
  obtain ⟨R', q, o⟩ := S.2.1 r (by rw [e1]; exact hr)
  rw [e] at q
  rw [Option.some.inj q]
  exact o
theorem yI_165 {s : sz_T} {E : Nat → Prop} {g κ : Nat → Nat} {B n : Nat} {σ : kx_S} {r R : Nat} {v : Int32} (I : yI_ s E g κ B n σ) (hr : (r : Int) < s.1.1.toInt) (e : xe σ (g 1) r = some R) : yI_ (s.1, upd s.2.1 r v, s.2.2) E g κ B n (xsi σ 165 R v) := by
  have S := I.2.2.2.2
  have e1 : xi σ 18 (g 1) = s.1.1 := congrArg (fun p => p.1) S.1
  have o0 := yS_at S hr e
  refine ⟨I.1, I.2.1, I.2.2.1, I.2.2.2.1, S.1, fun q hq => ?_, fun q hq => ?_, S.2.2.2⟩
  · obtain ⟨R2, oe, o1, o2, o3, o4, o5, o6⟩ := S.2.1 q hq
    by_cases c : q = r
    · subst c
      have eR : R2 = R := by rw [e] at oe; exact (Option.some.inj oe).symm
      subst eR
      exact ⟨R2, oe, o1, (by show va_up (xi σ 165) R2 v R2 = upd s.2.1 q v q; rw [va_up_self, ku_self]), o3, o4, o5, o6⟩
    · have ne : R2 ≠ R := fun x => by
        have t := o0.1
        rw [← x] at t
        omega
      exact ⟨R2, oe, o1, (by show va_up (xi σ 165) R v R2 = upd s.2.1 r v q; rw [va_up_ne _ _ ne, ku_ne c]; exact o2), o3, o4, o5, o6⟩
  · obtain ⟨z1, z2, z3, z4, z5⟩ := S.2.2.1 q hq
    have hq' : s.1.1.toInt ≤ (q : Int) := by rw [← e1]; exact hq
    exact ⟨(by show upd s.2.1 r v q = 0; rw [ku_ne (by omega)]; exact z1), z2, z3, z4, z5⟩
theorem yI_168 {s : sz_T} {E : Nat → Prop} {g κ : Nat → Nat} {B n : Nat} {σ : kx_S} {r R : Nat} {v : Int32} (I : yI_ s E g κ B n σ) (hr : (r : Int) < s.1.1.toInt) (e : xe σ (g 1) r = some R) : yI_ (s.1, s.2.1, upd s.2.2.1 r v, s.2.2.2) E g κ B n (xsi σ 168 R v) := by
  have S := I.2.2.2.2
  have e1 : xi σ 18 (g 1) = s.1.1 := congrArg (fun p => p.1) S.1
  have o0 := yS_at S hr e
  refine ⟨I.1, I.2.1, I.2.2.1, I.2.2.2.1, S.1, fun q hq => ?_, fun q hq => ?_, S.2.2.2⟩
  · obtain ⟨R2, oe, o1, o2, o3, o4, o5, o6⟩ := S.2.1 q hq
    by_cases c : q = r
    · subst c
      have eR : R2 = R := by rw [e] at oe; exact (Option.some.inj oe).symm
      subst eR
      exact ⟨R2, oe, o1, o2, (by show va_up (xi σ 168) R2 v R2 = upd s.2.2.1 q v q; rw [va_up_self, ku_self]), o4, o5, o6⟩
    · have ne : R2 ≠ R := fun x => by
        have t := o0.1
        rw [← x] at t
        omega
      exact ⟨R2, oe, o1, o2, (by show va_up (xi σ 168) R v R2 = upd s.2.2.1 r v q; rw [va_up_ne _ _ ne, ku_ne c]; exact o3), o4, o5, o6⟩
  · obtain ⟨z1, z2, z3, z4, z5⟩ := S.2.2.1 q hq
    have hq' : s.1.1.toInt ≤ (q : Int) := by rw [← e1]; exact hq
    exact ⟨z1, (by show upd s.2.2.1 r v q = 0; rw [ku_ne (by omega)]; exact z2), z3, z4, z5⟩
theorem yI_164 {s : sz_T} {E : Nat → Prop} {g κ : Nat → Nat} {B n : Nat} {σ : kx_S} {r R : Nat} {v : Int32} (I : yI_ s E g κ B n σ) (hr : (r : Int) < s.1.1.toInt) (e : xe σ (g 1) r = some R) : yI_ (s.1, s.2.1, s.2.2.1, upd s.2.2.2.1 r v, s.2.2.2.2) E g κ B n (xsi σ 164 R v) := by
  have S := I.2.2.2.2
  have e1 : xi σ 18 (g 1) = s.1.1 := congrArg (fun p => p.1) S.1
  have o0 := yS_at S hr e
  refine ⟨I.1, I.2.1, I.2.2.1, I.2.2.2.1, S.1, fun q hq => ?_, fun q hq => ?_, S.2.2.2⟩
  · obtain ⟨R2, oe, o1, o2, o3, o4, o5, o6⟩ := S.2.1 q hq
    by_cases c : q = r
    · subst c
      have eR : R2 = R := by rw [e] at oe; exact (Option.some.inj oe).symm
      subst eR
      exact ⟨R2, oe, o1, o2, o3, (by show va_up (xi σ 164) R2 v R2 = upd s.2.2.2.1 q v q; rw [va_up_self, ku_self]), o5, o6⟩
    · have ne : R2 ≠ R := fun x => by
        have t := o0.1
        rw [← x] at t
        omega
      exact ⟨R2, oe, o1, o2, o3, (by show va_up (xi σ 164) R v R2 = upd s.2.2.2.1 r v q; rw [va_up_ne _ _ ne, ku_ne c]; exact o4), o5, o6⟩
  · obtain ⟨z1, z2, z3, z4, z5⟩ := S.2.2.1 q hq
    have hq' : s.1.1.toInt ≤ (q : Int) := by rw [← e1]; exact hq
    exact ⟨z1, z2, (by show upd s.2.2.2.1 r v q = 0; rw [ku_ne (by omega)]; exact z3), z4, z5⟩
theorem yI_171 {s : sz_T} {E : Nat → Prop} {g κ : Nat → Nat} {B n : Nat} {σ : kx_S} {r R : Nat} {v : Int32} (I : yI_ s E g κ B n σ) (hr : (r : Int) < s.1.1.toInt) (e : xe σ (g 1) r = some R) (hv : v = 0 ∨ v = 1) : yI_ (s.1, s.2.1, s.2.2.1, s.2.2.2.1, upd s.2.2.2.2.1 r v, s.2.2.2.2.2) E g κ B n (xsi σ 171 R v) := by
  have S := I.2.2.2.2
  have e1 : xi σ 18 (g 1) = s.1.1 := congrArg (fun p => p.1) S.1
  have o0 := yS_at S hr e
  refine ⟨I.1, I.2.1, I.2.2.1, fun b => ?_, S.1, fun q hq => ?_, fun q hq => ?_, S.2.2.2⟩
  · obtain ⟨q1, q2, q3, q4, q5, q6, q7, q8⟩ := I.2.2.2.1 b
    refine ⟨q1, q2, q3, q4, q5, fun e => ?_, q7, q8⟩
    show va_up (xi σ 171) R v b = 0 ∨ va_up (xi σ 171) R v b = 1
    by_cases e2 : b = R
    · rw [e2, va_up_self]; exact hv
    · rw [va_up_ne _ _ e2]; exact q6 e
  · obtain ⟨R2, oe, o1, o2, o3, o4, o5, o6⟩ := S.2.1 q hq
    by_cases c : q = r
    · subst c
      have eR : R2 = R := by rw [e] at oe; exact (Option.some.inj oe).symm
      subst eR
      exact ⟨R2, oe, o1, o2, o3, o4, (by show va_up (xi σ 171) R2 v R2 = upd s.2.2.2.2.1 q v q; rw [va_up_self, ku_self]), o6⟩
    · have ne : R2 ≠ R := fun x => by
        have t := o0.1
        rw [← x] at t
        omega
      exact ⟨R2, oe, o1, o2, o3, o4, (by show va_up (xi σ 171) R v R2 = upd s.2.2.2.2.1 r v q; rw [va_up_ne _ _ ne, ku_ne c]; exact o5), o6⟩
  · obtain ⟨z1, z2, z3, z4, z5⟩ := S.2.2.1 q hq
    have hq' : s.1.1.toInt ≤ (q : Int) := by rw [← e1]; exact hq
    exact ⟨z1, z2, z3, (by show upd s.2.2.2.2.1 r v q = 0; rw [ku_ne (by omega)]; exact z4), z5⟩
