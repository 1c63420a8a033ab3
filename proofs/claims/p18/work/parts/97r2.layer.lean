section
/-! the whole relation of class and reference -/
abbrev nt_T : Type := Int32 × Int32 × Int32 × Int32 × Int32 × Int32
abbrev fu_T : Type := ra_T × wt_T × lw_T × (Nat → Int32) × Int32
def jn1_ (t : nt_T) : Nat := t.1.toNatClampNeg
def jn2_ (t : nt_T) : Nat := t.2.1.toNatClampNeg
def jn3_ (t : nt_T) : Nat := t.2.2.1.toNatClampNeg
def jn4_ (t : nt_T) : Nat := t.2.2.2.1.toNatClampNeg
def jn5_ (t : nt_T) : Nat := t.2.2.2.2.1.toNatClampNeg
def gG_ (g : Nat → Nat) (x : Nat) (σ : kx_S) : Prop := g 0 = x ∧ xr σ 208 x = some (g 1) ∧ xr σ 209 x = some (g 2) ∧ xr σ 210 x = some (g 3) ∧ xr σ 211 x = some (g 4) ∧ xr σ 212 x = some (g 5) ∧ xr σ 213 x = some (g 6) ∧ xr σ 214 x = some (g 7) ∧ xr σ 215 x = some (g 8)
def fCn_ (n1 n2 n3 n4 : Nat) (A : fu_T) (x : Nat) (σ : kx_S) : Prop := ∃ (g : Nat → Nat) (T : Nat → Nat → Nat) (N : Nat → Nat) (st na tk ca tb : Nat), gG_ g x σ ∧ n22_ T N n1 A.1 ∧ qE_ T N g st na n1 n2 A.2.2.1.1 A.2.2.1.2.1 A.2.2.1.2.2 n4 n3 A.1 σ ∧ fT_ g T A.2.2.1.1 st na tk ca tb A.2.2.2.1 A.2.2.2.2 σ ∧ Yw_ n1 A.2.1 x σ
def fC_ (t : nt_T) (A : fu_T) (x : Nat) (σ : kx_S) : Prop := fCn_ (jn1_ t) (jn2_ t) (jn3_ t) (jn4_ t) A x σ
def fKn_ (n1 n2 n3 : Nat) (now : Int32) (A : fu_T) : Prop := aK_ n1 n2 n3 now 0 A.1 ∧ zi_ n1 n2 A.1 ∧ w_ok n1 A.2.1 ∧ kL_ A.2.2.1 ∧ ∀ i, i < 500 → ¬ A.2.2.2.1 i = -1
def fK_ (t : nt_T) (A : fu_T) : Prop := fKn_ (jn1_ t) (jn2_ t) (jn3_ t) t.2.2.2.2.2 A
def fS_ (A : fu_T) (μ : km_S) : Prop := fL_ A.2.2.1 μ ∧ (∀ i, i < 500 → km_a μ 52 i = A.2.2.2.1 i) ∧ km_i μ 10 = A.2.2.2.2
def fR_ (A : fu_T) (μ : km_S) : Prop := rQ_ (jn2_ (sm_ μ).1) A.1 μ ∧ wm_ μ = A.2.1 ∧ fS_ A μ
def LV_ (x : Nat) (σ : kx_S) (μ : km_S) : Prop := ∃ A, fK_ (sm_ μ).1 A ∧ fC_ (sm_ μ).1 A x σ ∧ fR_ A μ
theorem sB_im {μ : km_S} (I : im_ μ) : ((sm_ μ).1.1.toInt = (jn1_ (sm_ μ).1 : Int) ∧ jn1_ (sm_ μ).1 ≤ 10) ∧ ((sm_ μ).1.2.1.toInt = (jn2_ (sm_ μ).1 : Int) ∧ jn2_ (sm_ μ).1 ≤ 400) ∧ ((sm_ μ).1.2.2.1.toInt = (jn3_ (sm_ μ).1 : Int) ∧ jn3_ (sm_ μ).1 ≤ 6) ∧ ((sm_ μ).1.2.2.2.1.toInt = (jn4_ (sm_ μ).1 : Int) ∧ jn4_ (sm_ μ).1 ≤ 60) ∧ ((sm_ μ).1.2.2.2.2.1.toInt = (jn5_ (sm_ μ).1 : Int) ∧ jn5_ (sm_ μ).1 ≤ 500) := by
  obtain ⟨i1, i2, _, i4, i5, i6⟩ := I.1
  unfold jn1_ jn2_ jn3_ jn4_ jn5_
  rw [ki_nat, ki_nat, ki_nat, ki_nat, ki_nat]
  have e1 : (sm_ μ).1.1 = km_i μ 3 := rfl
  have e2 : (sm_ μ).1.2.1 = km_i μ 4 := rfl
  have e3 : (sm_ μ).1.2.2.1 = km_i μ 7 := rfl
  have e4 : (sm_ μ).1.2.2.2.1 = km_i μ 8 := rfl
  have e5 : (sm_ μ).1.2.2.2.2.1 = km_i μ 9 := rfl
  rw [e1, e2, e3, e4, e5]
  omega
/-! numbers after a call -/
def nu_ (t : nt_T) (n1 n2 n3 n4 : Nat) (now : Int32) : Prop := jn1_ t = n1 ∧ jn2_ t = n2 ∧ jn3_ t = n3 ∧ jn4_ t = n4 ∧ t.2.2.2.2.2 = now
theorem fC_of {t : nt_T} {n1 n2 n3 n4 x : Nat} {now : Int32} {A : fu_T} {σ : kx_S} (h : nu_ t n1 n2 n3 n4 now) (k : fCn_ n1 n2 n3 n4 A x σ) : fC_ t A x σ := by
  obtain ⟨rfl, rfl, rfl, rfl, _⟩ := h
  exact k
theorem fK_of {t : nt_T} {n1 n2 n3 n4 : Nat} {now : Int32} {A : fu_T} (h : nu_ t n1 n2 n3 n4 now) (k : fKn_ n1 n2 n3 now A) : fK_ t A := by
  obtain ⟨rfl, rfl, rfl, _, rfl⟩ := h
  exact k
section
variable {s : sz_T}
theorem nu_same {t : nt_T} (h : t = s.1) : nu_ t (jn1_ s.1) (jn2_ s.1) (jn3_ s.1) (jn4_ s.1) s.1.2.2.2.2.2 := by
  subst h
  exact ⟨rfl, rfl, rfl, rfl, rfl⟩
theorem nz_dam {r v : Int32} : (z_dam r v s).2.2.1 = s.1 := by
  unfold z_dam
  split
  · split <;> rfl
  · rfl
theorem nz_gate {r v : Int32} : (z_gate r v s).2.2.1 = s.1 := by
  unfold z_gate
  split
  · split <;> rfl
  · rfl
theorem nz_melt {r v : Int32} : (z_melt r v s).2.2.1 = s.1 := by
  unfold z_melt
  split
  · split <;> rfl
  · rfl
theorem nz_boom {r v : Int32} : (z_boom r v s).2.2.1 = s.1 := by
  unfold z_boom
  split
  · split <;> rfl
  · rfl
theorem nz_watch {r v : Int32} : (z_watch r v s).2.2.1 = s.1 := by
  unfold z_watch
  split <;> rfl
theorem ki_sucN {x : Int32} {n : Nat} (h : x.toInt = (n : Int)) (hb : n ≤ 1000) : (x + 1).toNatClampNeg = n + 1 := ki_toN (ki_addN h ki_z1 (by omega))
theorem nu_reach {a b c d : Int32} (h : s.1.1.toInt = (jn1_ s.1 : Int)) (hb : jn1_ s.1 ≤ 10) : nu_ (z_reach a b c d s).2.2.1 (if s.1.1 = 10 ∨ a < -1 ∨ s.1.1 ≤ a ∨ b < 1 ∨ 12 < b ∨ c < 1 ∨ 20 < c ∨ d < 0 ∨ ¬ d ≤ 1000 then jn1_ s.1 else jn1_ s.1 + 1) (jn2_ s.1) (jn3_ s.1) (jn4_ s.1) s.1.2.2.2.2.2 := by
  unfold z_reach
  split
  · exact ⟨rfl, rfl, rfl, rfl, rfl⟩
  · exact ⟨ki_sucN h (by omega), rfl, rfl, rfl, rfl⟩
theorem nu_cut {a b c : Int32} (h : s.1.2.1.toInt = (jn2_ s.1 : Int)) (hb : jn2_ s.1 ≤ 400) : nu_ (z_cut a b c s).2.2.1 (jn1_ s.1) (if s.1.2.1 = 400 ∨ a < 0 ∨ 15 < a ∨ b < 1 ∨ 9 < b ∨ c < 0 ∨ ¬ c ≤ 1000000 then jn2_ s.1 else jn2_ s.1 + 1) (jn3_ s.1) (jn4_ s.1) s.1.2.2.2.2.2 := by
  unfold z_cut
  split
  · exact ⟨rfl, rfl, rfl, rfl, rfl⟩
  · exact ⟨rfl, ki_sucN h (by omega), rfl, rfl, rfl⟩
theorem nu_crew {k r : Int32} (h : s.1.2.2.1.toInt = (jn3_ s.1 : Int)) (hb : jn3_ s.1 ≤ 6) : nu_ (z_crew k r s).2.2.1 (jn1_ s.1) (jn2_ s.1) (if z_is r s ∧ k = -1 ∧ ¬ s.1.2.2.1 = 6 then jn3_ s.1 + 1 else jn3_ s.1) (jn4_ s.1) s.1.2.2.2.2.2 := by
  unfold z_crew
  by_cases hz : z_is r s
  · rw [if_pos hz]
    by_cases d : k = -1
    · rw [if_pos d]
      by_cases e : s.1.2.2.1 = 6
      · rw [if_pos e, if_neg (fun q => q.2.2 e)]
        exact ⟨rfl, rfl, rfl, rfl, rfl⟩
      · rw [if_neg e, if_pos ⟨hz, d, e⟩]
        exact ⟨rfl, rfl, ki_sucN h (by omega), rfl, rfl⟩
    · rw [if_neg d]
      have e : (if z_is r s ∧ k = -1 ∧ ¬ s.1.2.2.1 = 6 then jn3_ s.1 + 1 else jn3_ s.1) = jn3_ s.1 := if_neg (fun q => d q.2.1)
      rw [e]
      split <;> exact ⟨rfl, rfl, rfl, rfl, rfl⟩
  · rw [if_neg hz, if_neg (fun q => hz q.1)]
    exact ⟨rfl, rfl, rfl, rfl, rfl⟩
theorem nu_order {r a b c : Int32} (h : s.1.2.2.2.1.toInt = (jn4_ s.1 : Int)) (hb : jn4_ s.1 ≤ 60) : nu_ (z_order r a b c s).2.2.1 (jn1_ s.1) (jn2_ s.1) (jn3_ s.1) (if z_is r s ∧ ¬ (s.2.2.2.2.2 r.toNatClampNeg = 0 ∨ a < 0 ∨ 15 < a ∨ b < 1 ∨ 9 < b ∨ c < 1 ∨ 100 < c ∨ s.1.2.2.2.1 = 60) then jn4_ s.1 + 1 else jn4_ s.1) s.1.2.2.2.2.2 := by
  unfold z_order
  by_cases hz : z_is r s
  · rw [if_pos hz]
    by_cases d : s.2.2.2.2.2 r.toNatClampNeg = 0 ∨ a < 0 ∨ 15 < a ∨ b < 1 ∨ 9 < b ∨ c < 1 ∨ 100 < c ∨ s.1.2.2.2.1 = 60
    · rw [if_pos d, if_neg (fun q => q.2 d)]
      exact ⟨rfl, rfl, rfl, rfl, rfl⟩
    · rw [if_neg d, if_pos ⟨hz, d⟩]
      exact ⟨rfl, rfl, rfl, ki_sucN h (by omega), rfl⟩
  · rw [if_neg hz, if_neg (fun q => hz q.1)]
    exact ⟨rfl, rfl, rfl, rfl, rfl⟩
theorem nu_feed : nu_ (z_feed s).2.2.1 (jn1_ s.1) (jn2_ s.1) (jn3_ s.1) (jn4_ s.1) s.1.2.2.2.2.2 := by
  unfold z_feed
  split <;> exact ⟨rfl, rfl, rfl, rfl, rfl⟩
theorem nu_law {a b : Int32} : nu_ (z_law a b s).2.1 (jn1_ s.1) (jn2_ s.1) (jn3_ s.1) (jn4_ s.1) s.1.2.2.2.2.2 := by
  unfold z_law
  split <;> exact ⟨rfl, rfl, rfl, rfl, rfl⟩
theorem nu_hours {m : Int32} : nu_ (z_hours m s).2.2.1 (jn1_ s.1) (jn2_ s.1) (jn3_ s.1) (jn4_ s.1) (if m < 0 ∨ 200 < m ∨ ¬ (s.1.2.2.2.2.2 + m ≤ 20000) then s.1.2.2.2.2.2 else s.1.2.2.2.2.2 + m) := by
  unfold z_hours
  split <;> exact ⟨rfl, rfl, rfl, rfl, rfl⟩
end
/-! what a call does to it -/
def fa_dam (r v : Int32) (s : sz_T) (A : fu_T) : fu_T := (ab_dam r v s A.1, wz_dam r v s A.2.1, A.2.2)
def fa_boom (r m v : Int32) (s : sz_T) (A : fu_T) : fu_T := (ab_boom r m v s A.1, A.2)
def fa_watch (r v : Int32) (s : sz_T) (A : fu_T) : fu_T := (ab_watch r v s A.1, A.2)
def fa_crew (k r : Int32) (s : sz_T) (A : fu_T) : fu_T := (ab_crew k r s A.1, A.2)
def fa_cut (m z t : Int32) (s : sz_T) (A : fu_T) : fu_T := (ab_cut m z t s A.1, A.2)
def fa_order (r m z n : Int32) (s : sz_T) (A : fu_T) : fu_T := (ab_order r m z n s A.1, A.2)
def fa_reach (n l c j : Int32) (s : sz_T) (A : fu_T) : fu_T := (ab_reach n l c j s A.1, wz_reach n l c j s A.2.1, A.2.2)
def fa_feed (a b c d e : Int32) (s : sz_T) (A : fu_T) : fu_T := (A.1, A.2.1, A.2.2.1, ab_tape a b c d e s A.2.2.2.1, A.2.2.2.2)
def fa_law (a b : Int32) (s : sz_T) (A : fu_T) : fu_T := (A.1, A.2.1, (ab_law a b s A.2.2.2.1 A.2.2.1 A.2.2.2.2).1, A.2.2.2.1, (ab_law a b s A.2.2.2.1 A.2.2.1 A.2.2.2.2).2)
def fan_let (l r c : Int32) (s : sz_T) (A : fu_T) : Option (Int32 × ra_T) := an_let (jn1_ s.1) (jn2_ s.1) A.1 A.2.2.1.2.1 A.2.2.1.1 A.2.2.1.2.2 s.1.2.2.2.2.2 l r c
def fa_let (l r c : Int32) (s : sz_T) (A : fu_T) : fu_T := match fan_let l r c s A with
  | some q => (q.2, A.2)
  | none => A
noncomputable def fa_hours (m : Int32) (s : sz_T) (A : fu_T) : fu_T := if m < 0 ∨ 200 < m ∨ ¬ (s.1.2.2.2.2.2 + m ≤ 20000) then A else ((ah_ (jn1_ s.1) (jn3_ s.1) (jn4_ s.1) s.2.1 s.2.2.1 s.2.2.2.1 m.toNatClampNeg (s.1.2.2.2.2.2, A.1, A.2.1)).2.1, (ah_ (jn1_ s.1) (jn3_ s.1) (jn4_ s.1) s.2.1 s.2.2.1 s.2.2.2.1 m.toNatClampNeg (s.1.2.2.2.2.2, A.1, A.2.1)).2.2, A.2.2)
/-! frames of the class -/
abbrev cw_P : List Nat := [208, 209, 210, 211, 212, 213, 214, 215]
abbrev cw_W : List Nat := [112, 113, 176, 192, 208, 209, 210, 211, 212, 213, 214, 215]
def cw_ (σ u : kx_S) : Prop := ∀ x, xt σ x ≠ 0 → xt u x = xt σ x ∧ xn u x = xn σ x ∧ xai u x = xai σ x ∧ (∀ f, f ∈ cw_W → xr u f x = xr σ f x) ∧ xi u 219 x = xi σ 219 x
def pw_ (σ u : kx_S) : Prop := ∀ x, xt σ x ≠ 0 → xt u x = xt σ x ∧ ∀ f, f ∈ cw_P → xr u f x = xr σ f x
theorem cw_refl {σ : kx_S} : cw_ σ σ := fun _ _ => ⟨rfl, rfl, rfl, fun _ _ => rfl, rfl⟩
theorem pw_refl {σ : kx_S} : pw_ σ σ := fun _ _ => ⟨rfl, fun _ _ => rfl⟩
theorem cw_fw {σ : kx_S} {W : List Nat} (hW : ∀ f ∈ W, f ∉ cw_W ∧ f ≠ 219 ∧ f ≠ 1001 ∧ f ≠ 1004) : fw_ (cw_ σ) W := by
  intro u h
  have old : ∀ p, xt u p = 0 → ∀ x, xt σ x ≠ 0 → x ≠ p := fun p hp x hx e => hx (by rw [← (h x hx).1, e]; exact hp)
  refine ⟨fun f hf => ⟨fun b v x hx => ?_, fun b v x hx => ?_, fun b v => h⟩, fun q => absurd rfl (hW _ q).2.2.1, fun _ _ _ _ => h, fun _ => ⟨fun _ _ _ => h, fun _ _ => h⟩, fun q => absurd rfl (hW _ q).2.2.2, fun _ => h, fun t _ p hp x hx => ?_, fun t _ p hp n x hx => ?_⟩
  · obtain ⟨h1, h2, h3, h4, h5⟩ := h x hx
    refine ⟨h1, h2, h3, h4, Eq.trans ?_ h5⟩
    show (if 219 = f then va_up (u.2.1 f) b v else u.2.1 219) x = u.2.1 219 x
    rw [if_neg (fun e => (hW f hf).2.1 e.symm)]
  · obtain ⟨h1, h2, h3, h4, h5⟩ := h x hx
    refine ⟨h1, h2, h3, fun e he => Eq.trans ?_ (h4 e he), h5⟩
    show (if e = f then va_up (u.2.2.1 f) b v else u.2.2.1 e) x = u.2.2.1 e x
    rw [if_neg (fun q => (hW f hf).1 (by rw [← q]; exact he))]
  · obtain ⟨h1, h2, h3, h4, h5⟩ := h x hx
    have ne := old p hp x hx
    exact ⟨(va_up_ne _ _ ne).trans h1, h2, h3, fun e he => (va_up_ne _ _ ne).trans (h4 e he), (va_up_ne _ _ ne).trans h5⟩
  · obtain ⟨h1, h2, h3, h4, h5⟩ := h x hx
    have ne := old p hp x hx
    exact ⟨(va_up_ne _ _ ne).trans h1, (va_up_ne _ _ ne).trans h2, (va_up_ne _ _ ne).trans h3, h4, h5⟩
theorem pw_fw {σ : kx_S} {W : List Nat} (hW : ∀ f ∈ W, f ∉ cw_P) : fw_ (pw_ σ) W := by
  intro u h
  have old : ∀ p, xt u p = 0 → ∀ x, xt σ x ≠ 0 → x ≠ p := fun p hp x hx e => hx (by rw [← (h x hx).1, e]; exact hp)
  refine ⟨fun f hf => ⟨fun b v => h, fun b v x hx => ?_, fun b v => h⟩, fun _ _ _ _ => h, fun _ _ _ _ => h, fun _ => ⟨fun _ _ _ => h, fun _ _ => h⟩, fun _ _ _ => h, fun _ => h, fun t _ p hp x hx => ?_, fun t _ p hp n x hx => ?_⟩
  · obtain ⟨h1, h4⟩ := h x hx
    refine ⟨h1, fun e he => Eq.trans ?_ (h4 e he)⟩
    show (if e = f then va_up (u.2.2.1 f) b v else u.2.2.1 e) x = u.2.2.1 e x
    rw [if_neg (fun q => hW f hf (by rw [← q]; exact he))]
  · obtain ⟨h1, h4⟩ := h x hx
    have ne := old p hp x hx
    exact ⟨(va_up_ne _ _ ne).trans h1, fun e he => (va_up_ne _ _ ne).trans (h4 e he)⟩
  · obtain ⟨h1, h4⟩ := h x hx
    exact ⟨(va_up_ne _ _ (old p hp x hx)).trans h1, h4⟩
section
variable {T T' : Nat → Nat → Nat} {N : Nat → Nat} {g κ : Nat → Nat} {st na nr nl nc no m tk ca tb : Nat} {s : sz_T} {B n : Nat} {a b : ra_T} {σ u : kx_S} {F : Nat → Int32} {flt : Int32}
theorem gG_fr (J : yJ_ s g κ B n σ) (h : ∀ f, f ∈ cw_P → xr u f (g 0) = xr σ f (g 0)) : gG_ g (g 0) u := ⟨rfl, (h 208 (by decide)).trans (yg1 J).1, (h 209 (by decide)).trans (yg2 J).1, (h 210 (by decide)).trans (yg3 J).1, (h 211 (by decide)).trans (yg4 J).1, (h 212 (by decide)).trans (yg5 J).1, (h 213 (by decide)).trans (yg6 J).1, (h 214 (by decide)).trans (yg7 J).1, (h 215 (by decide)).trans (yg8 J).1⟩
theorem gG_pw (J : yJ_ s g κ B n σ) (h : pw_ σ u) : gG_ g (g 0) u := gG_fr J (h (g 0) (by rw [yg0 J]; decide)).2
theorem gG_cw (J : yJ_ s g κ B n σ) (h : cw_ σ u) : gG_ g (g 0) u := gG_fr J (fun f hf => (h (g 0) (by rw [yg0 J]; decide)).2.2.2.1 f (by
  have : ∀ f, f ∈ cw_P → f ∈ cw_W := by decide
  exact this f hf))
theorem fT_cw (J : yJ_ s g κ B n σ) (t : fT_ g T m st na tk ca tb F flt σ) (e20 : T' 20 = T 20) (k : cw_ σ u) : fT_ g T' m st na tk ca tb F flt u := by
  obtain ⟨⟨t1, t2, t3, t4⟩, ⟨t5, t6, t7, t8, t9⟩, t10, t11, t12, t13⟩ := t
  have o0 := k (g 0) (by rw [yg0 J]; decide)
  have o6 := k (g 6) (by rw [(yg6 J).2]; decide)
  have o7 := k (g 7) (by rw [(yg7 J).2]; decide)
  have ok := k tk (by rw [t5]; decide)
  have oc := k ca (by rw [t6]; decide)
  have ob := k tb (by rw [t7]; decide)
  refine ⟨⟨(o7.2.2.2.1 112 (by decide)).trans t1, (o7.2.2.2.1 113 (by decide)).trans t2, (ok.2.2.2.1 192 (by decide)).trans t3, (o6.2.2.2.1 176 (by decide)).trans t4⟩, ⟨ok.1.trans t5, oc.1.trans t6, ob.1.trans t7, oc.2.1.trans t8, ob.2.1.trans t9⟩, t10, ?_, fun i hi => by rw [ob.2.2.1]; exact t12 i hi, o0.2.2.2.2.trans t13⟩
  rw [e20]
  exact t11
theorem fT_hf {W : List Nat} (J : yJ_ s g κ B n σ) (t : fT_ g T m st na tk ca tb F flt σ) (k : hf_ W g κ st na σ u) (hW : 219 ∉ W) : fT_ g T m st na tk ca tb F flt u := by
  obtain ⟨⟨t1, t2, t3, t4⟩, ⟨t5, t6, t7, t8, t9⟩, t10, t11, t12, t13⟩ := t
  obtain ⟨⟨f1, f2, f3, f4⟩, k2, k3, k4, k5⟩ := k
  have o0 : xt σ (g 0) ≠ 0 := by rw [yg0 J]; decide
  have o6 : xt σ (g 6) ≠ 0 := by rw [(yg6 J).2]; decide
  have o7 : xt σ (g 7) ≠ 0 := by rw [(yg7 J).2]; decide
  have ok : xt σ tk ≠ 0 := by rw [t5]; decide
  have oc : xt σ ca ≠ 0 := by rw [t6]; decide
  have ob : xt σ tb ≠ 0 := by rw [t7]; decide
  exact ⟨⟨by rw [f2 112 _ (by decide) o7]; exact t1, by rw [f2 113 _ (by decide) o7]; exact t2, by rw [f2 192 _ (by decide) ok]; exact t3, by rw [f2 176 _ (by decide) o6]; exact t4⟩, ⟨by rw [f1 _ ok]; exact t5, by rw [f1 _ oc]; exact t6, by rw [f1 _ ob]; exact t7, by rw [f3 _ oc]; exact t8, by rw [f3 _ ob]; exact t9⟩, t10, t11, fun i hi => by rw [k4 tb ob t10.2.1 t10.2.2.1]; exact t12 i hi, by rw [k2 219 _ hW (by decide) (by decide) o0]; exact t13⟩
theorem gG_fg (J : yJ_ s g κ B n σ) (k : fg_ σ u) : gG_ g (g 0) u := gG_fr J (fun f hf => k.2.1 f _ (by intro e; rw [e] at hf; exact absurd hf (by decide)) (by rw [yg0 J]; decide))
theorem fT_nW {W : List Nat} (t : fT_ g T m st na tk ca tb F flt σ) (k : nW_ W σ u) (hW : ∀ f ∈ W, f ∉ cw_W ∧ f ≠ 219) : fT_ g T m st na tk ca tb F flt u := by
  obtain ⟨⟨t1, t2, t3, t4⟩, ⟨t5, t6, t7, t8, t9⟩, t10, t11, t12, t13⟩ := t
  obtain ⟨k1, k2, k3, k4, k5, k6, k7⟩ := k
  have kt : ∀ x, xt u x = xt σ x := fun x => congrFun k2 x
  have kr : ∀ f x, f ∈ cw_W → xr u f x = xr σ f x := fun f x hf => k3 f x (fun q => (hW f q).1 hf)
  exact ⟨⟨by rw [kr 112 _ (by decide)]; exact t1, by rw [kr 113 _ (by decide)]; exact t2, by rw [kr 192 _ (by decide)]; exact t3, by rw [kr 176 _ (by decide)]; exact t4⟩, ⟨by rw [kt]; exact t5, by rw [kt]; exact t6, by rw [kt]; exact t7, by rw [k4]; exact t8, by rw [k4]; exact t9⟩, t10, t11, fun i hi => by rw [k5]; exact t12 i hi, by rw [k1 219 _ (fun q => (hW _ q).2 rfl)]; exact t13⟩
theorem n22_e (h : n22_ T N nr a) (e : b.1 22 = a.1 22) : n22_ T N nr b := by
  unfold n22_ at h ⊢
  rw [e]
  exact h
end
theorem fC_open {k L O : Nat} {s : sz_T} {A : fu_T} {σ : kx_S} (hk : k < 600) (Z : yZ_ k s L O σ) (VC : fC_ s.1 A L σ) : ∃ (g κ : Nat → Nat) (B n : Nat) (T : Nat → Nat → Nat) (N : Nat → Nat) (st na tk ca tb : Nat), g 0 = L ∧ yJ_ s g κ B n σ ∧ (B ≤ 2100 ∧ n ≤ 155) ∧ n22_ T N (jn1_ s.1) A.1 ∧ qE_ T N g st na (jn1_ s.1) (jn2_ s.1) A.2.2.1.1 A.2.2.1.2.1 A.2.2.1.2.2 (jn4_ s.1) (jn3_ s.1) A.1 σ ∧ fT_ g T A.2.2.1.1 st na tk ca tb A.2.2.2.1 A.2.2.2.2 σ ∧ Yw_ (jn1_ s.1) A.2.1 L σ := by
  obtain ⟨g, κ, B, n, eg, eO, J, hn, hB⟩ := Z
  obtain ⟨g', T, N, st, na, tk, ca, tb, ⟨p0, p1, p2, p3, p4, p5, p6, p7, p8⟩, n22, hE, hT, hV⟩ := VC
  subst eg
  have e1 : g' 1 = g 1 := Option.some.inj (p1.symm.trans (yg1 J).1)
  have e2 : g' 2 = g 2 := Option.some.inj (p2.symm.trans (yg2 J).1)
  have e3 : g' 3 = g 3 := Option.some.inj (p3.symm.trans (yg3 J).1)
  have e4 : g' 4 = g 4 := Option.some.inj (p4.symm.trans (yg4 J).1)
  have e5 : g' 5 = g 5 := Option.some.inj (p5.symm.trans (yg5 J).1)
  have e6 : g' 6 = g 6 := Option.some.inj (p6.symm.trans (yg6 J).1)
  have e7 : g' 7 = g 7 := Option.some.inj (p7.symm.trans (yg7 J).1)
  have e8 : g' 8 = g 8 := Option.some.inj (p8.symm.trans (yg8 J).1)
  refine ⟨g, κ, B, n, T, N, st, na, tk, ca, tb, rfl, J, yB_ J hk hn hB, n22, ?_, ?_, hV⟩
  · unfold qE_ at hE ⊢
    rw [p0, e1, e2, e3, e4, e5, e8] at hE
    exact hE
  · unfold fT_ at hT ⊢
    rw [p0, e6, e7] at hT
    exact hT
theorem lv_of {L : Nat} {A : fu_T} {σ : kx_S} {μ : km_S} (K : fK_ (sm_ μ).1 A) (VC : fC_ (sm_ μ).1 A L σ) (VR : fR_ A μ) : lv_ L σ μ := by
  obtain ⟨g', T, N, st, na, tk, ca, tb, _, _, _, _, hV⟩ := VC
  have e := VR.2.1
  unfold lv_
  rw [e]
  exact ⟨K.2.2.1, hV⟩
theorem fC_nW {L : Nat} {t : nt_T} {A : fu_T} {σ u : kx_S} {W : List Nat} (VC : fC_ t A L σ) (k : nW_ W σ u) (hW : ∀ f ∈ W, f ∉ qE_W) (hW2 : ∀ f ∈ W, f ∉ cw_W ∧ f ≠ 219) (hV : Yw_ (jn1_ t) A.2.1 L u) : fC_ t A L u := by
  obtain ⟨g, T, N, st, na, tk, ca, tb, ⟨p0, p1, p2, p3, p4, p5, p6, p7, p8⟩, n22, hE, hT, _⟩ := VC
  have kr : ∀ f x, f ∈ cw_W → xr u f x = xr σ f x := fun f x hf => k.2.2.1 f x (fun q => (hW2 f q).1 hf)
  exact ⟨g, T, N, st, na, tk, ca, tb, ⟨p0, by rw [kr 208 _ (by decide)]; exact p1, by rw [kr 209 _ (by decide)]; exact p2, by rw [kr 210 _ (by decide)]; exact p3, by rw [kr 211 _ (by decide)]; exact p4, by rw [kr 212 _ (by decide)]; exact p5, by rw [kr 213 _ (by decide)]; exact p6, by rw [kr 214 _ (by decide)]; exact p7, by rw [kr 215 _ (by decide)]; exact p8⟩, n22, qE_nW hE k hW, fT_nW hT k hW2, hV⟩
/-! frames of the reference -/
theorem fS_nm {A : fu_T} {μ u : km_S} {W : List Nat} (h : fS_ A μ) (F : nm_ W μ u) (hW : ∀ f ∈ W, f ∉ [5, 53, 54, 55, 56, 58] ∧ f ≠ 52 ∧ f ≠ 10) : fS_ A u := by
  obtain ⟨h1, h2, h3⟩ := h
  refine ⟨fL_nm h1 F (fun f hf => (hW f hf).1), ?_, (F.1 10 (fun q => (hW _ q).2.2 rfl)).trans h3⟩
  rw [F.2 52 (fun q => (hW _ q).2.1 rfl)]
  exact h2
end
section
/-! what is told apart from both, a row a call -/
section
variable {s : sz_T} {A : fu_T}
theorem kp_dam {r v : Int32} (hs : s.1.1.toInt = (jn1_ s.1 : Int)) (K : fK_ s.1 A) : fK_ (z_dam r v s).2.2.1 (fa_dam r v s A) := fK_of (nu_same nz_dam) ⟨(pk_dam hs K.1 K.2.1).1, (pk_dam hs K.1 K.2.1).2, w_ok_dam K.2.2.1 hs, K.2.2.2⟩
theorem kp_gate {r v : Int32} (K : fK_ s.1 A) : fK_ (z_gate r v s).2.2.1 A := fK_of (nu_same nz_gate) K
theorem kp_melt {r v : Int32} (K : fK_ s.1 A) : fK_ (z_melt r v s).2.2.1 A := fK_of (nu_same nz_melt) K
theorem kp_boom {r m v : Int32} (hs : s.1.1.toInt = (jn1_ s.1 : Int)) (K : fK_ s.1 A) : fK_ (z_boom r v s).2.2.1 (fa_boom r m v s A) := fK_of (nu_same nz_boom) ⟨(pk_boom hs K.1 K.2.1).1, (pk_boom hs K.1 K.2.1).2, K.2.2⟩
theorem kp_watch {r v : Int32} (hs : s.1.1.toInt = (jn1_ s.1 : Int)) (K : fK_ s.1 A) : fK_ (z_watch r v s).2.2.1 (fa_watch r v s A) := fK_of (nu_same nz_watch) ⟨(pk_watch hs K.1 K.2.1).1, (pk_watch hs K.1 K.2.1).2, K.2.2⟩
theorem kp_crew {k r : Int32} (hs : s.1.1.toInt = (jn1_ s.1 : Int)) (hc : s.1.2.2.1.toInt = (jn3_ s.1 : Int)) (hb : jn3_ s.1 ≤ 6) (K : fK_ s.1 A) : fK_ (z_crew k r s).2.2.1 (fa_crew k r s A) := fK_of (nu_crew hc hb) ⟨(pk_crew hs hc rfl K.1 K.2.1).1, (pk_crew hs hc rfl K.1 K.2.1).2, K.2.2⟩
theorem kp_cut {a b c : Int32} (hl : s.1.2.1.toInt = (jn2_ s.1 : Int)) (hb : jn2_ s.1 ≤ 400) (K : fK_ s.1 A) : fK_ (z_cut a b c s).2.2.1 (fa_cut a b c s A) := fK_of (nu_cut hl hb) ⟨(pk_cut hl K.1 K.2.1).1, (pk_cut hl K.1 K.2.1).2, K.2.2⟩
theorem kp_order {r a b c : Int32} (ho : s.1.2.2.2.1.toInt = (jn4_ s.1 : Int)) (hb : jn4_ s.1 ≤ 60) (K : fK_ s.1 A) : fK_ (z_order r a b c s).2.2.1 (fa_order r a b c s A) := fK_of (nu_order ho hb) ⟨(pk_order K.1 K.2.1).1, (pk_order K.1 K.2.1).2, K.2.2⟩
theorem kp_reach {a b c d : Int32} (hs : s.1.1.toInt = (jn1_ s.1 : Int)) (hb : jn1_ s.1 ≤ 10) (K : fK_ s.1 A) : fK_ (z_reach a b c d s).2.2.1 (fa_reach a b c d s A) := by
  have q := w_ok_reach (a := a) (b := b) (c := c) (d := d) K.2.2.1 hs hb
  have e := (nu_reach (a := a) (b := b) (c := c) (d := d) hs hb).1
  have q : w_ok (jn1_ (z_reach a b c d s).2.2.1) (wz_reach a b c d s A.2.1) := q
  rw [e] at q
  exact fK_of (nu_reach hs hb) ⟨(pk_reach hs hb K.1 K.2.1).1, (pk_reach hs hb K.1 K.2.1).2, q, K.2.2.2⟩
theorem kp_feed {a b c d e : Int32} (K : fK_ s.1 A) : fK_ (z_feed s).2.2.1 (fa_feed a b c d e s A) := by
  refine fK_of nu_feed ⟨K.1, K.2.1, K.2.2.1, K.2.2.2.1, ?_⟩
  show ∀ i, i < 500 → ¬ ab_tape a b c d e s A.2.2.2.1 i = -1
  unfold ab_tape
  split
  · exact tz_byte K.2.2.2.2
  · exact K.2.2.2.2
theorem fC_flat {t : nt_T} {x : Nat} {σ : kx_S} (h : fC_ t A x σ) : ∀ l, l < A.2.2.1.1 → (p_flat (A.2.2.1.2.2 l)).length ≤ 500 := by
  obtain ⟨g, T, N, st, na, tk, ca, tb, _, _, hE, _, _⟩ := h
  exact fun l hl => (hE.2.2.2.2.2.1.2.2 l hl).2.2.1.1.2.2.1
theorem kp_law {a b : Int32} {x : Nat} {u : kx_S} (K : fK_ s.1 A) (h : fC_ (z_law a b s).2.1 (fa_law a b s A) x u) : fK_ (z_law a b s).2.1 (fa_law a b s A) := fK_of nu_law ⟨K.1, K.2.1, K.2.2.1, kL_law K.2.2.2.1 (fC_flat h), K.2.2.2.2⟩
theorem kp_let {l r c : Int32} (hb : jn1_ s.1 ≤ 10) (K : fK_ s.1 A) : fK_ s.1 (fa_let l r c s A) := by
  unfold fa_let
  split
  · next q e =>
    obtain ⟨x, b⟩ := q
    have h := pk_let hb K.1 K.2.1 e
    exact ⟨h.1.1, h.1.2, K.2.2⟩
  · exact K
theorem kp_hours {m : Int32} (hb : jn1_ s.1 ≤ 10) (K : fK_ s.1 A) : fK_ (z_hours m s).2.2.1 (fa_hours m s A) := by
  refine fK_of nu_hours ?_
  unfold fa_hours
  by_cases c : m < 0 ∨ 200 < m ∨ ¬ (s.1.2.2.2.2.2 + m ≤ 20000)
  · rw [if_pos c, if_pos c]
    exact K
  · rw [if_neg c, if_neg c]
    have h0 := K.1.2.2.1
    have z200 : (200 : Int32).toInt = 200 := by decide
    have z20 : (20000 : Int32).toInt = 20000 := by decide
    have c1 : ¬ m < 0 := fun q => c (.inl q)
    have c2 : ¬ 200 < m := fun q => c (.inr (.inl q))
    have c3 : s.1.2.2.2.2.2 + m ≤ 20000 := Decidable.not_not.1 (fun q => c (.inr (.inr q)))
    rw [ki_lt, ki_z0] at c1
    rw [ki_lt, z200] at c2
    rw [ki_le, z20, ki_add (by omega) (by omega)] at c3
    obtain ⟨k, hk⟩ : ∃ k : Nat, m.toInt = (k : Int) := ⟨m.toInt.toNat, by omega⟩
    have en := ah_now (nr := jn1_ s.1) (nc := jn3_ s.1) (no := jn4_ s.1) (dm := s.2.1) (gt := s.2.2.1) (ml := s.2.2.2.1) k (s.1.2.2.2.2.2, A.1, A.2.1) m hk (by omega)
    have a1 := aK_hours (no := jn4_ s.1) (dm := s.2.1) (gt := s.2.2.1) (ml := s.2.2.2.1) hb k (s.1.2.2.2.2.2, A.1, A.2.1) (by show s.1.2.2.2.2.2.toInt + _ ≤ _; omega) K.1
    have a2 := zi_hours (no := jn4_ s.1) (dm := s.2.1) (gt := s.2.2.1) (ml := s.2.2.2.1) hb k (s.1.2.2.2.2.2, A.1, A.2.1) (by show s.1.2.2.2.2.2.toInt + _ ≤ _; omega) K.1 K.2.1
    have a3 := w_ok_ah (nc := jn3_ s.1) (no := jn4_ s.1) (dm := s.2.1) (gt := s.2.2.1) (ml := s.2.2.2.1) k (s.1.2.2.2.2.2, A.1, A.2.1) K.2.2.1
    rw [en] at a1
    rw [ki_toN hk]
    exact ⟨a1, a2, a3, K.2.2.2⟩
end
end
section
/-! the class, a row a call -/
def oc_ (x : Option Int32) : Int32 := x.elim 1 (fun _ => 0)
theorem h22_of {A : fu_T} {μ : km_S} (VR : fR_ A μ) : (sm_ μ).2.2.2.2.2 = A.1.1 22 := VR.1.1.1 22 (by decide)
theorem z18_of {A : fu_T} {μ : km_S} (K : fK_ (sm_ μ).1 A) (VR : fR_ A μ) : ∀ r, jn1_ (sm_ μ).1 ≤ r → A.1.1 18 r = 0 ∧ A.1.1 19 r = 0 := by
  intro r hr
  have e18 := VR.1.1.1 18 (by decide)
  have e19 := VR.1.1.1 19 (by decide)
  obtain ⟨_, _, k1, k2⟩ := K.2.2.1.2 r hr
  rw [← VR.2.1] at k1 k2
  rw [← e18, ← e19]
  exact ⟨k1, k2⟩
theorem hp_of {A : fu_T} {μ : km_S} (I : im_ μ) (VR : fR_ A μ) : ∀ x, x < jn2_ (sm_ μ).1 → ¬ A.1.1 42 x = -1 → 0 ≤ (A.1.1 42 x).toInt ∧ (A.1.1 42 x).toInt ≤ 100000 ∧ 1 ≤ (A.1.1 36 x).toInt ∧ (A.1.1 36 x).toInt ≤ 9 := by
  intro x hx hn
  obtain ⟨b1, b2, b3, b4⟩ := VR.1.2
  obtain ⟨c1, c2⟩ := (b1 x hx).1
  obtain ⟨d1, d2, _⟩ := b4 x hx hn
  have i6 := I.2.2.2.2.2.1
  have e6 := VR.1.1.2.2.2
  have i7 := i6.2
  rw [e6] at i7
  omega

set_option maxRecDepth 100000 in
theorem lf_reach {k L O : Nat} {σ : kx_S} {μ : km_S} {A : fu_T} {p0 p1 p2 p3 : Int32} (hk : k < 600) (Z : yZ_ k (sm_ μ) L O σ) (I : im_ μ) (K : fK_ (sm_ μ).1 A) (VC : fC_ (sm_ μ).1 A L σ) (VR : fR_ A μ) : wX11_reach L p0 p1 p2 p3 σ (fun r u => qz_ k L O (z_reach p0 p1 p2 p3 (sm_ μ)) r u ∧ fC_ (z_reach p0 p1 p2 p3 (sm_ μ)).2.2.1 (fa_reach p0 p1 p2 p3 (sm_ μ) A) L u) := by
  have sb := sB_im I
  obtain ⟨g, κ, B, n, T, N, st, na, tk, ca, tb, eg, J, hBn, n22, hE, hT, hV⟩ := fC_open hk Z VC
  subst eg
  have V1 := lk_reach (p0 := p0) (p1 := p1) (p2 := p2) (p3 := p3) hk Z I (lv_of K VC VR)
  exact jcX11_reach (fun r u a b => by
    obtain ⟨T', N', e20, n22', hE'⟩ := b
    exact ⟨a.1.1, fC_of (nu_reach sb.1.1 sb.1.2) ⟨g, T', N', st, na, tk, ca, tb, gG_cw J a.2, n22', hE', fT_cw J hT e20 a.2, by have y := a.1.2; rw [VR.2.1] at y; have e := (nu_reach (a := p0) (b := p1) (c := p2) (d := p3) sb.1.1 sb.1.2).1; have y : Yw_ (jn1_ (z_reach p0 p1 p2 p3 (sm_ μ)).2.2.1) (wz_reach p0 p1 p2 p3 (sm_ μ) A.2.1) (g 0) u := y; rw [e] at y; exact y⟩⟩) _ _ _ _ _ _ (jcX11_reach (Q' := fun _ u => cw_ σ u) (fun _ _ a b => And.intro a b) _ _ _ _ _ _ V1 (jfX11_reach (I := cw_ σ) (cw_fw (by decide)) (fun _ _ i => i) _ _ _ _ _ _ cw_refl)) (vq_reach hBn.1 hBn.2 sb.1.2 J sb.1.1 K.1.1.1 K.2.1 (z18_of K VR) n22 hE)
set_option maxRecDepth 100000 in
theorem lf_dam {k L O : Nat} {σ : kx_S} {μ : km_S} {A : fu_T} {p0 p1 : Int32} (hk : k < 600) (Z : yZ_ k (sm_ μ) L O σ) (I : im_ μ) (K : fK_ (sm_ μ).1 A) (VC : fC_ (sm_ μ).1 A L σ) (VR : fR_ A μ) : wX11_dam L p0 p1 σ (fun r u => qz_ k L O (z_dam p0 p1 (sm_ μ)) r u ∧ fC_ (z_dam p0 p1 (sm_ μ)).2.2.1 (fa_dam p0 p1 (sm_ μ) A) L u) (fun e u => qe_ k L O pz_N (z_dam p0 p1 (sm_ μ)) e u ∧ fC_ (z_dam p0 p1 (sm_ μ)).2.2.1 (fa_dam p0 p1 (sm_ μ) A) L u) := by
  have sb := sB_im I
  obtain ⟨g, κ, B, n, T, N, st, na, tk, ca, tb, eg, J, hBn, n22, hE, hT, hV⟩ := fC_open hk Z VC
  subst eg
  have e22 : (ab_dam p0 p1 (sm_ μ) A.1).1 22 = A.1.1 22 := by
    unfold ab_dam
    split <;> rfl
  exact jcX11_dam (Q' := fun _ u => qE_ T N g st na (jn1_ (sm_ μ).1) (jn2_ (sm_ μ).1) A.2.2.1.1 A.2.2.1.2.1 A.2.2.1.2.2 (jn4_ (sm_ μ).1) (jn3_ (sm_ μ).1) (ab_dam p0 p1 (sm_ μ) A.1) u) (QX' := fun _ u => qE_ T N g st na (jn1_ (sm_ μ).1) (jn2_ (sm_ μ).1) A.2.2.1.1 A.2.2.1.2.1 A.2.2.1.2.2 (jn4_ (sm_ μ).1) (jn3_ (sm_ μ).1) (ab_dam p0 p1 (sm_ μ) A.1) u) (fun r u a b => ⟨a.1.1, fC_of (nu_same nz_dam) ⟨g, T, N, st, na, tk, ca, tb, gG_cw J a.2, n22_e n22 e22, b, fT_cw J hT rfl a.2, by have y := a.1.2; rw [VR.2.1] at y; exact y⟩⟩) (fun r u a b => ⟨a.1.1, fC_of (nu_same nz_dam) ⟨g, T, N, st, na, tk, ca, tb, gG_cw J a.2, n22_e n22 e22, b, fT_cw J hT rfl a.2, by have y := a.1.2; rw [VR.2.1] at y; exact y⟩⟩) _ _ _ _ (jcX11_dam (Q' := fun _ u => cw_ σ u) (QX' := fun _ u => cw_ σ u) (fun _ _ a b => And.intro a b) (fun _ _ a b => And.intro a b) _ _ _ _ (lk_dam (p0 := p0) (p1 := p1) hk Z I (lv_of K VC VR)) (jfX11_dam (I := cw_ σ) (cw_fw (by decide)) (fun _ _ i => i) (fun _ _ i => i) _ _ _ _ cw_refl)) (vq_dam sb.1.2 sb.1.1 J hE)
set_option maxRecDepth 100000 in
theorem lf_gate {k L O : Nat} {σ : kx_S} {μ : km_S} {A : fu_T} {p0 p1 : Int32} (hk : k < 600) (Z : yZ_ k (sm_ μ) L O σ) (I : im_ μ) (K : fK_ (sm_ μ).1 A) (VC : fC_ (sm_ μ).1 A L σ) (VR : fR_ A μ) : wX11_gate L p0 p1 σ (fun r u => qz_ k L O (z_gate p0 p1 (sm_ μ)) r u ∧ fC_ (z_gate p0 p1 (sm_ μ)).2.2.1 A L u) (fun e u => qe_ k L O pz_N (z_gate p0 p1 (sm_ μ)) e u ∧ fC_ (z_gate p0 p1 (sm_ μ)).2.2.1 A L u) := by
  exact jcX11_gate (Q' := fun _ u => nW_ [168, 1005] σ u) (QX' := fun _ u => nW_ [168, 1005] σ u) (fun r u a b => ⟨a.1, fC_of (nu_same nz_gate) (fC_nW VC b (by decide) (by decide) (by have y := a.2; rw [VR.2.1] at y; exact y))⟩) (fun r u a b => ⟨a.1, fC_of (nu_same nz_gate) (fC_nW VC b (by decide) (by decide) (by have y := a.2; rw [VR.2.1] at y; exact y))⟩) _ _ _ _ (lk_gate (p0 := p0) (p1 := p1) hk Z I (lv_of K VC VR)) (jfX11_gate (I := nW_ [168, 1005] σ) (nW_fw (by decide)) (fun _ _ i => i) (fun _ _ i => i) _ _ _ _ nW_refl)
set_option maxRecDepth 100000 in
theorem lf_melt {k L O : Nat} {σ : kx_S} {μ : km_S} {A : fu_T} {p0 p1 : Int32} (hk : k < 600) (Z : yZ_ k (sm_ μ) L O σ) (I : im_ μ) (K : fK_ (sm_ μ).1 A) (VC : fC_ (sm_ μ).1 A L σ) (VR : fR_ A μ) : wX11_melt L p0 p1 σ (fun r u => qz_ k L O (z_melt p0 p1 (sm_ μ)) r u ∧ fC_ (z_melt p0 p1 (sm_ μ)).2.2.1 A L u) (fun e u => qe_ k L O pz_N (z_melt p0 p1 (sm_ μ)) e u ∧ fC_ (z_melt p0 p1 (sm_ μ)).2.2.1 A L u) := by
  exact jcX11_melt (Q' := fun _ u => nW_ [164, 1005] σ u) (QX' := fun _ u => nW_ [164, 1005] σ u) (fun r u a b => ⟨a.1, fC_of (nu_same nz_melt) (fC_nW VC b (by decide) (by decide) (by have y := a.2; rw [VR.2.1] at y; exact y))⟩) (fun r u a b => ⟨a.1, fC_of (nu_same nz_melt) (fC_nW VC b (by decide) (by decide) (by have y := a.2; rw [VR.2.1] at y; exact y))⟩) _ _ _ _ (lk_melt (p0 := p0) (p1 := p1) hk Z I (lv_of K VC VR)) (jfX11_melt (I := nW_ [164, 1005] σ) (nW_fw (by decide)) (fun _ _ i => i) (fun _ _ i => i) _ _ _ _ nW_refl)
set_option maxRecDepth 100000 in
theorem lf_boom {k L O : Nat} {σ : kx_S} {μ : km_S} {A : fu_T} {p0 p1 p2 : Int32} (hk : k < 600) (Z : yZ_ k (sm_ μ) L O σ) (I : im_ μ) (K : fK_ (sm_ μ).1 A) (VC : fC_ (sm_ μ).1 A L σ) (VR : fR_ A μ) : wX11_boom L p0 p1 p2 σ (fun r u => qz_ k L O (z_boom p0 p2 (sm_ μ)) r u ∧ fC_ (z_boom p0 p2 (sm_ μ)).2.2.1 (fa_boom p0 p1 p2 (sm_ μ) A) L u) (fun e u => qe_ k L O pz_N (z_boom p0 p2 (sm_ μ)) e u ∧ fC_ (z_boom p0 p2 (sm_ μ)).2.2.1 (fa_boom p0 p1 p2 (sm_ μ) A) L u) := by
  have sb := sB_im I
  obtain ⟨g, κ, B, n, T, N, st, na, tk, ca, tb, eg, J, hBn, n22, hE, hT, hV⟩ := fC_open hk Z VC
  subst eg
  have V1 := lk_boom (p0 := p0) (p1 := p1) (p2 := p2) hk Z I (lv_of K VC VR)
  exact jcX11_boom (fun r u a b => by
    obtain ⟨T', N', e20, n22', hE'⟩ := b
    exact ⟨a.1.1, fC_of (nu_same nz_boom) ⟨g, T', N', st, na, tk, ca, tb, gG_cw J a.2, n22', hE', fT_cw J hT e20 a.2, by have y := a.1.2; rw [VR.2.1] at y; exact y⟩⟩) (fun r u a b => by
    obtain ⟨T', N', e20, n22', hE'⟩ := b
    exact ⟨a.1.1, fC_of (nu_same nz_boom) ⟨g, T', N', st, na, tk, ca, tb, gG_cw J a.2, n22', hE', fT_cw J hT e20 a.2, by have y := a.1.2; rw [VR.2.1] at y; exact y⟩⟩) _ _ _ _ _ (jcX11_boom (Q' := fun _ u => cw_ σ u) (QX' := fun _ u => cw_ σ u) (fun _ _ a b => And.intro a b) (fun _ _ a b => And.intro a b) _ _ _ _ _ V1 (jfX11_boom (I := cw_ σ) (cw_fw (by decide)) (fun _ _ i => i) (fun _ _ i => i) _ _ _ _ _ cw_refl)) (vq_boom sb.1.2 sb.1.1 K.2.1.1 n22 J hE)
set_option maxRecDepth 100000 in
theorem lf_watch {k L O : Nat} {σ : kx_S} {μ : km_S} {A : fu_T} {p0 p1 : Int32} (hv : p1 = 0 ∨ p1 = 1) (hk : k < 600) (Z : yZ_ k (sm_ μ) L O σ) (I : im_ μ) (K : fK_ (sm_ μ).1 A) (VC : fC_ (sm_ μ).1 A L σ) (VR : fR_ A μ) : wX11_watch L p0 p1 σ (fun r u => qz_ k L O (z_watch p0 p1 (sm_ μ)) r u ∧ fC_ (z_watch p0 p1 (sm_ μ)).2.2.1 (fa_watch p0 p1 (sm_ μ) A) L u) (fun e u => qe_ k L O pz_N (z_watch p0 p1 (sm_ μ)) e u ∧ fC_ (z_watch p0 p1 (sm_ μ)).2.2.1 (fa_watch p0 p1 (sm_ μ) A) L u) := by
  have sb := sB_im I
  obtain ⟨g, κ, B, n, T, N, st, na, tk, ca, tb, eg, J, hBn, n22, hE, hT, hV⟩ := fC_open hk Z VC
  subst eg
  have e22 : (ab_watch p0 p1 (sm_ μ) A.1).1 22 = A.1.1 22 := by
    unfold ab_watch
    split <;> rfl
  exact jcX11_watch (Q' := fun _ u => qE_ T N g st na (jn1_ (sm_ μ).1) (jn2_ (sm_ μ).1) A.2.2.1.1 A.2.2.1.2.1 A.2.2.1.2.2 (jn4_ (sm_ μ).1) (jn3_ (sm_ μ).1) (ab_watch p0 p1 (sm_ μ) A.1) u) (QX' := fun _ u => qE_ T N g st na (jn1_ (sm_ μ).1) (jn2_ (sm_ μ).1) A.2.2.1.1 A.2.2.1.2.1 A.2.2.1.2.2 (jn4_ (sm_ μ).1) (jn3_ (sm_ μ).1) (ab_watch p0 p1 (sm_ μ) A.1) u) (fun r u a b => ⟨a.1.1, fC_of (nu_same nz_watch) ⟨g, T, N, st, na, tk, ca, tb, gG_cw J a.2, n22_e n22 e22, b, fT_cw J hT rfl a.2, by have y := a.1.2; rw [VR.2.1] at y; exact y⟩⟩) (fun r u a b => ⟨a.1.1, fC_of (nu_same nz_watch) ⟨g, T, N, st, na, tk, ca, tb, gG_cw J a.2, n22_e n22 e22, b, fT_cw J hT rfl a.2, by have y := a.1.2; rw [VR.2.1] at y; exact y⟩⟩) _ _ _ _ (jcX11_watch (Q' := fun _ u => cw_ σ u) (QX' := fun _ u => cw_ σ u) (fun _ _ a b => And.intro a b) (fun _ _ a b => And.intro a b) _ _ _ _ (lk_watch (p0 := p0) (p1 := p1) (hv := hv) hk Z I (lv_of K VC VR)) (jfX11_watch (I := cw_ σ) (cw_fw (by decide)) (fun _ _ i => i) (fun _ _ i => i) _ _ _ _ cw_refl)) (vq_watch sb.1.2 sb.1.1 J hE)
set_option maxRecDepth 100000 in
theorem lf_crew {k L O : Nat} {σ : kx_S} {μ : km_S} {A : fu_T} {p0 p1 : Int32} (hk : k < 600) (Z : yZ_ k (sm_ μ) L O σ) (I : im_ μ) (K : fK_ (sm_ μ).1 A) (VC : fC_ (sm_ μ).1 A L σ) (VR : fR_ A μ) : wX11_crew L p0 p1 σ (fun r u => qz_ k L O (z_crew p0 p1 (sm_ μ)) r u ∧ fC_ (z_crew p0 p1 (sm_ μ)).2.2.1 (fa_crew p0 p1 (sm_ μ) A) L u) (fun e u => qe_ k L O pz_N (z_crew p0 p1 (sm_ μ)) e u ∧ fC_ (z_crew p0 p1 (sm_ μ)).2.2.1 (fa_crew p0 p1 (sm_ μ) A) L u) := by
  have sb := sB_im I
  obtain ⟨g, κ, B, n, T, N, st, na, tk, ca, tb, eg, J, hBn, n22, hE, hT, hV⟩ := fC_open hk Z VC
  subst eg
  have V1 := lk_crew (p0 := p0) (p1 := p1) hk Z I (lv_of K VC VR)
  exact jcX11_crew (fun r u a b => by
    obtain ⟨T', N', e20, n22', hE'⟩ := b
    exact ⟨a.1.1, fC_of (nu_crew sb.2.2.1.1 sb.2.2.1.2) ⟨g, T', N', st, na, tk, ca, tb, gG_cw J a.2, n22', hE', fT_cw J hT e20 a.2, by have y := a.1.2; rw [VR.2.1] at y; exact y⟩⟩) (fun r u a b => by
    obtain ⟨T', N', e20, n22', hE'⟩ := b
    exact ⟨a.1.1, fC_of (nu_crew sb.2.2.1.1 sb.2.2.1.2) ⟨g, T', N', st, na, tk, ca, tb, gG_cw J a.2, n22', hE', fT_cw J hT e20 a.2, by have y := a.1.2; rw [VR.2.1] at y; exact y⟩⟩) _ _ _ _ (jcX11_crew (Q' := fun _ u => cw_ σ u) (QX' := fun _ u => cw_ σ u) (fun _ _ a b => And.intro a b) (fun _ _ a b => And.intro a b) _ _ _ _ V1 (jfX11_crew (I := cw_ σ) (cw_fw (by decide)) (fun _ _ i => i) (fun _ _ i => i) _ _ _ _ cw_refl)) (vq_crew (by omega) (by omega) sb.1.2 sb.1.1 sb.2.2.1.1 K.1.2.2 n22 J hE)
set_option maxRecDepth 100000 in
theorem lf_feed {k L O : Nat} {σ : kx_S} {μ : km_S} {A : fu_T} {p0 p1 p2 p3 p4 : Int32} (hk : k < 600) (Z : yZ_ k (sm_ μ) L O σ) (I : im_ μ) (K : fK_ (sm_ μ).1 A) (VC : fC_ (sm_ μ).1 A L σ) (VR : fR_ A μ) : wX11_feed L p0 p1 p2 p3 p4 σ (fun r u => qz_ k L O (z_feed (sm_ μ)) r u ∧ fC_ (z_feed (sm_ μ)).2.2.1 (fa_feed p0 p1 p2 p3 p4 (sm_ μ) A) L u) := by
  have sb := sB_im I
  obtain ⟨g, κ, B, n, T, N, st, na, tk, ca, tb, eg, J, hBn, n22, hE, hT, hV⟩ := fC_open hk Z VC
  subst eg
  have V1 := lk_feed (p0 := p0) (p1 := p1) (p2 := p2) (p3 := p3) (p4 := p4) hk Z I (lv_of K VC VR)
  exact jcX11_feed (fun r u a b => ⟨a.1.1, fC_of nu_feed ⟨g, T, N, st, na, tk, ca, tb, gG_pw J a.2, n22, b.1, b.2, by have y := a.1.2; rw [VR.2.1] at y; exact y⟩⟩) _ _ _ _ _ _ _ (jcX11_feed (Q' := fun _ u => pw_ σ u) (fun _ _ a b => And.intro a b) _ _ _ _ _ _ _ V1 (jfX11_feed (I := pw_ σ) (pw_fw (by decide)) (fun _ _ i => i) _ _ _ _ _ _ _ pw_refl)) (vq_feed sb.2.2.2.2.1 sb.2.2.2.2.2 J hT hE)
set_option maxRecDepth 100000 in
theorem lf_law {k L O : Nat} {σ : kx_S} {μ : km_S} {A : fu_T} {p0 p1 : Int32} (hk : k < 600) (Z : yZ_ k (sm_ μ) L O σ) (I : im_ μ) (K : fK_ (sm_ μ).1 A) (VC : fC_ (sm_ μ).1 A L σ) (VR : fR_ A μ) : wX11_law L p0 p1 σ (fun r u => qy_ k L O (z_law p0 p1 (sm_ μ)) r u ∧ fC_ (z_law p0 p1 (sm_ μ)).2.1 (fa_law p0 p1 (sm_ μ) A) L u) (fun e u => qx_ k L O (z_law p0 p1 (sm_ μ)) e u ∧ fC_ (z_law p0 p1 (sm_ μ)).2.1 (fa_law p0 p1 (sm_ μ) A) L u) := by
  have sb := sB_im I
  obtain ⟨g, κ, B, n, T, N, st, na, tk, ca, tb, eg, J, hBn, n22, hE, hT, hV⟩ := fC_open hk Z VC
  subst eg
  have V1 := lk_law (p0 := p0) (p1 := p1) hk Z I (lv_of K VC VR)
  exact jcX11_law (fun r u a b => by
    obtain ⟨T', N', n22', hE', hT'⟩ := b
    exact ⟨a.1.1, fC_of nu_law ⟨g, T', N', st, na, tk, ca, tb, gG_pw J a.2, n22', hE', hT', by have y := a.1.2; rw [VR.2.1] at y; exact y⟩⟩) (fun r u a b => by
    obtain ⟨T', N', n22', hE', hT'⟩ := b
    exact ⟨a.1.1, fC_of nu_law ⟨g, T', N', st, na, tk, ca, tb, gG_pw J a.2, n22', hE', hT', by have y := a.1.2; rw [VR.2.1] at y; exact y⟩⟩) _ _ _ _ (jcX11_law (Q' := fun _ u => pw_ σ u) (QX' := fun _ u => pw_ σ u) (fun _ _ a b => And.intro a b) (fun _ _ a b => And.intro a b) _ _ _ _ V1 (jfX11_law (I := pw_ σ) (pw_fw (by decide)) (fun _ _ i => i) (fun _ _ i => i) _ _ _ _ pw_refl)) (vq_law (by omega) (by omega) sb.2.2.2.2.1 sb.2.2.2.2.2 J hT n22 hE)
set_option maxRecDepth 100000 in
theorem lf_fault {k L O : Nat} {σ : kx_S} {μ : km_S} {A : fu_T} (hk : k < 600) (Z : yZ_ k (sm_ μ) L O σ) (I : im_ μ) (K : fK_ (sm_ μ).1 A) (VC : fC_ (sm_ μ).1 A L σ) (VR : fR_ A μ) : wX11_fault L σ (fun r u => qu_ k L O (sm_ μ) r u ∧ fC_ (sm_ μ).1 A L u ∧ r = A.2.2.2.2) := by
  obtain ⟨g, κ, B, n, T, N, st, na, tk, ca, tb, eg, J, hBn, n22, hE, hT, hV⟩ := fC_open hk Z VC
  have e219 := hT.2.2.2.2.2
  subst eg
  refine jcX11_fault (Q' := fun r u => r = A.2.2.2.2 ∧ u = σ) (fun r u a b => ⟨a.1, ?_, b.1⟩) _ _ (lk_fault hk Z I (lv_of K VC VR)) (fun _ => ⟨e219, rfl⟩)
  rw [b.2]
  exact VC
set_option maxRecDepth 100000 in
theorem lf_cut {k L O : Nat} {σ : kx_S} {μ : km_S} {A : fu_T} {p0 p1 p2 : Int32} (hk : k < 600) (Z : yZ_ k (sm_ μ) L O σ) (I : im_ μ) (K : fK_ (sm_ μ).1 A) (VC : fC_ (sm_ μ).1 A L σ) (VR : fR_ A μ) : wX11_cut L p0 p1 p2 σ (fun r u => qz_ k L O (z_cut p0 p1 p2 (sm_ μ)) r u ∧ fC_ (z_cut p0 p1 p2 (sm_ μ)).2.2.1 (fa_cut p0 p1 p2 (sm_ μ) A) L u) := by
  have sb := sB_im I
  obtain ⟨g, κ, B, n, T, N, st, na, tk, ca, tb, eg, J, hBn, n22, hE, hT, hV⟩ := fC_open hk Z VC
  subst eg
  have V1 := lk_cut (p0 := p0) (p1 := p1) (p2 := p2) hk Z I (lv_of K VC VR)
  exact jcX11_cut (fun r u a b => by
    obtain ⟨T', N', e20, n22', hE'⟩ := b
    exact ⟨a.1.1, fC_of (nu_cut sb.2.1.1 sb.2.1.2) ⟨g, T', N', st, na, tk, ca, tb, gG_cw J a.2, n22', hE', fT_cw J hT e20 a.2, by have y := a.1.2; rw [VR.2.1] at y; exact y⟩⟩) _ _ _ _ _ (jcX11_cut (Q' := fun _ u => cw_ σ u) (fun _ _ a b => And.intro a b) _ _ _ _ _ V1 (jfX11_cut (I := cw_ σ) (cw_fw (by decide)) (fun _ _ i => i) _ _ _ _ _ cw_refl)) (vq_cut (by omega) (by omega) sb.2.1.2 sb.2.1.1 (fun k x hx => (K.1.1.1.2.1 k x hx).1) (K.2.1.2.1 _ (Nat.le_refl _)) n22 J hE)
set_option maxRecDepth 100000 in
theorem lf_let {k L O : Nat} {σ : kx_S} {μ : km_S} {A : fu_T} {p0 p1 p2 : Int32} (hk : k < 600) (Z : yZ_ k (sm_ μ) L O σ) (I : im_ μ) (K : fK_ (sm_ μ).1 A) (VC : fC_ (sm_ μ).1 A L σ) (VR : fR_ A μ) : wX11_let L p0 p1 p2 σ (fun r u => qu_ k L O (sm_ μ) r u ∧ fC_ (sm_ μ).1 (fa_let p0 p1 p2 (sm_ μ) A) L u ∧ ∃ b, fan_let p0 p1 p2 (sm_ μ) A = some (r, b)) (fun e u => qf_ k L O (sm_ μ) e u ∧ fC_ (sm_ μ).1 (fa_let p0 p1 p2 (sm_ μ) A) L u ∧ fan_let p0 p1 p2 (sm_ μ) A = none) := by
  have sb := sB_im I
  obtain ⟨g, κ, B, n, T, N, st, na, tk, ca, tb, eg, J, hBn, n22, hE, hT, hV⟩ := fC_open hk Z VC
  subst eg
  have V1 := lk_let (p0 := p0) (p1 := p1) (p2 := p2) hk Z I (lv_of K VC VR)
  refine jcX11_let (Q' := fun r u => ∃ b, fan_let p0 p1 p2 (sm_ μ) A = some (r, b) ∧ qE_ T N g st na (jn1_ (sm_ μ).1) (jn2_ (sm_ μ).1) A.2.2.1.1 A.2.2.1.2.1 A.2.2.1.2.2 (jn4_ (sm_ μ).1) (jn3_ (sm_ μ).1) b u ∧ hf_ [82, 83, 132, 133, 134] g κ st na σ u) (QX' := fun _ u => fan_let p0 p1 p2 (sm_ μ) A = none ∧ u = xbump σ) (fun r u a b => ?_) (fun r u a b => ?_) _ _ _ _ _ V1 (vq_let (by omega) (by omega) sb.1.2 sb.2.1.2 J hE (fun e => ⟨e, rfl⟩) (fun x b u e h f => ⟨b, e, h, f⟩))
  · obtain ⟨b, e, h, f⟩ := b
    refine ⟨a.1, ?_, b, e⟩
    have ef : fa_let p0 p1 p2 (sm_ μ) A = (b, A.2) := by unfold fa_let; rw [e]
    rw [ef]
    exact ⟨g, T, N, st, na, tk, ca, tb, gG_fg J f.1, n22_e n22 (pk_let sb.1.2 K.1 K.2.1 e).2, h, fT_hf J hT f (by decide), by have y := a.2; rw [VR.2.1] at y; exact y⟩
  · obtain ⟨e, eu⟩ := b
    refine ⟨a.1, ?_, e⟩
    have ef : fa_let p0 p1 p2 (sm_ μ) A = A := by unfold fa_let; rw [e]
    rw [ef, eu]
    exact fC_nW VC (W := [1005]) ⟨fun _ _ _ => rfl, rfl, fun _ _ _ => rfl, rfl, rfl, rfl, rfl⟩ (by decide) (by decide) hV
set_option maxRecDepth 100000 in
theorem lf_hours {k L O : Nat} {σ : kx_S} {μ : km_S} {A : fu_T} {p0 : Int32} (hk : k < 600) (Z : yZ_ k (sm_ μ) L O σ) (I : im_ μ) (K : fK_ (sm_ μ).1 A) (VC : fC_ (sm_ μ).1 A L σ) (VR : fR_ A μ) : wX11_hours L p0 σ (fun r u => qz_ k L O (z_hours p0 (sm_ μ)) r u ∧ fC_ (z_hours p0 (sm_ μ)).2.2.1 (fa_hours p0 (sm_ μ) A) L u) (fun e u => qe_ k L O pz_I (z_hours p0 (sm_ μ)) e u ∧ fC_ (z_hours p0 (sm_ μ)).2.2.1 (fa_hours p0 (sm_ μ) A) L u) := by
  have sb := sB_im I
  obtain ⟨g, κ, B, n, T, N, st, na, tk, ca, tb, eg, J, hBn, n22, hE, hT, hV⟩ := fC_open hk Z VC
  subst eg
  have HF := qE_F J hE hV
  have R1 := rx_hours (m := p0) hk Z
  refine jcX11_hours (Q' := fun _ u => fC_ (z_hours p0 (sm_ μ)).2.2.1 (fa_hours p0 (sm_ μ) A) (g 0) u) (QX' := fun _ u => fC_ (z_hours p0 (sm_ μ)).2.2.1 (fa_hours p0 (sm_ μ) A) (g 0) u) (fun r u a b => ⟨a, b⟩) (fun r u a b => ⟨a, b⟩) _ _ _ R1 (jaX11_hours (fun _ _ h => h) (fun _ _ h => h) _ _ _ (wF_hours (by omega) (by omega) sb.1.2 sb.1.1 K.1 HF (fun c => ?_) (fun c q v eq e1 H1 _ Fv => ?_)))
  · have ef : fa_hours p0 (sm_ μ) A = A := if_pos c
    rw [ef]
    refine fC_of nu_hours (fC_nW VC (W := [1005]) ⟨fun _ _ _ => rfl, rfl, fun _ _ _ => rfl, rfl, rfl, rfl, rfl⟩ (by decide) (by decide) hV)
  · have ef : fa_hours p0 (sm_ μ) A = (q.2.1, q.2.2, A.2.2) := by
      unfold fa_hours
      rw [if_neg c, eq]
    rw [ef]
    have h1 := qF_E H1
    refine fC_of nu_hours ⟨g, T, N, st, na, tk, ca, tb, gG_fg J Fv.1, fun r hr hz => ?_, h1, fT_hf J hT Fv (by decide), H1.2.2⟩
    refine n22 r hr (fun y => ?_)
    rcases (h1.2.1.2 r hr).2.2.2.2.1 with w | w
    · exact hz w.2
    · have o := hE.2.1.2 r hr
      rcases o.2.2.2.2.1 with x | x
      · have e := Fv.1.2.1 172 (T 10 r) (by decide) (by rw [o.1.2]; decide)
        rw [x.1, w.2.1] at e
        cases e
      · exact x.1 y
set_option maxRecDepth 100000 in
theorem lf_order {k L O : Nat} {σ : kx_S} {μ : km_S} {A : fu_T} {p0 p1 p2 p3 : Int32} (hk : k < 600) (Z : yZ_ k (sm_ μ) L O σ) (I : im_ μ) (K : fK_ (sm_ μ).1 A) (VC : fC_ (sm_ μ).1 A L σ) (VR : fR_ A μ) : wX11_order L p0 p1 p2 p3 σ (fun r u => qz_ k L O (z_order p0 p1 p2 p3 (sm_ μ)) r u ∧ fC_ (z_order p0 p1 p2 p3 (sm_ μ)).2.2.1 (fa_order p0 p1 p2 p3 (sm_ μ) A) L u) (fun e u => qe_ k L O pz_N (z_order p0 p1 p2 p3 (sm_ μ)) e u ∧ fC_ (z_order p0 p1 p2 p3 (sm_ μ)).2.2.1 (fa_order p0 p1 p2 p3 (sm_ μ) A) L u) := by
  have sb := sB_im I
  obtain ⟨g, κ, B, n, T, N, st, na, tk, ca, tb, eg, J, hBn, n22, hE, hT, hV⟩ := fC_open hk Z VC
  subst eg
  have V1 := lk_order (p0 := p0) (p1 := p1) (p2 := p2) (p3 := p3) hk Z I (lv_of K VC VR)
  exact jcX11_order (fun r u a b => by
    obtain ⟨T', N', e20, n22', hE'⟩ := b
    exact ⟨a.1.1, fC_of (nu_order sb.2.2.2.1.1 sb.2.2.2.1.2) ⟨g, T', N', st, na, tk, ca, tb, gG_cw J a.2, n22', hE', fT_cw J hT e20 a.2, by have y := a.1.2; rw [VR.2.1] at y; exact y⟩⟩) (fun r u a b => by
    obtain ⟨T', N', e20, n22', hE'⟩ := b
    exact ⟨a.1.1, fC_of (nu_order sb.2.2.2.1.1 sb.2.2.2.1.2) ⟨g, T', N', st, na, tk, ca, tb, gG_cw J a.2, n22', hE', fT_cw J hT e20 a.2, by have y := a.1.2; rw [VR.2.1] at y; exact y⟩⟩) _ _ _ _ _ _ (jcX11_order (Q' := fun _ u => cw_ σ u) (QX' := fun _ u => cw_ σ u) (fun _ _ a b => And.intro a b) (fun _ _ a b => And.intro a b) _ _ _ _ _ _ V1 (jfX11_order (I := cw_ σ) (cw_fw (by decide)) (fun _ _ i => i) (fun _ _ i => i) _ _ _ _ _ _ cw_refl)) (vq_order (by omega) (by omega) sb.1.2 sb.1.1 sb.2.2.2.1.1 (fun q _ => by rw [h22_of VR]) n22 J hE)
set_option maxRecDepth 100000 in
theorem lf_wants {k L O : Nat} {σ : kx_S} {μ : km_S} {A : fu_T} {p0 : Int32} (hk : k < 600) (Z : yZ_ k (sm_ μ) L O σ) (I : im_ μ) (K : fK_ (sm_ μ).1 A) (VC : fC_ (sm_ μ).1 A L σ) (VR : fR_ A μ) : wX11_wants L p0 σ (fun r u => qu_ k L O (sm_ μ) r u ∧ fC_ (sm_ μ).1 A L u ∧ (an_wants (jn4_ (sm_ μ).1) A.1 p0) = some r) (fun e u => qf_ k L O (sm_ μ) e u ∧ fC_ (sm_ μ).1 A L u ∧ (an_wants (jn4_ (sm_ μ).1) A.1 p0) = none) := by
  have sb := sB_im I
  obtain ⟨g, κ, B, n, T, N, st, na, tk, ca, tb, eg, J, hBn, n22, hE, hT, hV⟩ := fC_open hk Z VC
  subst eg
  have HF := qE_F J hE hV
  refine jcX11_wants (Q' := fun r u => (an_wants (jn4_ (sm_ μ).1) A.1 p0) = some r ∧ u = σ) (QX' := fun _ u => (an_wants (jn4_ (sm_ μ).1) A.1 p0) = none ∧ u = xbump σ) (fun r u a b => ⟨a.1, ?_, b.1⟩) (fun r u a b => ⟨a.1, ?_, b.1⟩) _ _ _ (lk_wants (p0 := p0) hk Z I (lv_of K VC VR)) (vq_wants J hE.2.2.2.2.2.2.2.1 (fun v e => ⟨e, rfl⟩) (fun e => ⟨e, rfl⟩))
  · rw [b.2]; exact VC
  · rw [b.2]; exact fC_nW VC (W := [1005]) ⟨fun _ _ _ => rfl, rfl, fun _ _ _ => rfl, rfl, rfl, rfl, rfl⟩ (by decide) (by decide) hV
set_option maxRecDepth 100000 in
theorem lf_log {k L O : Nat} {σ : kx_S} {μ : km_S} {A : fu_T} {p0 p1 : Int32} (hk : k < 600) (Z : yZ_ k (sm_ μ) L O σ) (I : im_ μ) (K : fK_ (sm_ μ).1 A) (VC : fC_ (sm_ μ).1 A L σ) (VR : fR_ A μ) : wX11_log L p0 p1 σ (fun r u => qu_ k L O (sm_ μ) r u ∧ fC_ (sm_ μ).1 A L u ∧ (an_log (jn2_ (sm_ μ).1) A.1 p0 p1) = some r) (fun e u => qf_ k L O (sm_ μ) e u ∧ fC_ (sm_ μ).1 A L u ∧ (an_log (jn2_ (sm_ μ).1) A.1 p0 p1) = none) := by
  have sb := sB_im I
  obtain ⟨g, κ, B, n, T, N, st, na, tk, ca, tb, eg, J, hBn, n22, hE, hT, hV⟩ := fC_open hk Z VC
  subst eg
  have HF := qE_F J hE hV
  refine jcX11_log (Q' := fun r u => (an_log (jn2_ (sm_ μ).1) A.1 p0 p1) = some r ∧ u = σ) (QX' := fun _ u => (an_log (jn2_ (sm_ μ).1) A.1 p0 p1) = none ∧ u = xbump σ) (fun r u a b => ⟨a.1, ?_, b.1⟩) (fun r u a b => ⟨a.1, ?_, b.1⟩) _ _ _ _ (lk_log (p0 := p0) (p1 := p1) hk Z I (lv_of K VC VR)) (vq_log sb.2.1.2 J hE.2.2.2.2.1 (fun v e => ⟨e, rfl⟩) (fun e => ⟨e, rfl⟩))
  · rw [b.2]; exact VC
  · rw [b.2]; exact fC_nW VC (W := [1005]) ⟨fun _ _ _ => rfl, rfl, fun _ _ _ => rfl, rfl, rfl, rfl, rfl⟩ (by decide) (by decide) hV
set_option maxRecDepth 100000 in
theorem lf_cell {k L O : Nat} {σ : kx_S} {μ : km_S} {A : fu_T} {p0 p1 p2 : Int32} (hk : k < 600) (Z : yZ_ k (sm_ μ) L O σ) (I : im_ μ) (K : fK_ (sm_ μ).1 A) (VC : fC_ (sm_ μ).1 A L σ) (VR : fR_ A μ) : wX11_cell L p0 p1 p2 σ (fun r u => qu_ k L O (sm_ μ) r u ∧ fC_ (sm_ μ).1 A L u ∧ (an_cell (jn1_ (sm_ μ).1) A.1 p0 p1 p2) = some r) (fun e u => qf_ k L O (sm_ μ) e u ∧ fC_ (sm_ μ).1 A L u ∧ (an_cell (jn1_ (sm_ μ).1) A.1 p0 p1 p2) = none) := by
  have sb := sB_im I
  obtain ⟨g, κ, B, n, T, N, st, na, tk, ca, tb, eg, J, hBn, n22, hE, hT, hV⟩ := fC_open hk Z VC
  subst eg
  have HF := qE_F J hE hV
  refine jcX11_cell (Q' := fun r u => (an_cell (jn1_ (sm_ μ).1) A.1 p0 p1 p2) = some r ∧ u = σ) (QX' := fun _ u => (an_cell (jn1_ (sm_ μ).1) A.1 p0 p1 p2) = none ∧ u = xbump σ) (fun r u a b => ⟨a.1, ?_, b.1⟩) (fun r u a b => ⟨a.1, ?_, b.1⟩) _ _ _ _ _ (lk_cell (p0 := p0) (p1 := p1) (p2 := p2) hk Z I (lv_of K VC VR)) (vq_cell0 sb.1.2 K.1.1.1 HF.1.1 (fun v e => ⟨e, rfl⟩) (fun e => ⟨e, rfl⟩))
  · rw [b.2]; exact VC
  · rw [b.2]; exact fC_nW VC (W := [1005]) ⟨fun _ _ _ => rfl, rfl, fun _ _ _ => rfl, rfl, rfl, rfl, rfl⟩ (by decide) (by decide) hV
set_option maxRecDepth 100000 in
theorem lf_inCell {k L O : Nat} {σ : kx_S} {μ : km_S} {A : fu_T} {p0 p1 p2 : Int32} (hk : k < 600) (Z : yZ_ k (sm_ μ) L O σ) (I : im_ μ) (K : fK_ (sm_ μ).1 A) (VC : fC_ (sm_ μ).1 A L σ) (VR : fR_ A μ) : wX11_inCell L p0 p1 p2 σ (fun r u => qu_ k L O (sm_ μ) r u ∧ fC_ (sm_ μ).1 A L u ∧ (an_inCell (jn1_ (sm_ μ).1) A.1 p0 p1 p2) = some r) (fun e u => qf_ k L O (sm_ μ) e u ∧ fC_ (sm_ μ).1 A L u ∧ (an_inCell (jn1_ (sm_ μ).1) A.1 p0 p1 p2) = none) := by
  have sb := sB_im I
  obtain ⟨g, κ, B, n, T, N, st, na, tk, ca, tb, eg, J, hBn, n22, hE, hT, hV⟩ := fC_open hk Z VC
  subst eg
  have HF := qE_F J hE hV
  refine jcX11_inCell (Q' := fun r u => (an_inCell (jn1_ (sm_ μ).1) A.1 p0 p1 p2) = some r ∧ u = σ) (QX' := fun _ u => (an_inCell (jn1_ (sm_ μ).1) A.1 p0 p1 p2) = none ∧ u = xbump σ) (fun r u a b => ⟨a.1, ?_, b.1⟩) (fun r u a b => ⟨a.1, ?_, b.1⟩) _ _ _ _ _ (lk_inCell (p0 := p0) (p1 := p1) (p2 := p2) hk Z I (lv_of K VC VR)) (vq_inCell sb.1.2 sb.2.1.2 K.1.1.1 HF.1.1 (fun v e => ⟨e, rfl⟩) (fun e => ⟨e, rfl⟩))
  · rw [b.2]; exact VC
  · rw [b.2]; exact fC_nW VC (W := [1005]) ⟨fun _ _ _ => rfl, rfl, fun _ _ _ => rfl, rfl, rfl, rfl, rfl⟩ (by decide) (by decide) hV
set_option maxRecDepth 100000 in
theorem lf_heap {k L O : Nat} {σ : kx_S} {μ : km_S} {A : fu_T} {p0 p1 : Int32} (hk : k < 600) (Z : yZ_ k (sm_ μ) L O σ) (I : im_ μ) (K : fK_ (sm_ μ).1 A) (VC : fC_ (sm_ μ).1 A L σ) (VR : fR_ A μ) : wX11_heap L p0 p1 σ (fun r u => qu_ k L O (sm_ μ) r u ∧ fC_ (sm_ μ).1 A L u ∧ (an_heap (jn1_ (sm_ μ).1) A.1 p0 p1) = some r) (fun e u => qf_ k L O (sm_ μ) e u ∧ fC_ (sm_ μ).1 A L u ∧ (an_heap (jn1_ (sm_ μ).1) A.1 p0 p1) = none) := by
  have sb := sB_im I
  obtain ⟨g, κ, B, n, T, N, st, na, tk, ca, tb, eg, J, hBn, n22, hE, hT, hV⟩ := fC_open hk Z VC
  subst eg
  have HF := qE_F J hE hV
  refine jcX11_heap (Q' := fun r u => (an_heap (jn1_ (sm_ μ).1) A.1 p0 p1) = some r ∧ u = σ) (QX' := fun _ u => (an_heap (jn1_ (sm_ μ).1) A.1 p0 p1) = none ∧ u = xbump σ) (fun r u a b => ⟨a.1, ?_, b.1⟩) (fun r u a b => ⟨a.1, ?_, b.1⟩) _ _ _ _ (lk_heap (p0 := p0) (p1 := p1) hk Z I (lv_of K VC VR)) (vq_heap sb.1.2 sb.2.1.2 K.1.1.1 HF.1.1 (fun v e => ⟨e, rfl⟩) (fun e => ⟨e, rfl⟩))
  · rw [b.2]; exact VC
  · rw [b.2]; exact fC_nW VC (W := [1005]) ⟨fun _ _ _ => rfl, rfl, fun _ _ _ => rfl, rfl, rfl, rfl, rfl⟩ (by decide) (by decide) hV
set_option maxRecDepth 100000 in
theorem lf_water {k L O : Nat} {σ : kx_S} {μ : km_S} {A : fu_T} {p0 p1 : Int32} (hk : k < 600) (Z : yZ_ k (sm_ μ) L O σ) (I : im_ μ) (K : fK_ (sm_ μ).1 A) (VC : fC_ (sm_ μ).1 A L σ) (VR : fR_ A μ) : wX11_water L p0 p1 σ (fun r u => qu_ k L O (sm_ μ) r u ∧ fC_ (sm_ μ).1 A L u ∧ (an_water (jn1_ (sm_ μ).1) A.1 A.2.1 p0 p1) = some r) (fun e u => qf_ k L O (sm_ μ) e u ∧ fC_ (sm_ μ).1 A L u ∧ (an_water (jn1_ (sm_ μ).1) A.1 A.2.1 p0 p1) = none) := by
  have sb := sB_im I
  obtain ⟨g, κ, B, n, T, N, st, na, tk, ca, tb, eg, J, hBn, n22, hE, hT, hV⟩ := fC_open hk Z VC
  subst eg
  have HF := qE_F J hE hV
  refine jcX11_water (Q' := fun r u => (an_water (jn1_ (sm_ μ).1) A.1 A.2.1 p0 p1) = some r ∧ u = σ) (QX' := fun _ u => (an_water (jn1_ (sm_ μ).1) A.1 A.2.1 p0 p1) = none ∧ u = xbump σ) (fun r u a b => ⟨a.1, ?_, b.1⟩) (fun r u a b => ⟨a.1, ?_, b.1⟩) _ _ _ _ (lk_water (p0 := p0) (p1 := p1) hk Z I (lv_of K VC VR)) (vq_water sb.1.2 sb.1.1 hV HF.1.1 (fun v e => ⟨e, rfl⟩) (fun e => ⟨e, rfl⟩))
  · rw [b.2]; exact VC
  · rw [b.2]; exact fC_nW VC (W := [1005]) ⟨fun _ _ _ => rfl, rfl, fun _ _ _ => rfl, rfl, rfl, rfl, rfl⟩ (by decide) (by decide) hV
set_option maxRecDepth 100000 in
theorem lf_waters {k L O : Nat} {σ : kx_S} {μ : km_S} {A : fu_T} {p0 : Int32} (hk : k < 600) (Z : yZ_ k (sm_ μ) L O σ) (I : im_ μ) (K : fK_ (sm_ μ).1 A) (VC : fC_ (sm_ μ).1 A L σ) (VR : fR_ A μ) : wX11_waters L p0 σ (fun r u => qu_ k L O (sm_ μ) r u ∧ fC_ (sm_ μ).1 A L u ∧ zq_waters p0 = 0 ∧ r = zv_waters p0 A.2.1) (fun e u => qf_ k L O (sm_ μ) e u ∧ fC_ (sm_ μ).1 A L u ∧ zq_waters p0 = 1) := by
  exact jcX11_waters (Q' := fun _ u => nW_ [1005] σ u) (QX' := fun _ u => nW_ [1005] σ u) (fun r u a b => ⟨a.1, fC_nW VC b (by decide) (by decide) (by have y := a.2.1; rw [VR.2.1] at y; exact y), a.2.2.1, by have y := a.2.2.2; rw [VR.2.1] at y; exact y⟩) (fun r u a b => ⟨a.1, fC_nW VC b (by decide) (by decide) (by have y := a.2.1; rw [VR.2.1] at y; exact y), a.2.2⟩) _ _ _ (lk_waters (p0 := p0) hk Z I (lv_of K VC VR)) (jfX11_waters (I := nW_ [1005] σ) (nW_fw (by decide)) (fun _ _ i => i) (fun _ _ i => i) _ _ _ nW_refl)
set_option maxRecDepth 100000 in
theorem lf_board {k L O : Nat} {σ : kx_S} {μ : km_S} {A : fu_T} {p0 : Int32} (hk : k < 600) (Z : yZ_ k (sm_ μ) L O σ) (I : im_ μ) (K : fK_ (sm_ μ).1 A) (VC : fC_ (sm_ μ).1 A L σ) (VR : fR_ A μ) : wX11_board L p0 σ (fun r u => qu_ k L O (sm_ μ) r u ∧ fC_ (sm_ μ).1 A L u ∧ (bo_ A.1 p0 (jn2_ (sm_ μ).1) 0) = some r) (fun e u => qf_ k L O (sm_ μ) e u ∧ fC_ (sm_ μ).1 A L u ∧ (bo_ A.1 p0 (jn2_ (sm_ μ).1) 0) = none) := by
  have sb := sB_im I
  obtain ⟨g, κ, B, n, T, N, st, na, tk, ca, tb, eg, J, hBn, n22, hE, hT, hV⟩ := fC_open hk Z VC
  subst eg
  have HF := qE_F J hE hV
  refine jcX11_board (Q' := fun r u => (bo_ A.1 p0 (jn2_ (sm_ μ).1) 0) = some r ∧ u = σ) (QX' := fun _ u => (bo_ A.1 p0 (jn2_ (sm_ μ).1) 0) = none ∧ u = xbump σ) (fun r u a b => ⟨a.1, ?_, b.1⟩) (fun r u a b => ⟨a.1, ?_, b.1⟩) _ _ _ (lk_board (p0 := p0) hk Z I (lv_of K VC VR)) (vq_board sb.2.1.2 J hE.2.2.2.2.1 (hp_of I VR) (fun v e => ⟨e, rfl⟩) (fun e => ⟨e, rfl⟩))
  · rw [b.2]; exact VC
  · rw [b.2]; exact fC_nW VC (W := [1005]) ⟨fun _ _ _ => rfl, rfl, fun _ _ _ => rfl, rfl, rfl, rfl, rfl⟩ (by decide) (by decide) hV
set_option maxRecDepth 100000 in
theorem lf_paid {k L O : Nat} {σ : kx_S} {μ : km_S} {A : fu_T} {p0 : Int32} (hk : k < 600) (Z : yZ_ k (sm_ μ) L O σ) (I : im_ μ) (K : fK_ (sm_ μ).1 A) (VC : fC_ (sm_ μ).1 A L σ) (VR : fR_ A μ) : wX11_paid L p0 σ (fun r u => qu_ k L O (sm_ μ) r u ∧ fC_ (sm_ μ).1 A L u) (fun e u => qf_ k L O (sm_ μ) e u ∧ fC_ (sm_ μ).1 A L u) := by
  exact jcX11_paid (Q' := fun _ u => nW_ [1005] σ u) (QX' := fun _ u => nW_ [1005] σ u) (fun r u a b => ⟨a.1, fC_nW VC b (by decide) (by decide) (by have y := a.2; rw [VR.2.1] at y; exact y)⟩) (fun r u a b => ⟨a.1, fC_nW VC b (by decide) (by decide) (by have y := a.2; rw [VR.2.1] at y; exact y)⟩) _ _ _ (lk_paid (p0 := p0) hk Z I (lv_of K VC VR)) (jfX11_paid (I := nW_ [1005] σ) (nW_fw (by decide)) (fun _ _ i => i) (fun _ _ i => i) _ _ _ nW_refl)
set_option maxRecDepth 100000 in
theorem lf_count {k L O : Nat} {σ : kx_S} {μ : km_S} {A : fu_T} {p0 : Int32} (hk : k < 600) (Z : yZ_ k (sm_ μ) L O σ) (I : im_ μ) (K : fK_ (sm_ μ).1 A) (VC : fC_ (sm_ μ).1 A L σ) (VR : fR_ A μ) : wX11_count L p0 σ (fun r u => qu_ k L O (sm_ μ) r u ∧ fC_ (sm_ μ).1 A L u ∧ (an_count A.2.2.1.1 (sm_ μ) A.1 p0) = some r) (fun e u => qf_ k L O (sm_ μ) e u ∧ fC_ (sm_ μ).1 A L u ∧ (an_count A.2.2.1.1 (sm_ μ) A.1 p0) = none) := by
  have sb := sB_im I
  obtain ⟨g, κ, B, n, T, N, st, na, tk, ca, tb, eg, J, hBn, n22, hE, hT, hV⟩ := fC_open hk Z VC
  subst eg
  have HF := qE_F J hE hV
  have t213 : ∀ t, xr σ 213 (g 0) = some t → xi σ 177 t = (sm_ μ).1.2.2.2.2.1 := fun t e => by rw [← Option.some.inj ((yg6 J).1.symm.trans e)]; exact (yG_idx J).2.2.2.2.1
  refine jcX11_count (Q' := fun r u => (an_count A.2.2.1.1 (sm_ μ) A.1 p0) = some r ∧ u = σ) (QX' := fun _ u => (an_count A.2.2.1.1 (sm_ μ) A.1 p0) = none ∧ u = xbump σ) (fun r u a b => ⟨a.1, ?_, b.1⟩) (fun r u a b => ⟨a.1, ?_, b.1⟩) _ _ _ (lk_count (p0 := p0) hk Z I (lv_of K VC VR)) (vq_count sb.1.2 K.2.1.2.2.1 HF.1 t213 (fun v e => ⟨e, rfl⟩) (fun e => ⟨e, rfl⟩))
  · rw [b.2]; exact VC
  · rw [b.2]; exact fC_nW VC (W := [1005]) ⟨fun _ _ _ => rfl, rfl, fun _ _ _ => rfl, rfl, rfl, rfl, rfl⟩ (by decide) (by decide) hV
end
section
/-! the reference, a row a call -/
def an0_ (x : Option Int32) (r : Int32) (u : km_S) : Prop := km_i u 1 = oc_ x ∧ (oc_ x = 0 → r = x.getD 0)

set_option maxRecDepth 100000 in
theorem lm_reach {μ : km_S} {A : fu_T} {p0 p1 p2 p3 : Int32} (I : im_ μ) (K : fK_ (sm_ μ).1 A) (VR : fR_ A μ) : wX12_reach p0 p1 p2 p3 μ (fun r u => pz_ (z_reach p0 p1 p2 p3 (sm_ μ)) r u ∧ fR_ (fa_reach p0 p1 p2 p3 (sm_ μ) A) u) := by
  have sb := sB_im I
  obtain ⟨h, hw, hS⟩ := VR
  refine jcX12_reach (fun r u a b => ?_) _ _ _ _ _ (jcX12_reach (Q' := fun _ u => nm_ [1, 3, 13, 14, 15, 16] μ u) (fun _ _ a b => And.intro a b) _ _ _ _ _ (rm_reach I) (jfX12_reach (I := nm_ [1, 3, 13, 14, 15, 16] μ) nm_gw (fun _ _ i => i) _ _ _ _ _ nm_refl)) (vr_reach rfl h)
  refine ⟨a.1.1, ?_⟩
  have es : sm_ u = (z_reach p0 p1 p2 p3 (sm_ μ)).2.2 := congrArg (fun q => q.2.2) a.1.1.2
  have e2 : jn2_ (sm_ u).1 = jn2_ (sm_ μ).1 := by rw [es]; exact (nu_reach sb.1.1 sb.1.2).2.1
  refine ⟨?_, ?_, fS_nm hS a.2 (by decide)⟩
  · show rQ_ (jn2_ (sm_ u).1) _ u
    rw [e2]
    exact b
  · rw [a.1.2, hw]
    rfl
set_option maxRecDepth 100000 in
theorem lm_dam {μ : km_S} {A : fu_T} {p0 p1 : Int32} (I : im_ μ) (K : fK_ (sm_ μ).1 A) (VR : fR_ A μ) : wX12_dam p0 p1 μ (fun r u => pz_ (z_dam p0 p1 (sm_ μ)) r u ∧ fR_ (fa_dam p0 p1 (sm_ μ) A) u) := by
  have sb := sB_im I
  obtain ⟨h, hw, hS⟩ := VR
  refine jcX12_dam (fun r u a b => ?_) _ _ _ (jcX12_dam (Q' := fun _ u => nm_ [1, 21, 24] μ u) (fun _ _ a b => And.intro a b) _ _ _ (rm_dam I) (jfX12_dam (I := nm_ [1, 21, 24] μ) nm_gw (fun _ _ i => i) _ _ _ nm_refl)) (vr_dam rfl h)
  refine ⟨a.1.1, ?_⟩
  have es : sm_ u = (z_dam p0 p1 (sm_ μ)).2.2 := congrArg (fun q => q.2.2) a.1.1.2
  have e2 : jn2_ (sm_ u).1 = jn2_ (sm_ μ).1 := by rw [es]; exact (nu_same nz_dam).2.1
  refine ⟨?_, ?_, fS_nm hS a.2 (by decide)⟩
  · show rQ_ (jn2_ (sm_ u).1) _ u
    rw [e2]
    exact b
  · rw [a.1.2.1, hw]
    rfl
set_option maxRecDepth 100000 in
theorem lm_gate {μ : km_S} {A : fu_T} {p0 p1 : Int32} (I : im_ μ) (K : fK_ (sm_ μ).1 A) (VR : fR_ A μ) : wX12_gate p0 p1 μ (fun r u => pz_ (z_gate p0 p1 (sm_ μ)) r u ∧ fR_ A u) := by
  have sb := sB_im I
  obtain ⟨h, hw, hS⟩ := VR
  refine jcX12_gate (Q' := fun _ _ => True) (fun r u a _ => ⟨a.1.1, ?_⟩) _ _ _ (jcX12_gate (Q' := fun _ u => nm_ [1, 26] μ u) (fun _ _ a b => And.intro a b) _ _ _ (jcX12_gate (Q' := fun _ u => mw_ μ u) (fun _ _ a b => And.intro a b) _ _ _ (rz_gate I) (jfX12_gate (I := mw_ μ) (wm_gw (by decide)) (fun _ _ i => i) _ _ _ ⟨rfl, rfl⟩)) (jfX12_gate (I := nm_ [1, 26] μ) nm_gw (fun _ _ i => i) _ _ _ nm_refl)) (jfX12_gate (I := fun _ => True) gw_true (fun _ _ _ => trivial) _ _ _ trivial)
  have es : sm_ u = (z_gate p0 p1 (sm_ μ)).2.2 := congrArg (fun q => q.2.2) a.1.1.2
  have e2 : jn2_ (sm_ u).1 = jn2_ (sm_ μ).1 := by rw [es]; exact (nu_same nz_gate).2.1
  refine ⟨?_, a.1.2.1.trans hw, fS_nm hS a.2 (by decide)⟩
  rw [e2]
  exact rQ_nm h a.2 (by decide)
set_option maxRecDepth 100000 in
theorem lm_melt {μ : km_S} {A : fu_T} {p0 p1 : Int32} (I : im_ μ) (K : fK_ (sm_ μ).1 A) (VR : fR_ A μ) : wX12_melt p0 p1 μ (fun r u => pz_ (z_melt p0 p1 (sm_ μ)) r u ∧ fR_ A u) := by
  have sb := sB_im I
  obtain ⟨h, hw, hS⟩ := VR
  refine jcX12_melt (Q' := fun _ _ => True) (fun r u a _ => ⟨a.1.1, ?_⟩) _ _ _ (jcX12_melt (Q' := fun _ u => nm_ [1, 17] μ u) (fun _ _ a b => And.intro a b) _ _ _ (jcX12_melt (Q' := fun _ u => mw_ μ u) (fun _ _ a b => And.intro a b) _ _ _ (rz_melt I) (jfX12_melt (I := mw_ μ) (wm_gw (by decide)) (fun _ _ i => i) _ _ _ ⟨rfl, rfl⟩)) (jfX12_melt (I := nm_ [1, 17] μ) nm_gw (fun _ _ i => i) _ _ _ nm_refl)) (jfX12_melt (I := fun _ => True) gw_true (fun _ _ _ => trivial) _ _ _ trivial)
  have es : sm_ u = (z_melt p0 p1 (sm_ μ)).2.2 := congrArg (fun q => q.2.2) a.1.1.2
  have e2 : jn2_ (sm_ u).1 = jn2_ (sm_ μ).1 := by rw [es]; exact (nu_same nz_melt).2.1
  refine ⟨?_, a.1.2.1.trans hw, fS_nm hS a.2 (by decide)⟩
  rw [e2]
  exact rQ_nm h a.2 (by decide)
set_option maxRecDepth 100000 in
theorem lm_boom {μ : km_S} {A : fu_T} {p0 p1 p2 : Int32} (I : im_ μ) (K : fK_ (sm_ μ).1 A) (VR : fR_ A μ) : wX12_boom p0 p1 p2 μ (fun r u => pz_ (z_boom p0 p2 (sm_ μ)) r u ∧ fR_ (fa_boom p0 p1 p2 (sm_ μ) A) u) := by
  have sb := sB_im I
  obtain ⟨h, hw, hS⟩ := VR
  refine jcX12_boom (fun r u a b => ?_) _ _ _ _ (jcX12_boom (Q' := fun _ u => nm_ [1, 22, 27, 28] μ u) (fun _ _ a b => And.intro a b) _ _ _ _ (jcX12_boom (Q' := fun _ u => mw_ μ u) (fun _ _ a b => And.intro a b) _ _ _ _ (rz_boom I) (jfX12_boom (I := mw_ μ) (wm_gw (by decide)) (fun _ _ i => i) _ _ _ _ ⟨rfl, rfl⟩)) (jfX12_boom (I := nm_ [1, 22, 27, 28] μ) nm_gw (fun _ _ i => i) _ _ _ _ nm_refl)) (vr_boom rfl h)
  refine ⟨a.1.1, ?_⟩
  have es : sm_ u = (z_boom p0 p2 (sm_ μ)).2.2 := congrArg (fun q => q.2.2) a.1.1.2
  have e2 : jn2_ (sm_ u).1 = jn2_ (sm_ μ).1 := by rw [es]; exact (nu_same nz_boom).2.1
  refine ⟨?_, a.1.2.1.trans hw, fS_nm hS a.2 (by decide)⟩
  show rQ_ (jn2_ (sm_ u).1) _ u
  rw [e2]
  exact b
set_option maxRecDepth 100000 in
theorem lm_watch {μ : km_S} {A : fu_T} {p0 p1 : Int32} (hv : p1 = 0 ∨ p1 = 1) (I : im_ μ) (K : fK_ (sm_ μ).1 A) (VR : fR_ A μ) : wX12_watch p0 p1 μ (fun r u => pz_ (z_watch p0 p1 (sm_ μ)) r u ∧ fR_ (fa_watch p0 p1 (sm_ μ) A) u) := by
  have sb := sB_im I
  obtain ⟨h, hw, hS⟩ := VR
  refine jcX12_watch (fun r u a b => ?_) _ _ _ (jcX12_watch (Q' := fun _ u => nm_ [1, 23] μ u) (fun _ _ a b => And.intro a b) _ _ _ (jcX12_watch (Q' := fun _ u => mw_ μ u) (fun _ _ a b => And.intro a b) _ _ _ (rz_watch hv I) (jfX12_watch (I := mw_ μ) (wm_gw (by decide)) (fun _ _ i => i) _ _ _ ⟨rfl, rfl⟩)) (jfX12_watch (I := nm_ [1, 23] μ) nm_gw (fun _ _ i => i) _ _ _ nm_refl)) (vr_watch hv rfl h)
  refine ⟨a.1.1, ?_⟩
  have es : sm_ u = (z_watch p0 p1 (sm_ μ)).2.2 := congrArg (fun q => q.2.2) a.1.1.2
  have e2 : jn2_ (sm_ u).1 = jn2_ (sm_ μ).1 := by rw [es]; exact (nu_same nz_watch).2.1
  refine ⟨?_, a.1.2.1.trans hw, fS_nm hS a.2 (by decide)⟩
  show rQ_ (jn2_ (sm_ u).1) _ u
  rw [e2]
  exact b
set_option maxRecDepth 100000 in
theorem lm_crew {μ : km_S} {A : fu_T} {p0 p1 : Int32} (I : im_ μ) (K : fK_ (sm_ μ).1 A) (VR : fR_ A μ) : wX12_crew p0 p1 μ (fun r u => pz_ (z_crew p0 p1 (sm_ μ)) r u ∧ fR_ (fa_crew p0 p1 (sm_ μ) A) u) := by
  have sb := sB_im I
  obtain ⟨h, hw, hS⟩ := VR
  refine jcX12_crew (fun r u a b => ?_) _ _ _ (jcX12_crew (Q' := fun _ u => nm_ [1, 7, 44, 45, 46] μ u) (fun _ _ a b => And.intro a b) _ _ _ (jcX12_crew (Q' := fun _ u => mw_ μ u) (fun _ _ a b => And.intro a b) _ _ _ (rz_crew I) (jfX12_crew (I := mw_ μ) (wm_gw (by decide)) (fun _ _ i => i) _ _ _ ⟨rfl, rfl⟩)) (jfX12_crew (I := nm_ [1, 7, 44, 45, 46] μ) nm_gw (fun _ _ i => i) _ _ _ nm_refl)) (vr_crew (by rw [sb.2.2.1.1]; omega) rfl h)
  refine ⟨a.1.1, ?_⟩
  have es : sm_ u = (z_crew p0 p1 (sm_ μ)).2.2 := congrArg (fun q => q.2.2) a.1.1.2
  have e2 : jn2_ (sm_ u).1 = jn2_ (sm_ μ).1 := by rw [es]; exact (nu_crew sb.2.2.1.1 sb.2.2.1.2).2.1
  refine ⟨?_, a.1.2.1.trans hw, fS_nm hS a.2 (by decide)⟩
  show rQ_ (jn2_ (sm_ u).1) _ u
  rw [e2]
  exact b
set_option maxRecDepth 100000 in
theorem lm_feed {μ : km_S} {A : fu_T} {p0 p1 p2 p3 p4 : Int32} (I : im_ μ) (K : fK_ (sm_ μ).1 A) (VR : fR_ A μ) : wX12_feed p0 p1 p2 p3 p4 μ (fun r u => pz_ (z_feed (sm_ μ)) r u ∧ fR_ (fa_feed p0 p1 p2 p3 p4 (sm_ μ) A) u) := by
  have sb := sB_im I
  obtain ⟨h, hw, hS⟩ := VR
  refine jcX12_feed (fun r u a b => ?_) _ _ _ _ _ _ (jcX12_feed (Q' := fun _ u => nm_ [1, 9, 52] μ u) (fun _ _ a b => And.intro a b) _ _ _ _ _ _ (jcX12_feed (Q' := fun _ u => mw_ μ u) (fun _ _ a b => And.intro a b) _ _ _ _ _ _ (rz_feed I) (jfX12_feed (I := mw_ μ) (wm_gw (by decide)) (fun _ _ i => i) _ _ _ _ _ _ ⟨rfl, rfl⟩)) (jfX12_feed (I := nm_ [1, 9, 52] μ) nm_gw (fun _ _ i => i) _ _ _ _ _ _ nm_refl)) (vr_feed (s := sm_ μ) rfl sb.2.2.2.2.1 sb.2.2.2.2.2 hS.2.1)
  refine ⟨a.1.1, ?_⟩
  have es : sm_ u = (z_feed (sm_ μ)).2.2 := congrArg (fun q => q.2.2) a.1.1.2
  have e2 : jn2_ (sm_ u).1 = jn2_ (sm_ μ).1 := by rw [es]; exact nu_feed.2.1
  refine ⟨?_, a.1.2.1.trans hw, fL_nm hS.1 a.2 (by decide), b, (a.2.1 10 (by decide)).trans hS.2.2⟩
  rw [e2]
  exact rQ_nm h a.2 (by decide)
set_option maxRecDepth 100000 in
theorem lm_law {μ : km_S} {A : fu_T} {p0 p1 : Int32} (I : im_ μ) (K : fK_ (sm_ μ).1 A) (VR : fR_ A μ) : wX12_law p0 p1 μ (fun r u => py_ (z_law p0 p1 (sm_ μ)) r u ∧ fR_ (fa_law p0 p1 (sm_ μ) A) u) := by
  have sb := sB_im I
  obtain ⟨h, hw, hS⟩ := VR
  refine jcX12_law (fun r u a b => ?_) _ _ _ (jcX12_law (Q' := fun _ u => nm_ [1, 5, 9, 10, 53, 54, 55, 56, 58, 59, 60, 61, 62, 63, 64, 65, 66, 67] μ u) (fun _ _ a b => And.intro a b) _ _ _ (jcX12_law (Q' := fun _ u => mw_ μ u) (fun _ _ a b => And.intro a b) _ _ _ (rz_law I) (jfX12_law (I := mw_ μ) (wm_gw (by decide)) (fun _ _ i => i) _ _ _ ⟨rfl, rfl⟩)) (jfX12_law (I := nm_ [1, 5, 9, 10, 53, 54, 55, 56, 58, 59, 60, 61, 62, 63, 64, 65, 66, 67] μ) nm_gw (fun _ _ i => i) _ _ _ nm_refl)) (vr_law (s := sm_ μ) rfl sb.2.2.2.2.1 sb.2.2.2.2.2 hS.2.1 K.2.2.2.2 K.2.2.2.1 hS.1 hS.2.2)
  refine ⟨a.1.1, ?_⟩
  have es : sm_ u = (z_law p0 p1 (sm_ μ)).2 := congrArg (fun q => q.2) a.1.1.2
  have e2 : jn2_ (sm_ u).1 = jn2_ (sm_ μ).1 := by rw [es]; exact nu_law.2.1
  refine ⟨?_, a.1.2.1.trans hw, b.1, ?_, b.2⟩
  · rw [e2]
    exact rQ_nm h a.2 (by decide)
  · rw [a.2.2 52 (by decide)]
    exact hS.2.1
set_option maxRecDepth 100000 in
theorem lm_fault {μ : km_S} {A : fu_T} (I : im_ μ) (K : fK_ (sm_ μ).1 A) (VR : fR_ A μ) : wX12_fault μ (fun r u => pu_ (sm_ μ) r u ∧ fR_ A u ∧ r = A.2.2.2.2) := by
  have sb := sB_im I
  obtain ⟨h, hw, hS⟩ := VR
  refine jcX12_fault (Q' := fun r u => r = A.2.2.2.2) (fun r u a b => ⟨a.1.1, ?_, b⟩) _ (jcX12_fault (Q' := fun _ u => nm_ [1] μ u) (fun _ _ a b => And.intro a b) _ (jcX12_fault (Q' := fun _ u => mw_ μ u) (fun _ _ a b => And.intro a b) _ (rz_fault I) (jfX12_fault (I := mw_ μ) (wm_gw (by decide)) (fun _ _ i => i) _ ⟨rfl, rfl⟩)) (jfX12_fault (I := nm_ [1] μ) nm_gw (fun _ _ i => i) _ nm_refl)) (fun μ1 e1 => by rw [e1]; exact hS.2.2)
  refine ⟨?_, a.1.2.1.trans hw, fS_nm hS a.2 (by decide)⟩
  rw [a.1.1.2]
  exact rQ_nm h a.2 (by decide)
set_option maxRecDepth 100000 in
theorem lm_cut {μ : km_S} {A : fu_T} {p0 p1 p2 : Int32} (I : im_ μ) (K : fK_ (sm_ μ).1 A) (VR : fR_ A μ) : wX12_cut p0 p1 p2 μ (fun r u => pz_ (z_cut p0 p1 p2 (sm_ μ)) r u ∧ fR_ (fa_cut p0 p1 p2 (sm_ μ) A) u) := by
  have sb := sB_im I
  obtain ⟨h, hw, hS⟩ := VR
  refine jcX12_cut (fun r u a b => ?_) _ _ _ _ (jcX12_cut (Q' := fun _ u => nm_ [1, 4, 35, 36, 37, 38, 39, 40, 42] μ u) (fun _ _ a b => And.intro a b) _ _ _ _ (jcX12_cut (Q' := fun _ u => mw_ μ u) (fun _ _ a b => And.intro a b) _ _ _ _ (rz_cut I) (jfX12_cut (I := mw_ μ) (wm_gw (by decide)) (fun _ _ i => i) _ _ _ _ ⟨rfl, rfl⟩)) (jfX12_cut (I := nm_ [1, 4, 35, 36, 37, 38, 39, 40, 42] μ) nm_gw (fun _ _ i => i) _ _ _ _ nm_refl)) (vr_cut (nl := jn2_ (sm_ μ).1) rfl rfl h)
  refine ⟨a.1.1, ?_⟩
  have es : sm_ u = (z_cut p0 p1 p2 (sm_ μ)).2.2 := congrArg (fun q => q.2.2) a.1.1.2
  have e2 : jn2_ (sm_ u).1 = (if (sm_ μ).1.2.1 = 400 ∨ p0 < 0 ∨ 15 < p0 ∨ p1 < 1 ∨ 9 < p1 ∨ p2 < 0 ∨ ¬ p2 ≤ 1000000 then jn2_ (sm_ μ).1 else jn2_ (sm_ μ).1 + 1) := by rw [es]; exact (nu_cut sb.2.1.1 sb.2.1.2).2.1
  refine ⟨?_, a.1.2.1.trans hw, fS_nm hS a.2 (by decide)⟩
  show rQ_ (jn2_ (sm_ u).1) _ u
  rw [e2]
  exact b
set_option maxRecDepth 100000 in
theorem lm_let {μ : km_S} {A : fu_T} {p0 p1 p2 : Int32} (I : im_ μ) (K : fK_ (sm_ μ).1 A) (VR : fR_ A μ) : wX12_let p0 p1 p2 μ (fun r u => pu_ (sm_ μ) r u ∧ fR_ (fa_let p0 p1 p2 (sm_ μ) A) u ∧ an0_ ((fan_let p0 p1 p2 (sm_ μ) A).map Prod.fst) r u) := by
  have sb := sB_im I
  obtain ⟨h, hw, hS⟩ := VR
  refine jcX12_let (Q' := fun r u => (∃ b, rQ_ (jn2_ (sm_ μ).1) b u ∧ fa_let p0 p1 p2 (sm_ μ) A = (b, A.2)) ∧ an0_ ((fan_let p0 p1 p2 (sm_ μ) A).map Prod.fst) r u) (fun r u a b => ?_) _ _ _ _ (jcX12_let (Q' := fun _ u => nm_ [1, 31, 32, 38, 39, 40, 57, 68] μ u) (fun _ _ a b => And.intro a b) _ _ _ _ (jcX12_let (Q' := fun _ u => mw_ μ u) (fun _ _ a b => And.intro a b) _ _ _ _ (rz_let I) (jfX12_let (I := mw_ μ) (wm_gw (by decide)) (fun _ _ i => i) _ _ _ _ ⟨rfl, rfl⟩)) (jfX12_let (I := nm_ [1, 31, 32, 38, 39, 40, 57, 68] μ) nm_gw (fun _ _ i => i) _ _ _ _ nm_refl)) (vr_let sb.1.2 sb.2.1.2 K.1.1.1 K.1.1.2.1 sb.1.1 sb.2.1.1 hS.1.1 K.2.2.2.1.1 hS.1.2.1 (mM_L K.2.2.2.1 hS.1) h (fun e hr => ?_) (fun x b u e e1 hr => ?_))
  · refine ⟨a.1.1, ?_, b.2⟩
    obtain ⟨⟨b, b1, b2⟩, _⟩ := b
    rw [b2]
    refine ⟨?_, a.1.2.1.trans hw, fS_nm hS a.2 (by decide)⟩
    rw [a.1.1.2]
    exact b1
  · have e : fan_let p0 p1 p2 (sm_ μ) A = none := e
    refine ⟨⟨A.1, hr, ?_⟩, ?_⟩
    · unfold fa_let
      rw [e]
    · rw [e]
      exact ⟨rfl, fun q => absurd q (by decide)⟩
  · have e : fan_let p0 p1 p2 (sm_ μ) A = some (x, b) := e
    refine ⟨⟨b, hr, ?_⟩, ?_⟩
    · unfold fa_let
      rw [e]
    · rw [e]
      exact ⟨e1, fun _ => rfl⟩
set_option maxRecDepth 100000 in
theorem lm_hours {μ : km_S} {A : fu_T} {p0 : Int32} (I : im_ μ) (K : fK_ (sm_ μ).1 A) (VR : fR_ A μ) : wX12_hours p0 μ (fun r u => pz_ (z_hours p0 (sm_ μ)) r u ∧ fR_ (fa_hours p0 (sm_ μ) A) u) := by
  have sb := sB_im I
  obtain ⟨h, hw, hS⟩ := VR
  refine jcX12_hours (Q' := fun _ u => rQ_ (jn2_ (sm_ μ).1) (fa_hours p0 (sm_ μ) A).1 u ∧ wm_ u = (fa_hours p0 (sm_ μ) A).2.1) (fun r u a b => ?_) _ _ (jcX12_hours (Q' := fun _ u => nm_ [1, 2, 6, 11, 12, 18, 19, 20, 25, 29, 30, 31, 32, 33, 34, 38, 39, 40, 41, 42, 43, 46, 50, 57, 68, 69, 1000] μ u) (fun _ _ a b => And.intro a b) _ _ (rz_hours I) (jfX12_hours (I := nm_ [1, 2, 6, 11, 12, 18, 19, 20, 25, 29, 30, 31, 32, 33, 34, 38, 39, 40, 41, 42, 43, 46, 50, 57, 68, 69, 1000] μ) nm_gw (fun _ _ i => i) _ _ nm_refl)) (jaX12_hours (fun _ _ q => q) _ _ (wr_hours (S := sm_ μ) ⟨sb.1.1, sb.2.1.1, sb.2.2.1.1, sb.2.2.2.1.1⟩ K.1 K.2.2.1 (k0 := km_i μ 1) ⟨⟨I, rfl⟩, h.1, h.2, hw⟩ (fun c => ?_) (fun c q v eq e1 H1 _ _ => ?_)))
  · refine ⟨a.1, ?_⟩
    have es : sm_ u = (z_hours p0 (sm_ μ)).2.2 := congrArg (fun q => q.2.2) a.1.2
    have e2 : jn2_ (sm_ u).1 = jn2_ (sm_ μ).1 := by rw [es]; exact nu_hours.2.1
    have e3 : (fa_hours p0 (sm_ μ) A).2.2 = A.2.2 := by
      unfold fa_hours
      split <;> rfl
    refine ⟨?_, b.2, ?_⟩
    · rw [e2]
      exact b.1
    · unfold fS_
      rw [e3]
      exact fS_nm hS a.2 (by decide)
  · have ef : fa_hours p0 (sm_ μ) A = A := if_pos c
    rw [ef]
    exact ⟨rQ_si (rQ_si h (by decide)) (by decide), hw⟩
  · have ef : fa_hours p0 (sm_ μ) A = (q.2.1, q.2.2, A.2.2) := by
      unfold fa_hours
      rw [if_neg c, eq]
    rw [ef]
    exact ⟨⟨H1.2.1, H1.2.2.1⟩, H1.2.2.2⟩
set_option maxRecDepth 100000 in
theorem lm_order {μ : km_S} {A : fu_T} {p0 p1 p2 p3 : Int32} (I : im_ μ) (K : fK_ (sm_ μ).1 A) (VR : fR_ A μ) : wX12_order p0 p1 p2 p3 μ (fun r u => pz_ (z_order p0 p1 p2 p3 (sm_ μ)) r u ∧ fR_ (fa_order p0 p1 p2 p3 (sm_ μ) A) u) := by
  have sb := sB_im I
  obtain ⟨h, hw, hS⟩ := VR
  refine jcX12_order (fun r u a b => ?_) _ _ _ _ _ (jcX12_order (Q' := fun _ u => nm_ [1, 8, 47, 48, 49, 50] μ u) (fun _ _ a b => And.intro a b) _ _ _ _ _ (jcX12_order (Q' := fun _ u => mw_ μ u) (fun _ _ a b => And.intro a b) _ _ _ _ _ (rz_order I) (jfX12_order (I := mw_ μ) (wm_gw (by decide)) (fun _ _ i => i) _ _ _ _ _ ⟨rfl, rfl⟩)) (jfX12_order (I := nm_ [1, 8, 47, 48, 49, 50] μ) nm_gw (fun _ _ i => i) _ _ _ _ _ nm_refl)) (vr_order rfl h)
  refine ⟨a.1.1, ?_⟩
  have es : sm_ u = (z_order p0 p1 p2 p3 (sm_ μ)).2.2 := congrArg (fun q => q.2.2) a.1.1.2
  have e2 : jn2_ (sm_ u).1 = jn2_ (sm_ μ).1 := by rw [es]; exact (nu_order sb.2.2.2.1.1 sb.2.2.2.1.2).2.1
  refine ⟨?_, a.1.2.1.trans hw, fS_nm hS a.2 (by decide)⟩
  show rQ_ (jn2_ (sm_ u).1) _ u
  rw [e2]
  exact b
set_option maxRecDepth 100000 in
theorem lm_wants {μ : km_S} {A : fu_T} {p0 : Int32} (I : im_ μ) (K : fK_ (sm_ μ).1 A) (VR : fR_ A μ) : wX12_wants p0 μ (fun r u => pu_ (sm_ μ) r u ∧ fR_ A u ∧ an0_ (an_wants (jn4_ (sm_ μ).1) A.1 p0) r u) := by
  have sb := sB_im I
  obtain ⟨h, hw, hS⟩ := VR
  refine jcX12_wants (Q' := fun r u => an0_ (an_wants (jn4_ (sm_ μ).1) A.1 p0) r u) (fun r u a b => ⟨a.1.1, ?_, b⟩) _ _ (jcX12_wants (Q' := fun _ u => nm_ [1] μ u) (fun _ _ a b => And.intro a b) _ _ (jcX12_wants (Q' := fun _ u => mw_ μ u) (fun _ _ a b => And.intro a b) _ _ (rz_wants I) (jfX12_wants (I := mw_ μ) (wm_gw (by decide)) (fun _ _ i => i) _ _ ⟨rfl, rfl⟩)) (jfX12_wants (I := nm_ [1] μ) nm_gw (fun _ _ i => i) _ _ nm_refl)) (vr_wants sb.2.2.2.1.1 h.1 (fun v e => by rw [e]; exact ⟨rfl, fun _ => rfl⟩) (fun e => by rw [e]; exact ⟨rfl, fun q => absurd q (by decide)⟩))
  refine ⟨?_, a.1.2.1.trans hw, fS_nm hS a.2 (by decide)⟩
  rw [a.1.1.2]
  exact rQ_nm h a.2 (by decide)
set_option maxRecDepth 100000 in
theorem lm_log {μ : km_S} {A : fu_T} {p0 p1 : Int32} (I : im_ μ) (K : fK_ (sm_ μ).1 A) (VR : fR_ A μ) : wX12_log p0 p1 μ (fun r u => pu_ (sm_ μ) r u ∧ fR_ A u ∧ an0_ (an_log (jn2_ (sm_ μ).1) A.1 p0 p1) r u) := by
  have sb := sB_im I
  obtain ⟨h, hw, hS⟩ := VR
  refine jcX12_log (Q' := fun r u => an0_ (an_log (jn2_ (sm_ μ).1) A.1 p0 p1) r u) (fun r u a b => ⟨a.1.1, ?_, b⟩) _ _ _ (jcX12_log (Q' := fun _ u => nm_ [1] μ u) (fun _ _ a b => And.intro a b) _ _ _ (jcX12_log (Q' := fun _ u => mw_ μ u) (fun _ _ a b => And.intro a b) _ _ _ (rz_log I) (jfX12_log (I := mw_ μ) (wm_gw (by decide)) (fun _ _ i => i) _ _ _ ⟨rfl, rfl⟩)) (jfX12_log (I := nm_ [1] μ) nm_gw (fun _ _ i => i) _ _ _ nm_refl)) (vr_log sb.2.1.1 h.1 (fun v e => by rw [e]; exact ⟨rfl, fun _ => rfl⟩) (fun e => by rw [e]; exact ⟨rfl, fun q => absurd q (by decide)⟩))
  refine ⟨?_, a.1.2.1.trans hw, fS_nm hS a.2 (by decide)⟩
  rw [a.1.1.2]
  exact rQ_nm h a.2 (by decide)
set_option maxRecDepth 100000 in
theorem lm_cell {μ : km_S} {A : fu_T} {p0 p1 p2 : Int32} (I : im_ μ) (K : fK_ (sm_ μ).1 A) (VR : fR_ A μ) : wX12_cell p0 p1 p2 μ (fun r u => pu_ (sm_ μ) r u ∧ fR_ A u ∧ an0_ (an_cell (jn1_ (sm_ μ).1) A.1 p0 p1 p2) r u) := by
  have sb := sB_im I
  obtain ⟨h, hw, hS⟩ := VR
  refine jcX12_cell (Q' := fun r u => an0_ (an_cell (jn1_ (sm_ μ).1) A.1 p0 p1 p2) r u) (fun r u a b => ⟨a.1.1, ?_, b⟩) _ _ _ _ (jcX12_cell (Q' := fun _ u => nm_ [1] μ u) (fun _ _ a b => And.intro a b) _ _ _ _ (jcX12_cell (Q' := fun _ u => mw_ μ u) (fun _ _ a b => And.intro a b) _ _ _ _ (rz_cell I) (jfX12_cell (I := mw_ μ) (wm_gw (by decide)) (fun _ _ i => i) _ _ _ _ ⟨rfl, rfl⟩)) (jfX12_cell (I := nm_ [1] μ) nm_gw (fun _ _ i => i) _ _ _ _ nm_refl)) (vr_cell sb.1.2 K.1.1.1 sb.1.1 h.1 (fun v e => by rw [e]; exact ⟨rfl, fun _ => rfl⟩) (fun e => by rw [e]; exact ⟨rfl, fun q => absurd q (by decide)⟩))
  refine ⟨?_, a.1.2.1.trans hw, fS_nm hS a.2 (by decide)⟩
  rw [a.1.1.2]
  exact rQ_nm h a.2 (by decide)
set_option maxRecDepth 100000 in
theorem lm_inCell {μ : km_S} {A : fu_T} {p0 p1 p2 : Int32} (I : im_ μ) (K : fK_ (sm_ μ).1 A) (VR : fR_ A μ) : wX12_inCell p0 p1 p2 μ (fun r u => pu_ (sm_ μ) r u ∧ fR_ A u ∧ an0_ (an_inCell (jn1_ (sm_ μ).1) A.1 p0 p1 p2) r u) := by
  have sb := sB_im I
  obtain ⟨h, hw, hS⟩ := VR
  refine jcX12_inCell (Q' := fun r u => an0_ (an_inCell (jn1_ (sm_ μ).1) A.1 p0 p1 p2) r u) (fun r u a b => ⟨a.1.1, ?_, b⟩) _ _ _ _ (jcX12_inCell (Q' := fun _ u => nm_ [1] μ u) (fun _ _ a b => And.intro a b) _ _ _ _ (jcX12_inCell (Q' := fun _ u => mw_ μ u) (fun _ _ a b => And.intro a b) _ _ _ _ (rz_inCell I) (jfX12_inCell (I := mw_ μ) (wm_gw (by decide)) (fun _ _ i => i) _ _ _ _ ⟨rfl, rfl⟩)) (jfX12_inCell (I := nm_ [1] μ) nm_gw (fun _ _ i => i) _ _ _ _ nm_refl)) (vr_inCell sb.1.2 sb.2.1.2 K.1.1.1 sb.1.1 h.1 (fun v e => by rw [e]; exact ⟨rfl, fun _ => rfl⟩) (fun e => by rw [e]; exact ⟨rfl, fun q => absurd q (by decide)⟩))
  refine ⟨?_, a.1.2.1.trans hw, fS_nm hS a.2 (by decide)⟩
  rw [a.1.1.2]
  exact rQ_nm h a.2 (by decide)
set_option maxRecDepth 100000 in
theorem lm_heap {μ : km_S} {A : fu_T} {p0 p1 : Int32} (I : im_ μ) (K : fK_ (sm_ μ).1 A) (VR : fR_ A μ) : wX12_heap p0 p1 μ (fun r u => pu_ (sm_ μ) r u ∧ fR_ A u ∧ an0_ (an_heap (jn1_ (sm_ μ).1) A.1 p0 p1) r u) := by
  have sb := sB_im I
  obtain ⟨h, hw, hS⟩ := VR
  refine jcX12_heap (Q' := fun r u => an0_ (an_heap (jn1_ (sm_ μ).1) A.1 p0 p1) r u) (fun r u a b => ⟨a.1.1, ?_, b⟩) _ _ _ (jcX12_heap (Q' := fun _ u => nm_ [1] μ u) (fun _ _ a b => And.intro a b) _ _ _ (jcX12_heap (Q' := fun _ u => mw_ μ u) (fun _ _ a b => And.intro a b) _ _ _ (rz_heap I) (jfX12_heap (I := mw_ μ) (wm_gw (by decide)) (fun _ _ i => i) _ _ _ ⟨rfl, rfl⟩)) (jfX12_heap (I := nm_ [1] μ) nm_gw (fun _ _ i => i) _ _ _ nm_refl)) (vr_heap sb.1.2 sb.2.1.2 K.1.1.1 sb.1.1 h.1 (fun v e => by rw [e]; exact ⟨rfl, fun _ => rfl⟩) (fun e => by rw [e]; exact ⟨rfl, fun q => absurd q (by decide)⟩))
  refine ⟨?_, a.1.2.1.trans hw, fS_nm hS a.2 (by decide)⟩
  rw [a.1.1.2]
  exact rQ_nm h a.2 (by decide)
set_option maxRecDepth 100000 in
theorem lm_water {μ : km_S} {A : fu_T} {p0 p1 : Int32} (I : im_ μ) (K : fK_ (sm_ μ).1 A) (VR : fR_ A μ) : wX12_water p0 p1 μ (fun r u => pu_ (sm_ μ) r u ∧ fR_ A u ∧ an0_ (an_water (jn1_ (sm_ μ).1) A.1 A.2.1 p0 p1) r u) := by
  have sb := sB_im I
  obtain ⟨h, hw, hS⟩ := VR
  refine jcX12_water (Q' := fun r u => an0_ (an_water (jn1_ (sm_ μ).1) A.1 A.2.1 p0 p1) r u) (fun r u a b => ⟨a.1.1, ?_, b⟩) _ _ _ (jcX12_water (Q' := fun _ u => nm_ [1] μ u) (fun _ _ a b => And.intro a b) _ _ _ (jcX12_water (Q' := fun _ u => mw_ μ u) (fun _ _ a b => And.intro a b) _ _ _ (rz_water I) (jfX12_water (I := mw_ μ) (wm_gw (by decide)) (fun _ _ i => i) _ _ _ ⟨rfl, rfl⟩)) (jfX12_water (I := nm_ [1] μ) nm_gw (fun _ _ i => i) _ _ _ nm_refl)) (vr_water K.1.1.1 sb.1.1 h.1 hw (fun v e => by rw [e]; exact ⟨rfl, fun _ => rfl⟩) (fun e => by rw [e]; exact ⟨rfl, fun q => absurd q (by decide)⟩))
  refine ⟨?_, a.1.2.1.trans hw, fS_nm hS a.2 (by decide)⟩
  rw [a.1.1.2]
  exact rQ_nm h a.2 (by decide)
set_option maxRecDepth 100000 in
theorem lm_waters {μ : km_S} {A : fu_T} {p0 : Int32} (I : im_ μ) (K : fK_ (sm_ μ).1 A) (VR : fR_ A μ) : wX12_waters p0 μ (fun r u => pl_ (sm_ μ) r u ∧ fR_ A u ∧ km_i u 1 = zq_waters p0 ∧ (zq_waters p0 = 0 → r = zv_waters p0 A.2.1)) := by
  have sb := sB_im I
  obtain ⟨h, hw, hS⟩ := VR
  refine jcX12_waters (Q' := fun _ _ => True) (fun r u a _ => ⟨a.1.1, ?_, a.1.2.2.1, fun q => by rw [← hw]; exact a.1.2.2.2 q⟩) _ _ (jcX12_waters (Q' := fun _ u => nm_ [1] μ u) (fun _ _ a b => And.intro a b) _ _ (rm_waters I) (jfX12_waters (I := nm_ [1] μ) nm_gw (fun _ _ i => i) _ _ nm_refl)) (jfX12_waters (I := fun _ => True) gw_true (fun _ _ _ => trivial) _ _ trivial)
  refine ⟨?_, a.1.2.1.1.trans hw, fS_nm hS a.2 (by decide)⟩
  rw [a.1.1.2]
  exact rQ_nm h a.2 (by decide)
set_option maxRecDepth 100000 in
theorem lm_board {μ : km_S} {A : fu_T} {p0 : Int32} (I : im_ μ) (K : fK_ (sm_ μ).1 A) (VR : fR_ A μ) : wX12_board p0 μ (fun r u => pu_ (sm_ μ) r u ∧ fR_ A u ∧ an0_ (bo_ A.1 p0 (jn2_ (sm_ μ).1) 0) r u) := by
  have sb := sB_im I
  obtain ⟨h, hw, hS⟩ := VR
  refine jcX12_board (Q' := fun r u => an0_ (bo_ A.1 p0 (jn2_ (sm_ μ).1) 0) r u) (fun r u a b => ⟨a.1.1, ?_, b⟩) _ _ (jcX12_board (Q' := fun _ u => nm_ [1] μ u) (fun _ _ a b => And.intro a b) _ _ (jcX12_board (Q' := fun _ u => mw_ μ u) (fun _ _ a b => And.intro a b) _ _ (rz_board I) (jfX12_board (I := mw_ μ) (wm_gw (by decide)) (fun _ _ i => i) _ _ ⟨rfl, rfl⟩)) (jfX12_board (I := nm_ [1] μ) nm_gw (fun _ _ i => i) _ _ nm_refl)) (vr_board sb.2.1.2 h.2 h.1 (fun v e => by rw [e]; exact ⟨rfl, fun _ => rfl⟩) (fun e => by rw [e]; exact ⟨rfl, fun q => absurd q (by decide)⟩))
  refine ⟨?_, a.1.2.1.trans hw, fS_nm hS a.2 (by decide)⟩
  rw [a.1.1.2]
  exact rQ_nm h a.2 (by decide)
set_option maxRecDepth 100000 in
theorem lm_paid {μ : km_S} {A : fu_T} {p0 : Int32} (I : im_ μ) (K : fK_ (sm_ μ).1 A) (VR : fR_ A μ) : wX12_paid p0 μ (fun r u => pl_ (sm_ μ) r u ∧ fR_ A u) := by
  have sb := sB_im I
  obtain ⟨h, hw, hS⟩ := VR
  refine jcX12_paid (Q' := fun r u => True) (fun r u a b => ⟨a.1.1, ?_⟩) _ _ (jcX12_paid (Q' := fun _ u => nm_ [1] μ u) (fun _ _ a b => And.intro a b) _ _ (jcX12_paid (Q' := fun _ u => mw_ μ u) (fun _ _ a b => And.intro a b) _ _ (rz_paid I) (jfX12_paid (I := mw_ μ) (wm_gw (by decide)) (fun _ _ i => i) _ _ ⟨rfl, rfl⟩)) (jfX12_paid (I := nm_ [1] μ) nm_gw (fun _ _ i => i) _ _ nm_refl)) (jfX12_paid (I := fun _ => True) gw_true (fun _ _ _ => trivial) _ _ trivial)
  refine ⟨?_, a.1.2.1.trans hw, fS_nm hS a.2 (by decide)⟩
  rw [a.1.1.2]
  exact rQ_nm h a.2 (by decide)
set_option maxRecDepth 100000 in
theorem lm_count {μ : km_S} {A : fu_T} {p0 : Int32} (I : im_ μ) (K : fK_ (sm_ μ).1 A) (VR : fR_ A μ) : wX12_count p0 μ (fun r u => pu_ (sm_ μ) r u ∧ fR_ A u ∧ an0_ (an_count A.2.2.1.1 (sm_ μ) A.1 p0) r u) := by
  have sb := sB_im I
  obtain ⟨h, hw, hS⟩ := VR
  refine jcX12_count (Q' := fun r u => an0_ (an_count A.2.2.1.1 (sm_ μ) A.1 p0) r u) (fun r u a b => ⟨a.1.1, ?_, b⟩) _ _ (jcX12_count (Q' := fun _ u => nm_ [1] μ u) (fun _ _ a b => And.intro a b) _ _ (jcX12_count (Q' := fun _ u => mw_ μ u) (fun _ _ a b => And.intro a b) _ _ (rz_count I) (jfX12_count (I := mw_ μ) (wm_gw (by decide)) (fun _ _ i => i) _ _ ⟨rfl, rfl⟩)) (jfX12_count (I := nm_ [1] μ) nm_gw (fun _ _ i => i) _ _ nm_refl)) (vr_count K.2.2.2.1.1 rfl hS.1.1 h.1 (fun v e => by rw [e]; exact ⟨rfl, fun _ => rfl⟩) (fun e => by rw [e]; exact ⟨rfl, fun q => absurd q (by decide)⟩))
  refine ⟨?_, a.1.2.1.trans hw, fS_nm hS a.2 (by decide)⟩
  rw [a.1.1.2]
  exact rQ_nm h a.2 (by decide)
end
section
/-! a fresh LogRiver: its tape, reader, judge -/
theorem vq_init0 {σ : kx_S} {L : Nat} : vX11_init L σ (fun u => ∃ p6 tb p7 tk ca p8 st na, (xr u 213 L = some p6 ∧ xr u 214 L = some p7 ∧ xr u 215 L = some p8) ∧ (xr u 112 p7 = some tk ∧ xr u 113 p7 = some ca ∧ xr u 192 tk = some p6 ∧ xr u 176 p6 = some tb) ∧ (xt u tk = 12 ∧ xt u ca = 20 ∧ xt u tb = 20 ∧ xn u ca = 500 ∧ xn u tb = 500) ∧ (tb ≠ ca ∧ tb ≠ st ∧ tb ≠ na ∧ ca ≠ st ∧ ca ≠ na) ∧ qj_ p8 st na u ∧ xi u 219 L = -1) := by
  unfold vX11_init vJx4a65c_init_da8c8 vJxc12de_init_da8c8 vJxa1e45_init_da8c8
  intro _ q0 _ _ a0 _ _ b0 _ _ c0 _ hL0 d0 ed0
  intro _ q1 _ _ a1 _ _ b1 _ _ c1 _ hL1 d1 ed1
  intro _ q2 _ _ a2 _ _ b2 _ _ c2 _ hL2 d2 ed2
  intro _ q3 _ _ a3 _ _ b3 _ _ c3 _ hL3 d3 ed3
  intro _ q4 _ _ a4 _ _ b4 _ _ c4 _ hL4 d4 ed4
  intro _ p6 hp6 _ s1 e1
  have hLd : xt d4 L = 13 := by rw [ed4]; exact hL4
  have f_t_L_d4 := hLd
  have ne_L_p6 : L ≠ p6 := fun q => by have h := f_t_L_d4; rw [q, hp6] at h; omega
  have f_t_L_s1 : xt s1 L = 13 := by rw [e1]; exact (va_up_ne _ _ ne_L_p6).trans f_t_L_d4
  have f_t_p6_s1 : xt s1 p6 = 11 := by rw [e1]; exact va_up_self _ _ _
  unfold vX9_init
  intro _ _ _ tb htb _ s2 e2 _ s3 e3 _ s4 e4
  have ne_L_tb : L ≠ tb := fun q => by have h := f_t_L_s1; rw [q, htb] at h; omega
  have ne_p6_tb : p6 ≠ tb := fun q => by have h := f_t_p6_s1; rw [q, htb] at h; omega
  have f_t_L_s2 : xt s2 L = 13 := by rw [e2]; exact (va_up_ne _ _ ne_L_tb).trans f_t_L_s1
  have f_t_p6_s2 : xt s2 p6 = 11 := by rw [e2]; exact (va_up_ne _ _ ne_p6_tb).trans f_t_p6_s1
  have f_t_tb_s2 : xt s2 tb = 20 := by rw [e2]; exact va_up_self _ _ _
  have f_n_tb_s2 : xn s2 tb = (Int32.toNatClampNeg 500) := by rw [e2]; exact va_up_self _ _ _
  have f_t_L_s3 : xt s3 L = 13 := by rw [e3]; exact f_t_L_s2
  have f_t_p6_s3 : xt s3 p6 = 11 := by rw [e3]; exact f_t_p6_s2
  have f_t_tb_s3 : xt s3 tb = 20 := by rw [e3]; exact f_t_tb_s2
  have f_n_tb_s3 : xn s3 tb = (Int32.toNatClampNeg 500) := by rw [e3]; exact f_n_tb_s2
  have f_r_176_p6_s3 : xr s3 176 p6 = some tb := by rw [e3]; exact va_up_self _ _ _
  have f_t_L_s4 : xt s4 L = 13 := by rw [e4]; exact f_t_L_s3
  have f_t_p6_s4 : xt s4 p6 = 11 := by rw [e4]; exact f_t_p6_s3
  have f_t_tb_s4 : xt s4 tb = 20 := by rw [e4]; exact f_t_tb_s3
  have f_n_tb_s4 : xn s4 tb = (Int32.toNatClampNeg 500) := by rw [e4]; exact f_n_tb_s3
  have f_r_176_p6_s4 : xr s4 176 p6 = some tb := by rw [e4]; exact fg_srX f_r_176_p6_s3 (fun h => absurd h.1 (by decide))
  have f_r_213_L_s4 : xr s4 213 L = some p6 := by rw [e4]; exact va_up_self _ _ _
  intro _ p7 hp7 _ s5 e5 _ y6 ey
  have ne_L_p7 : L ≠ p7 := fun q => by have h := f_t_L_s4; rw [q, hp7] at h; omega
  have ne_p6_p7 : p6 ≠ p7 := fun q => by have h := f_t_p6_s4; rw [q, hp7] at h; omega
  have ne_tb_p7 : tb ≠ p7 := fun q => by have h := f_t_tb_s4; rw [q, hp7] at h; omega
  have f_t_L_s5 : xt s5 L = 13 := by rw [e5]; exact (va_up_ne _ _ ne_L_p7).trans f_t_L_s4
  have f_t_p6_s5 : xt s5 p6 = 11 := by rw [e5]; exact (va_up_ne _ _ ne_p6_p7).trans f_t_p6_s4
  have f_t_tb_s5 : xt s5 tb = 20 := by rw [e5]; exact (va_up_ne _ _ ne_tb_p7).trans f_t_tb_s4
  have f_n_tb_s5 : xn s5 tb = (Int32.toNatClampNeg 500) := by rw [e5]; exact f_n_tb_s4
  have f_r_176_p6_s5 : xr s5 176 p6 = some tb := by rw [e5]; exact (va_up_ne _ _ ne_p6_p7).trans f_r_176_p6_s4
  have f_r_213_L_s5 : xr s5 213 L = some p6 := by rw [e5]; exact (va_up_ne _ _ ne_L_p7).trans f_r_213_L_s4
  have f_t_p7_s5 : xt s5 p7 = 7 := by rw [e5]; exact va_up_self _ _ _
  obtain rfl := Option.some.inj (f_r_213_L_s5.symm.trans ey)
  unfold vX5_init vX10_init
  intro _ tk htk _ s6 e6 _ s7 e7 _ s8 e8 _ _ _ ca hca _ s9 e9 _ s10 e10 _ s11 e11
  have ne_L_tk : L ≠ tk := fun q => by have h := f_t_L_s5; rw [q, htk] at h; omega
  have ne_p6_tk : p6 ≠ tk := fun q => by have h := f_t_p6_s5; rw [q, htk] at h; omega
  have ne_tb_tk : tb ≠ tk := fun q => by have h := f_t_tb_s5; rw [q, htk] at h; omega
  have ne_p7_tk : p7 ≠ tk := fun q => by have h := f_t_p7_s5; rw [q, htk] at h; omega
  have f_t_L_s6 : xt s6 L = 13 := by rw [e6]; exact (va_up_ne _ _ ne_L_tk).trans f_t_L_s5
  have f_t_p6_s6 : xt s6 p6 = 11 := by rw [e6]; exact (va_up_ne _ _ ne_p6_tk).trans f_t_p6_s5
  have f_t_tb_s6 : xt s6 tb = 20 := by rw [e6]; exact (va_up_ne _ _ ne_tb_tk).trans f_t_tb_s5
  have f_n_tb_s6 : xn s6 tb = (Int32.toNatClampNeg 500) := by rw [e6]; exact f_n_tb_s5
  have f_r_176_p6_s6 : xr s6 176 p6 = some tb := by rw [e6]; exact (va_up_ne _ _ ne_p6_tk).trans f_r_176_p6_s5
  have f_r_213_L_s6 : xr s6 213 L = some p6 := by rw [e6]; exact (va_up_ne _ _ ne_L_tk).trans f_r_213_L_s5
  have f_t_p7_s6 : xt s6 p7 = 7 := by rw [e6]; exact (va_up_ne _ _ ne_p7_tk).trans f_t_p7_s5
  have f_t_tk_s6 : xt s6 tk = 12 := by rw [e6]; exact va_up_self _ _ _
  have f_t_L_s7 : xt s7 L = 13 := by rw [e7]; exact f_t_L_s6
  have f_t_p6_s7 : xt s7 p6 = 11 := by rw [e7]; exact f_t_p6_s6
  have f_t_tb_s7 : xt s7 tb = 20 := by rw [e7]; exact f_t_tb_s6
  have f_n_tb_s7 : xn s7 tb = (Int32.toNatClampNeg 500) := by rw [e7]; exact f_n_tb_s6
  have f_r_176_p6_s7 : xr s7 176 p6 = some tb := by rw [e7]; exact fg_srX f_r_176_p6_s6 (fun h => absurd h.1 (by decide))
  have f_r_213_L_s7 : xr s7 213 L = some p6 := by rw [e7]; exact fg_srX f_r_213_L_s6 (fun h => absurd h.1 (by decide))
  have f_t_p7_s7 : xt s7 p7 = 7 := by rw [e7]; exact f_t_p7_s6
  have f_t_tk_s7 : xt s7 tk = 12 := by rw [e7]; exact f_t_tk_s6
  have f_r_192_tk_s7 : xr s7 192 tk = some p6 := by rw [e7]; exact va_up_self _ _ _
  have f_t_L_s8 : xt s8 L = 13 := by rw [e8]; exact f_t_L_s7
  have f_t_p6_s8 : xt s8 p6 = 11 := by rw [e8]; exact f_t_p6_s7
  have f_t_tb_s8 : xt s8 tb = 20 := by rw [e8]; exact f_t_tb_s7
  have f_n_tb_s8 : xn s8 tb = (Int32.toNatClampNeg 500) := by rw [e8]; exact f_n_tb_s7
  have f_r_176_p6_s8 : xr s8 176 p6 = some tb := by rw [e8]; exact fg_srX f_r_176_p6_s7 (fun h => absurd h.1 (by decide))
  have f_r_213_L_s8 : xr s8 213 L = some p6 := by rw [e8]; exact fg_srX f_r_213_L_s7 (fun h => absurd h.1 (by decide))
  have f_t_p7_s8 : xt s8 p7 = 7 := by rw [e8]; exact f_t_p7_s7
  have f_t_tk_s8 : xt s8 tk = 12 := by rw [e8]; exact f_t_tk_s7
  have f_r_192_tk_s8 : xr s8 192 tk = some p6 := by rw [e8]; exact fg_srX f_r_192_tk_s7 (fun h => absurd h.1 (by decide))
  have f_r_112_p7_s8 : xr s8 112 p7 = some tk := by rw [e8]; exact va_up_self _ _ _
  have ne_L_ca : L ≠ ca := fun q => by have h := f_t_L_s8; rw [q, hca] at h; omega
  have ne_p6_ca : p6 ≠ ca := fun q => by have h := f_t_p6_s8; rw [q, hca] at h; omega
  have ne_tb_ca : tb ≠ ca := fun q => by have h := f_t_tb_s8; rw [q, hca] at h; omega
  have ne_p7_ca : p7 ≠ ca := fun q => by have h := f_t_p7_s8; rw [q, hca] at h; omega
  have ne_tk_ca : tk ≠ ca := fun q => by have h := f_t_tk_s8; rw [q, hca] at h; omega
  have f_t_L_s9 : xt s9 L = 13 := by rw [e9]; exact (va_up_ne _ _ ne_L_ca).trans f_t_L_s8
  have f_t_p6_s9 : xt s9 p6 = 11 := by rw [e9]; exact (va_up_ne _ _ ne_p6_ca).trans f_t_p6_s8
  have f_t_tb_s9 : xt s9 tb = 20 := by rw [e9]; exact (va_up_ne _ _ ne_tb_ca).trans f_t_tb_s8
  have f_n_tb_s9 : xn s9 tb = (Int32.toNatClampNeg 500) := by rw [e9]; exact (va_up_ne _ _ ne_tb_ca).trans f_n_tb_s8
  have f_r_176_p6_s9 : xr s9 176 p6 = some tb := by rw [e9]; exact f_r_176_p6_s8
  have f_r_213_L_s9 : xr s9 213 L = some p6 := by rw [e9]; exact f_r_213_L_s8
  have f_t_p7_s9 : xt s9 p7 = 7 := by rw [e9]; exact (va_up_ne _ _ ne_p7_ca).trans f_t_p7_s8
  have f_t_tk_s9 : xt s9 tk = 12 := by rw [e9]; exact (va_up_ne _ _ ne_tk_ca).trans f_t_tk_s8
  have f_r_192_tk_s9 : xr s9 192 tk = some p6 := by rw [e9]; exact f_r_192_tk_s8
  have f_r_112_p7_s9 : xr s9 112 p7 = some tk := by rw [e9]; exact f_r_112_p7_s8
  have f_t_ca_s9 : xt s9 ca = 20 := by rw [e9]; exact va_up_self _ _ _
  have f_n_ca_s9 : xn s9 ca = (Int32.toNatClampNeg 500) := by rw [e9]; exact va_up_self _ _ _
  have f_t_L_s10 : xt s10 L = 13 := by rw [e10]; exact f_t_L_s9
  have f_t_p6_s10 : xt s10 p6 = 11 := by rw [e10]; exact f_t_p6_s9
  have f_t_tb_s10 : xt s10 tb = 20 := by rw [e10]; exact f_t_tb_s9
  have f_n_tb_s10 : xn s10 tb = (Int32.toNatClampNeg 500) := by rw [e10]; exact f_n_tb_s9
  have f_r_176_p6_s10 : xr s10 176 p6 = some tb := by rw [e10]; exact fg_srX f_r_176_p6_s9 (fun h => absurd h.1 (by decide))
  have f_r_213_L_s10 : xr s10 213 L = some p6 := by rw [e10]; exact fg_srX f_r_213_L_s9 (fun h => absurd h.1 (by decide))
  have f_t_p7_s10 : xt s10 p7 = 7 := by rw [e10]; exact f_t_p7_s9
  have f_t_tk_s10 : xt s10 tk = 12 := by rw [e10]; exact f_t_tk_s9
  have f_r_192_tk_s10 : xr s10 192 tk = some p6 := by rw [e10]; exact fg_srX f_r_192_tk_s9 (fun h => absurd h.1 (by decide))
  have f_r_112_p7_s10 : xr s10 112 p7 = some tk := by rw [e10]; exact fg_srX f_r_112_p7_s9 (fun h => absurd h.1 (by decide))
  have f_t_ca_s10 : xt s10 ca = 20 := by rw [e10]; exact f_t_ca_s9
  have f_n_ca_s10 : xn s10 ca = (Int32.toNatClampNeg 500) := by rw [e10]; exact f_n_ca_s9
  have f_r_113_p7_s10 : xr s10 113 p7 = some ca := by rw [e10]; exact va_up_self _ _ _
  have f_t_L_s11 : xt s11 L = 13 := by rw [e11]; exact f_t_L_s10
  have f_t_p6_s11 : xt s11 p6 = 11 := by rw [e11]; exact f_t_p6_s10
  have f_t_tb_s11 : xt s11 tb = 20 := by rw [e11]; exact f_t_tb_s10
  have f_n_tb_s11 : xn s11 tb = (Int32.toNatClampNeg 500) := by rw [e11]; exact f_n_tb_s10
  have f_r_176_p6_s11 : xr s11 176 p6 = some tb := by rw [e11]; exact fg_srX f_r_176_p6_s10 (fun h => absurd h.1 (by decide))
  have f_r_213_L_s11 : xr s11 213 L = some p6 := by rw [e11]; exact fg_srX f_r_213_L_s10 (fun h => absurd h.1 (by decide))
  have f_t_p7_s11 : xt s11 p7 = 7 := by rw [e11]; exact f_t_p7_s10
  have f_t_tk_s11 : xt s11 tk = 12 := by rw [e11]; exact f_t_tk_s10
  have f_r_192_tk_s11 : xr s11 192 tk = some p6 := by rw [e11]; exact fg_srX f_r_192_tk_s10 (fun h => absurd h.1 (by decide))
  have f_r_112_p7_s11 : xr s11 112 p7 = some tk := by rw [e11]; exact fg_srX f_r_112_p7_s10 (fun h => absurd h.1 (by decide))
  have f_t_ca_s11 : xt s11 ca = 20 := by rw [e11]; exact f_t_ca_s10
  have f_n_ca_s11 : xn s11 ca = (Int32.toNatClampNeg 500) := by rw [e11]; exact f_n_ca_s10
  have f_r_113_p7_s11 : xr s11 113 p7 = some ca := by rw [e11]; exact fg_srX f_r_113_p7_s10 (fun h => absurd h.1 (by decide))
  have f_r_214_L_s11 : xr s11 214 L = some p7 := by rw [e11]; exact va_up_self _ _ _
  intro _ p8 hp8 _ s12 e12
  have ne_L_p8 : L ≠ p8 := fun q => by have h := f_t_L_s11; rw [q, hp8] at h; omega
  have ne_p6_p8 : p6 ≠ p8 := fun q => by have h := f_t_p6_s11; rw [q, hp8] at h; omega
  have ne_tb_p8 : tb ≠ p8 := fun q => by have h := f_t_tb_s11; rw [q, hp8] at h; omega
  have ne_p7_p8 : p7 ≠ p8 := fun q => by have h := f_t_p7_s11; rw [q, hp8] at h; omega
  have ne_tk_p8 : tk ≠ p8 := fun q => by have h := f_t_tk_s11; rw [q, hp8] at h; omega
  have ne_ca_p8 : ca ≠ p8 := fun q => by have h := f_t_ca_s11; rw [q, hp8] at h; omega
  have f_t_L_s12 : xt s12 L = 13 := by rw [e12]; exact (va_up_ne _ _ ne_L_p8).trans f_t_L_s11
  have f_t_p6_s12 : xt s12 p6 = 11 := by rw [e12]; exact (va_up_ne _ _ ne_p6_p8).trans f_t_p6_s11
  have f_t_tb_s12 : xt s12 tb = 20 := by rw [e12]; exact (va_up_ne _ _ ne_tb_p8).trans f_t_tb_s11
  have f_n_tb_s12 : xn s12 tb = (Int32.toNatClampNeg 500) := by rw [e12]; exact f_n_tb_s11
  have f_r_176_p6_s12 : xr s12 176 p6 = some tb := by rw [e12]; exact (va_up_ne _ _ ne_p6_p8).trans f_r_176_p6_s11
  have f_r_213_L_s12 : xr s12 213 L = some p6 := by rw [e12]; exact (va_up_ne _ _ ne_L_p8).trans f_r_213_L_s11
  have f_t_p7_s12 : xt s12 p7 = 7 := by rw [e12]; exact (va_up_ne _ _ ne_p7_p8).trans f_t_p7_s11
  have f_t_tk_s12 : xt s12 tk = 12 := by rw [e12]; exact (va_up_ne _ _ ne_tk_p8).trans f_t_tk_s11
  have f_r_192_tk_s12 : xr s12 192 tk = some p6 := by rw [e12]; exact (va_up_ne _ _ ne_tk_p8).trans f_r_192_tk_s11
  have f_r_112_p7_s12 : xr s12 112 p7 = some tk := by rw [e12]; exact (va_up_ne _ _ ne_p7_p8).trans f_r_112_p7_s11
  have f_t_ca_s12 : xt s12 ca = 20 := by rw [e12]; exact (va_up_ne _ _ ne_ca_p8).trans f_t_ca_s11
  have f_n_ca_s12 : xn s12 ca = (Int32.toNatClampNeg 500) := by rw [e12]; exact f_n_ca_s11
  have f_r_113_p7_s12 : xr s12 113 p7 = some ca := by rw [e12]; exact (va_up_ne _ _ ne_p7_p8).trans f_r_113_p7_s11
  have f_r_214_L_s12 : xr s12 214 L = some p7 := by rw [e12]; exact (va_up_ne _ _ ne_L_p8).trans f_r_214_L_s11
  have f_t_p8_s12 : xt s12 p8 = 5 := by rw [e12]; exact va_up_self _ _ _
  unfold vX3_init
  intro _ _ _ st hst _ s13 e13 _ s14 e14 _ _ _ na hna _ s15 e15 _ s16 e16 _ s17 e17
  have ne_L_st : L ≠ st := fun q => by have h := f_t_L_s12; rw [q, hst] at h; omega
  have ne_p6_st : p6 ≠ st := fun q => by have h := f_t_p6_s12; rw [q, hst] at h; omega
  have ne_tb_st : tb ≠ st := fun q => by have h := f_t_tb_s12; rw [q, hst] at h; omega
  have ne_p7_st : p7 ≠ st := fun q => by have h := f_t_p7_s12; rw [q, hst] at h; omega
  have ne_tk_st : tk ≠ st := fun q => by have h := f_t_tk_s12; rw [q, hst] at h; omega
  have ne_ca_st : ca ≠ st := fun q => by have h := f_t_ca_s12; rw [q, hst] at h; omega
  have ne_p8_st : p8 ≠ st := fun q => by have h := f_t_p8_s12; rw [q, hst] at h; omega
  have f_t_L_s13 : xt s13 L = 13 := by rw [e13]; exact (va_up_ne _ _ ne_L_st).trans f_t_L_s12
  have f_t_p6_s13 : xt s13 p6 = 11 := by rw [e13]; exact (va_up_ne _ _ ne_p6_st).trans f_t_p6_s12
  have f_t_tb_s13 : xt s13 tb = 20 := by rw [e13]; exact (va_up_ne _ _ ne_tb_st).trans f_t_tb_s12
  have f_n_tb_s13 : xn s13 tb = (Int32.toNatClampNeg 500) := by rw [e13]; exact (va_up_ne _ _ ne_tb_st).trans f_n_tb_s12
  have f_r_176_p6_s13 : xr s13 176 p6 = some tb := by rw [e13]; exact f_r_176_p6_s12
  have f_r_213_L_s13 : xr s13 213 L = some p6 := by rw [e13]; exact f_r_213_L_s12
  have f_t_p7_s13 : xt s13 p7 = 7 := by rw [e13]; exact (va_up_ne _ _ ne_p7_st).trans f_t_p7_s12
  have f_t_tk_s13 : xt s13 tk = 12 := by rw [e13]; exact (va_up_ne _ _ ne_tk_st).trans f_t_tk_s12
  have f_r_192_tk_s13 : xr s13 192 tk = some p6 := by rw [e13]; exact f_r_192_tk_s12
  have f_r_112_p7_s13 : xr s13 112 p7 = some tk := by rw [e13]; exact f_r_112_p7_s12
  have f_t_ca_s13 : xt s13 ca = 20 := by rw [e13]; exact (va_up_ne _ _ ne_ca_st).trans f_t_ca_s12
  have f_n_ca_s13 : xn s13 ca = (Int32.toNatClampNeg 500) := by rw [e13]; exact (va_up_ne _ _ ne_ca_st).trans f_n_ca_s12
  have f_r_113_p7_s13 : xr s13 113 p7 = some ca := by rw [e13]; exact f_r_113_p7_s12
  have f_r_214_L_s13 : xr s13 214 L = some p7 := by rw [e13]; exact f_r_214_L_s12
  have f_t_p8_s13 : xt s13 p8 = 5 := by rw [e13]; exact (va_up_ne _ _ ne_p8_st).trans f_t_p8_s12
  have f_t_st_s13 : xt s13 st = 20 := by rw [e13]; exact va_up_self _ _ _
  have f_n_st_s13 : xn s13 st = (Int32.toNatClampNeg 33) := by rw [e13]; exact va_up_self _ _ _
  have f_t_L_s14 : xt s14 L = 13 := by rw [e14]; exact f_t_L_s13
  have f_t_p6_s14 : xt s14 p6 = 11 := by rw [e14]; exact f_t_p6_s13
  have f_t_tb_s14 : xt s14 tb = 20 := by rw [e14]; exact f_t_tb_s13
  have f_n_tb_s14 : xn s14 tb = (Int32.toNatClampNeg 500) := by rw [e14]; exact f_n_tb_s13
  have f_r_176_p6_s14 : xr s14 176 p6 = some tb := by rw [e14]; exact fg_srX f_r_176_p6_s13 (fun h => absurd h.1 (by decide))
  have f_r_213_L_s14 : xr s14 213 L = some p6 := by rw [e14]; exact fg_srX f_r_213_L_s13 (fun h => absurd h.1 (by decide))
  have f_t_p7_s14 : xt s14 p7 = 7 := by rw [e14]; exact f_t_p7_s13
  have f_t_tk_s14 : xt s14 tk = 12 := by rw [e14]; exact f_t_tk_s13
  have f_r_192_tk_s14 : xr s14 192 tk = some p6 := by rw [e14]; exact fg_srX f_r_192_tk_s13 (fun h => absurd h.1 (by decide))
  have f_r_112_p7_s14 : xr s14 112 p7 = some tk := by rw [e14]; exact fg_srX f_r_112_p7_s13 (fun h => absurd h.1 (by decide))
  have f_t_ca_s14 : xt s14 ca = 20 := by rw [e14]; exact f_t_ca_s13
  have f_n_ca_s14 : xn s14 ca = (Int32.toNatClampNeg 500) := by rw [e14]; exact f_n_ca_s13
  have f_r_113_p7_s14 : xr s14 113 p7 = some ca := by rw [e14]; exact fg_srX f_r_113_p7_s13 (fun h => absurd h.1 (by decide))
  have f_r_214_L_s14 : xr s14 214 L = some p7 := by rw [e14]; exact fg_srX f_r_214_L_s13 (fun h => absurd h.1 (by decide))
  have f_t_p8_s14 : xt s14 p8 = 5 := by rw [e14]; exact f_t_p8_s13
  have f_t_st_s14 : xt s14 st = 20 := by rw [e14]; exact f_t_st_s13
  have f_n_st_s14 : xn s14 st = (Int32.toNatClampNeg 33) := by rw [e14]; exact f_n_st_s13
  have f_r_80_p8_s14 : xr s14 80 p8 = some st := by rw [e14]; exact va_up_self _ _ _
  have ne_L_na : L ≠ na := fun q => by have h := f_t_L_s14; rw [q, hna] at h; omega
  have ne_p6_na : p6 ≠ na := fun q => by have h := f_t_p6_s14; rw [q, hna] at h; omega
  have ne_tb_na : tb ≠ na := fun q => by have h := f_t_tb_s14; rw [q, hna] at h; omega
  have ne_p7_na : p7 ≠ na := fun q => by have h := f_t_p7_s14; rw [q, hna] at h; omega
  have ne_tk_na : tk ≠ na := fun q => by have h := f_t_tk_s14; rw [q, hna] at h; omega
  have ne_ca_na : ca ≠ na := fun q => by have h := f_t_ca_s14; rw [q, hna] at h; omega
  have ne_p8_na : p8 ≠ na := fun q => by have h := f_t_p8_s14; rw [q, hna] at h; omega
  have ne_st_na : st ≠ na := fun q => by have h := f_t_st_s14; rw [q, hna] at h; omega
  have f_t_L_s15 : xt s15 L = 13 := by rw [e15]; exact (va_up_ne _ _ ne_L_na).trans f_t_L_s14
  have f_t_p6_s15 : xt s15 p6 = 11 := by rw [e15]; exact (va_up_ne _ _ ne_p6_na).trans f_t_p6_s14
  have f_t_tb_s15 : xt s15 tb = 20 := by rw [e15]; exact (va_up_ne _ _ ne_tb_na).trans f_t_tb_s14
  have f_n_tb_s15 : xn s15 tb = (Int32.toNatClampNeg 500) := by rw [e15]; exact (va_up_ne _ _ ne_tb_na).trans f_n_tb_s14
  have f_r_176_p6_s15 : xr s15 176 p6 = some tb := by rw [e15]; exact f_r_176_p6_s14
  have f_r_213_L_s15 : xr s15 213 L = some p6 := by rw [e15]; exact f_r_213_L_s14
  have f_t_p7_s15 : xt s15 p7 = 7 := by rw [e15]; exact (va_up_ne _ _ ne_p7_na).trans f_t_p7_s14
  have f_t_tk_s15 : xt s15 tk = 12 := by rw [e15]; exact (va_up_ne _ _ ne_tk_na).trans f_t_tk_s14
  have f_r_192_tk_s15 : xr s15 192 tk = some p6 := by rw [e15]; exact f_r_192_tk_s14
  have f_r_112_p7_s15 : xr s15 112 p7 = some tk := by rw [e15]; exact f_r_112_p7_s14
  have f_t_ca_s15 : xt s15 ca = 20 := by rw [e15]; exact (va_up_ne _ _ ne_ca_na).trans f_t_ca_s14
  have f_n_ca_s15 : xn s15 ca = (Int32.toNatClampNeg 500) := by rw [e15]; exact (va_up_ne _ _ ne_ca_na).trans f_n_ca_s14
  have f_r_113_p7_s15 : xr s15 113 p7 = some ca := by rw [e15]; exact f_r_113_p7_s14
  have f_r_214_L_s15 : xr s15 214 L = some p7 := by rw [e15]; exact f_r_214_L_s14
  have f_t_p8_s15 : xt s15 p8 = 5 := by rw [e15]; exact (va_up_ne _ _ ne_p8_na).trans f_t_p8_s14
  have f_t_st_s15 : xt s15 st = 20 := by rw [e15]; exact (va_up_ne _ _ ne_st_na).trans f_t_st_s14
  have f_n_st_s15 : xn s15 st = (Int32.toNatClampNeg 33) := by rw [e15]; exact (va_up_ne _ _ ne_st_na).trans f_n_st_s14
  have f_r_80_p8_s15 : xr s15 80 p8 = some st := by rw [e15]; exact f_r_80_p8_s14
  have f_t_na_s15 : xt s15 na = 20 := by rw [e15]; exact va_up_self _ _ _
  have f_n_na_s15 : xn s15 na = (Int32.toNatClampNeg 7) := by rw [e15]; exact va_up_self _ _ _
  have f_t_L_s16 : xt s16 L = 13 := by rw [e16]; exact f_t_L_s15
  have f_t_p6_s16 : xt s16 p6 = 11 := by rw [e16]; exact f_t_p6_s15
  have f_t_tb_s16 : xt s16 tb = 20 := by rw [e16]; exact f_t_tb_s15
  have f_n_tb_s16 : xn s16 tb = (Int32.toNatClampNeg 500) := by rw [e16]; exact f_n_tb_s15
  have f_r_176_p6_s16 : xr s16 176 p6 = some tb := by rw [e16]; exact fg_srX f_r_176_p6_s15 (fun h => absurd h.1 (by decide))
  have f_r_213_L_s16 : xr s16 213 L = some p6 := by rw [e16]; exact fg_srX f_r_213_L_s15 (fun h => absurd h.1 (by decide))
  have f_t_p7_s16 : xt s16 p7 = 7 := by rw [e16]; exact f_t_p7_s15
  have f_t_tk_s16 : xt s16 tk = 12 := by rw [e16]; exact f_t_tk_s15
  have f_r_192_tk_s16 : xr s16 192 tk = some p6 := by rw [e16]; exact fg_srX f_r_192_tk_s15 (fun h => absurd h.1 (by decide))
  have f_r_112_p7_s16 : xr s16 112 p7 = some tk := by rw [e16]; exact fg_srX f_r_112_p7_s15 (fun h => absurd h.1 (by decide))
  have f_t_ca_s16 : xt s16 ca = 20 := by rw [e16]; exact f_t_ca_s15
  have f_n_ca_s16 : xn s16 ca = (Int32.toNatClampNeg 500) := by rw [e16]; exact f_n_ca_s15
  have f_r_113_p7_s16 : xr s16 113 p7 = some ca := by rw [e16]; exact fg_srX f_r_113_p7_s15 (fun h => absurd h.1 (by decide))
  have f_r_214_L_s16 : xr s16 214 L = some p7 := by rw [e16]; exact fg_srX f_r_214_L_s15 (fun h => absurd h.1 (by decide))
  have f_t_p8_s16 : xt s16 p8 = 5 := by rw [e16]; exact f_t_p8_s15
  have f_t_st_s16 : xt s16 st = 20 := by rw [e16]; exact f_t_st_s15
  have f_n_st_s16 : xn s16 st = (Int32.toNatClampNeg 33) := by rw [e16]; exact f_n_st_s15
  have f_r_80_p8_s16 : xr s16 80 p8 = some st := by rw [e16]; exact fg_srX f_r_80_p8_s15 (fun h => absurd h.1 (by decide))
  have f_t_na_s16 : xt s16 na = 20 := by rw [e16]; exact f_t_na_s15
  have f_n_na_s16 : xn s16 na = (Int32.toNatClampNeg 7) := by rw [e16]; exact f_n_na_s15
  have f_r_81_p8_s16 : xr s16 81 p8 = some na := by rw [e16]; exact va_up_self _ _ _
  have f_t_L_s17 : xt s17 L = 13 := by rw [e17]; exact f_t_L_s16
  have f_t_p6_s17 : xt s17 p6 = 11 := by rw [e17]; exact f_t_p6_s16
  have f_t_tb_s17 : xt s17 tb = 20 := by rw [e17]; exact f_t_tb_s16
  have f_n_tb_s17 : xn s17 tb = (Int32.toNatClampNeg 500) := by rw [e17]; exact f_n_tb_s16
  have f_r_176_p6_s17 : xr s17 176 p6 = some tb := by rw [e17]; exact fg_srX f_r_176_p6_s16 (fun h => absurd h.1 (by decide))
  have f_r_213_L_s17 : xr s17 213 L = some p6 := by rw [e17]; exact fg_srX f_r_213_L_s16 (fun h => absurd h.1 (by decide))
  have f_t_p7_s17 : xt s17 p7 = 7 := by rw [e17]; exact f_t_p7_s16
  have f_t_tk_s17 : xt s17 tk = 12 := by rw [e17]; exact f_t_tk_s16
  have f_r_192_tk_s17 : xr s17 192 tk = some p6 := by rw [e17]; exact fg_srX f_r_192_tk_s16 (fun h => absurd h.1 (by decide))
  have f_r_112_p7_s17 : xr s17 112 p7 = some tk := by rw [e17]; exact fg_srX f_r_112_p7_s16 (fun h => absurd h.1 (by decide))
  have f_t_ca_s17 : xt s17 ca = 20 := by rw [e17]; exact f_t_ca_s16
  have f_n_ca_s17 : xn s17 ca = (Int32.toNatClampNeg 500) := by rw [e17]; exact f_n_ca_s16
  have f_r_113_p7_s17 : xr s17 113 p7 = some ca := by rw [e17]; exact fg_srX f_r_113_p7_s16 (fun h => absurd h.1 (by decide))
  have f_r_214_L_s17 : xr s17 214 L = some p7 := by rw [e17]; exact fg_srX f_r_214_L_s16 (fun h => absurd h.1 (by decide))
  have f_t_p8_s17 : xt s17 p8 = 5 := by rw [e17]; exact f_t_p8_s16
  have f_t_st_s17 : xt s17 st = 20 := by rw [e17]; exact f_t_st_s16
  have f_n_st_s17 : xn s17 st = (Int32.toNatClampNeg 33) := by rw [e17]; exact f_n_st_s16
  have f_r_80_p8_s17 : xr s17 80 p8 = some st := by rw [e17]; exact fg_srX f_r_80_p8_s16 (fun h => absurd h.1 (by decide))
  have f_t_na_s17 : xt s17 na = 20 := by rw [e17]; exact f_t_na_s16
  have f_n_na_s17 : xn s17 na = (Int32.toNatClampNeg 7) := by rw [e17]; exact f_n_na_s16
  have f_r_81_p8_s17 : xr s17 81 p8 = some na := by rw [e17]; exact fg_srX f_r_81_p8_s16 (fun h => absurd h.1 (by decide))
  have f_r_215_L_s17 : xr s17 215 L = some p8 := by rw [e17]; exact va_up_self _ _ _
  intro _ _ _ p9 hp9 _ s18 e18 _ s19 e19 s20 e20
  have ne_L_p9 : L ≠ p9 := fun q => by have h := f_t_L_s17; rw [q, hp9] at h; omega
  have ne_p6_p9 : p6 ≠ p9 := fun q => by have h := f_t_p6_s17; rw [q, hp9] at h; omega
  have ne_tb_p9 : tb ≠ p9 := fun q => by have h := f_t_tb_s17; rw [q, hp9] at h; omega
  have ne_p7_p9 : p7 ≠ p9 := fun q => by have h := f_t_p7_s17; rw [q, hp9] at h; omega
  have ne_tk_p9 : tk ≠ p9 := fun q => by have h := f_t_tk_s17; rw [q, hp9] at h; omega
  have ne_ca_p9 : ca ≠ p9 := fun q => by have h := f_t_ca_s17; rw [q, hp9] at h; omega
  have ne_p8_p9 : p8 ≠ p9 := fun q => by have h := f_t_p8_s17; rw [q, hp9] at h; omega
  have ne_st_p9 : st ≠ p9 := fun q => by have h := f_t_st_s17; rw [q, hp9] at h; omega
  have ne_na_p9 : na ≠ p9 := fun q => by have h := f_t_na_s17; rw [q, hp9] at h; omega
  have f_t_L_s18 : xt s18 L = 13 := by rw [e18]; exact (va_up_ne _ _ ne_L_p9).trans f_t_L_s17
  have f_t_p6_s18 : xt s18 p6 = 11 := by rw [e18]; exact (va_up_ne _ _ ne_p6_p9).trans f_t_p6_s17
  have f_t_tb_s18 : xt s18 tb = 20 := by rw [e18]; exact (va_up_ne _ _ ne_tb_p9).trans f_t_tb_s17
  have f_n_tb_s18 : xn s18 tb = (Int32.toNatClampNeg 500) := by rw [e18]; exact (va_up_ne _ _ ne_tb_p9).trans f_n_tb_s17
  have f_r_176_p6_s18 : xr s18 176 p6 = some tb := by rw [e18]; exact f_r_176_p6_s17
  have f_r_213_L_s18 : xr s18 213 L = some p6 := by rw [e18]; exact f_r_213_L_s17
  have f_t_p7_s18 : xt s18 p7 = 7 := by rw [e18]; exact (va_up_ne _ _ ne_p7_p9).trans f_t_p7_s17
  have f_t_tk_s18 : xt s18 tk = 12 := by rw [e18]; exact (va_up_ne _ _ ne_tk_p9).trans f_t_tk_s17
  have f_r_192_tk_s18 : xr s18 192 tk = some p6 := by rw [e18]; exact f_r_192_tk_s17
  have f_r_112_p7_s18 : xr s18 112 p7 = some tk := by rw [e18]; exact f_r_112_p7_s17
  have f_t_ca_s18 : xt s18 ca = 20 := by rw [e18]; exact (va_up_ne _ _ ne_ca_p9).trans f_t_ca_s17
  have f_n_ca_s18 : xn s18 ca = (Int32.toNatClampNeg 500) := by rw [e18]; exact (va_up_ne _ _ ne_ca_p9).trans f_n_ca_s17
  have f_r_113_p7_s18 : xr s18 113 p7 = some ca := by rw [e18]; exact f_r_113_p7_s17
  have f_r_214_L_s18 : xr s18 214 L = some p7 := by rw [e18]; exact f_r_214_L_s17
  have f_t_p8_s18 : xt s18 p8 = 5 := by rw [e18]; exact (va_up_ne _ _ ne_p8_p9).trans f_t_p8_s17
  have f_t_st_s18 : xt s18 st = 20 := by rw [e18]; exact (va_up_ne _ _ ne_st_p9).trans f_t_st_s17
  have f_n_st_s18 : xn s18 st = (Int32.toNatClampNeg 33) := by rw [e18]; exact (va_up_ne _ _ ne_st_p9).trans f_n_st_s17
  have f_r_80_p8_s18 : xr s18 80 p8 = some st := by rw [e18]; exact f_r_80_p8_s17
  have f_t_na_s18 : xt s18 na = 20 := by rw [e18]; exact (va_up_ne _ _ ne_na_p9).trans f_t_na_s17
  have f_n_na_s18 : xn s18 na = (Int32.toNatClampNeg 7) := by rw [e18]; exact (va_up_ne _ _ ne_na_p9).trans f_n_na_s17
  have f_r_81_p8_s18 : xr s18 81 p8 = some na := by rw [e18]; exact f_r_81_p8_s17
  have f_r_215_L_s18 : xr s18 215 L = some p8 := by rw [e18]; exact f_r_215_L_s17
  have f_t_p9_s18 : xt s18 p9 = 21 := by rw [e18]; exact va_up_self _ _ _
  have f_n_p9_s18 : xn s18 p9 = (Int32.toNatClampNeg 16) := by rw [e18]; exact va_up_self _ _ _
  have f_t_L_s19 : xt s19 L = 13 := by rw [e19]; exact f_t_L_s18
  have f_t_p6_s19 : xt s19 p6 = 11 := by rw [e19]; exact f_t_p6_s18
  have f_t_tb_s19 : xt s19 tb = 20 := by rw [e19]; exact f_t_tb_s18
  have f_n_tb_s19 : xn s19 tb = (Int32.toNatClampNeg 500) := by rw [e19]; exact f_n_tb_s18
  have f_r_176_p6_s19 : xr s19 176 p6 = some tb := by rw [e19]; exact fg_srX f_r_176_p6_s18 (fun h => absurd h.1 (by decide))
  have f_r_213_L_s19 : xr s19 213 L = some p6 := by rw [e19]; exact fg_srX f_r_213_L_s18 (fun h => absurd h.1 (by decide))
  have f_t_p7_s19 : xt s19 p7 = 7 := by rw [e19]; exact f_t_p7_s18
  have f_t_tk_s19 : xt s19 tk = 12 := by rw [e19]; exact f_t_tk_s18
  have f_r_192_tk_s19 : xr s19 192 tk = some p6 := by rw [e19]; exact fg_srX f_r_192_tk_s18 (fun h => absurd h.1 (by decide))
  have f_r_112_p7_s19 : xr s19 112 p7 = some tk := by rw [e19]; exact fg_srX f_r_112_p7_s18 (fun h => absurd h.1 (by decide))
  have f_t_ca_s19 : xt s19 ca = 20 := by rw [e19]; exact f_t_ca_s18
  have f_n_ca_s19 : xn s19 ca = (Int32.toNatClampNeg 500) := by rw [e19]; exact f_n_ca_s18
  have f_r_113_p7_s19 : xr s19 113 p7 = some ca := by rw [e19]; exact fg_srX f_r_113_p7_s18 (fun h => absurd h.1 (by decide))
  have f_r_214_L_s19 : xr s19 214 L = some p7 := by rw [e19]; exact fg_srX f_r_214_L_s18 (fun h => absurd h.1 (by decide))
  have f_t_p8_s19 : xt s19 p8 = 5 := by rw [e19]; exact f_t_p8_s18
  have f_t_st_s19 : xt s19 st = 20 := by rw [e19]; exact f_t_st_s18
  have f_n_st_s19 : xn s19 st = (Int32.toNatClampNeg 33) := by rw [e19]; exact f_n_st_s18
  have f_r_80_p8_s19 : xr s19 80 p8 = some st := by rw [e19]; exact fg_srX f_r_80_p8_s18 (fun h => absurd h.1 (by decide))
  have f_t_na_s19 : xt s19 na = 20 := by rw [e19]; exact f_t_na_s18
  have f_n_na_s19 : xn s19 na = (Int32.toNatClampNeg 7) := by rw [e19]; exact f_n_na_s18
  have f_r_81_p8_s19 : xr s19 81 p8 = some na := by rw [e19]; exact fg_srX f_r_81_p8_s18 (fun h => absurd h.1 (by decide))
  have f_r_215_L_s19 : xr s19 215 L = some p8 := by rw [e19]; exact fg_srX f_r_215_L_s18 (fun h => absurd h.1 (by decide))
  have f_t_p9_s19 : xt s19 p9 = 21 := by rw [e19]; exact f_t_p9_s18
  have f_n_p9_s19 : xn s19 p9 = (Int32.toNatClampNeg 16) := by rw [e19]; exact f_n_p9_s18
  have f_r_216_L_s19 : xr s19 216 L = some p9 := by rw [e19]; exact va_up_self _ _ _
  have f_t_L_s20 : xt s20 L = 13 := by rw [e20]; exact f_t_L_s19
  have f_t_p6_s20 : xt s20 p6 = 11 := by rw [e20]; exact f_t_p6_s19
  have f_t_tb_s20 : xt s20 tb = 20 := by rw [e20]; exact f_t_tb_s19
  have f_n_tb_s20 : xn s20 tb = (Int32.toNatClampNeg 500) := by rw [e20]; exact f_n_tb_s19
  have f_r_176_p6_s20 : xr s20 176 p6 = some tb := by rw [e20]; exact f_r_176_p6_s19
  have f_r_213_L_s20 : xr s20 213 L = some p6 := by rw [e20]; exact f_r_213_L_s19
  have f_t_p7_s20 : xt s20 p7 = 7 := by rw [e20]; exact f_t_p7_s19
  have f_t_tk_s20 : xt s20 tk = 12 := by rw [e20]; exact f_t_tk_s19
  have f_r_192_tk_s20 : xr s20 192 tk = some p6 := by rw [e20]; exact f_r_192_tk_s19
  have f_r_112_p7_s20 : xr s20 112 p7 = some tk := by rw [e20]; exact f_r_112_p7_s19
  have f_t_ca_s20 : xt s20 ca = 20 := by rw [e20]; exact f_t_ca_s19
  have f_n_ca_s20 : xn s20 ca = (Int32.toNatClampNeg 500) := by rw [e20]; exact f_n_ca_s19
  have f_r_113_p7_s20 : xr s20 113 p7 = some ca := by rw [e20]; exact f_r_113_p7_s19
  have f_r_214_L_s20 : xr s20 214 L = some p7 := by rw [e20]; exact f_r_214_L_s19
  have f_t_p8_s20 : xt s20 p8 = 5 := by rw [e20]; exact f_t_p8_s19
  have f_t_st_s20 : xt s20 st = 20 := by rw [e20]; exact f_t_st_s19
  have f_n_st_s20 : xn s20 st = (Int32.toNatClampNeg 33) := by rw [e20]; exact f_n_st_s19
  have f_r_80_p8_s20 : xr s20 80 p8 = some st := by rw [e20]; exact f_r_80_p8_s19
  have f_t_na_s20 : xt s20 na = 20 := by rw [e20]; exact f_t_na_s19
  have f_n_na_s20 : xn s20 na = (Int32.toNatClampNeg 7) := by rw [e20]; exact f_n_na_s19
  have f_r_81_p8_s20 : xr s20 81 p8 = some na := by rw [e20]; exact f_r_81_p8_s19
  have f_r_215_L_s20 : xr s20 215 L = some p8 := by rw [e20]; exact f_r_215_L_s19
  have f_t_p9_s20 : xt s20 p9 = 21 := by rw [e20]; exact f_t_p9_s19
  have f_n_p9_s20 : xn s20 p9 = (Int32.toNatClampNeg 16) := by rw [e20]; exact f_n_p9_s19
  have f_r_216_L_s20 : xr s20 216 L = some p9 := by rw [e20]; exact f_r_216_L_s19
  refine ⟨p6, tb, p7, tk, ca, p8, st, na, ⟨f_r_213_L_s20, f_r_214_L_s20, f_r_215_L_s20⟩, ⟨f_r_112_p7_s20, f_r_113_p7_s20, f_r_192_tk_s20, f_r_176_p6_s20⟩, ⟨f_t_tk_s20, f_t_ca_s20, f_t_tb_s20, f_n_ca_s20, f_n_tb_s20⟩, ⟨ne_tb_ca, ne_tb_st, ne_tb_na, ne_ca_st, ne_ca_na⟩, ⟨⟨f_r_80_p8_s20, f_r_81_p8_s20, f_n_st_s20, f_n_na_s20, ne_st_na⟩, f_t_p8_s20, f_t_st_s20, f_t_na_s20⟩, ?_⟩
  rw [e20]
  exact va_up_self _ _ _
/-- nothing counted yet, and every byte nought -/
def z0_ (u : kx_S) : Prop := (∀ x, xi u 18 x = 0) ∧ (∀ x, xi u 218 x = 0) ∧ ∀ x i, xai u x i = 0
theorem va0 {F : Nat → Int32} {p x : Nat} (h : F x = 0) : va_up F p 0 x = 0 := by
  by_cases c : x = p
  · rw [c, va_up_self]
  · rw [va_up_ne _ _ c]
    exact h
theorem z0_fw {W : List Nat} (hW : ∀ f ∈ W, f ≠ 18 ∧ f ≠ 218 ∧ f ≠ 1001 ∧ f ≠ 1004) : fw_ z0_ W := by
  intro u h
  obtain ⟨h1, h2, h3⟩ := h
  refine ⟨fun f hf => ⟨fun b v => ⟨fun x => ?_, fun x => ?_, h3⟩, fun b v => ⟨h1, h2, h3⟩, fun b v => ⟨h1, h2, h3⟩⟩, fun q => absurd rfl (hW _ q).2.2.1, fun _ _ _ _ => ⟨h1, h2, h3⟩, fun _ => ⟨fun _ _ _ => ⟨h1, h2, h3⟩, fun _ _ => ⟨h1, h2, h3⟩⟩, fun q => absurd rfl (hW _ q).2.2.2, fun _ => ⟨h1, h2, h3⟩, fun t _ p hp => ⟨fun x => va0 (h1 x), fun x => va0 (h2 x), h3⟩, fun t _ p hp n => ⟨h1, h2, fun x i => ?_⟩⟩
  · refine Eq.trans ?_ (h1 x)
    show (if 18 = f then va_up (u.2.1 f) b v else u.2.1 18) x = u.2.1 18 x
    rw [if_neg (fun e => (hW f hf).1 e.symm)]
  · refine Eq.trans ?_ (h2 x)
    show (if 218 = f then va_up (u.2.1 f) b v else u.2.1 218) x = u.2.1 218 x
    rw [if_neg (fun e => (hW f hf).2.1 e.symm)]
  · show va_up u.2.2.2.2.2.1 p (fun _ => 0) x i = 0
    by_cases c : x = p
    · rw [c, va_up_self]
    · rw [va_up_ne _ _ c]
      exact h3 x i
def A0w_ (w : wt_T) : fu_T := ((fun _ _ => 0, fun _ => []), w, (0, fun _ => 0, fun _ => []), fun _ => 0, -1)
theorem K0_ {w : wt_T} (h : w_ok 0 w) : fKn_ 0 0 0 0 (A0w_ w) := by
  have n : ∀ r : Nat, ¬ r < 0 := Nat.not_lt_zero
  refine ⟨⟨⟨⟨fun r hr => absurd hr (n r), fun k g hg => absurd hg (List.not_mem_nil), fun k => List.nodup_nil, fun r c hr => absurd hr (n r), fun r hr => absurd hr (n r), fun g hg => absurd hg (n g)⟩, ⟨fun j _ => Nat.zero_le _, fun j _ => Nat.zero_le _⟩, fun r hr => absurd hr (n r)⟩, fun x _ => by show ¬ (0 : Int32) = 1; decide, ⟨by decide, fun k hk => absurd hk (n k)⟩⟩, ⟨fun r _ _ => rfl, fun x _ => rfl, fun r c _ _ _ => ⟨rfl, rfl⟩, fun r _ => ⟨rfl, rfl, rfl⟩⟩, h, ⟨Nat.zero_le _, fun l hl => absurd hl (n l)⟩, fun i _ => by show ¬ (0 : Int32) = -1; decide⟩
theorem vk_0 {a : ra_T} {k : Nat} (h : vk_ 0 a k) : False := by
  rcases h with ⟨r, c, h1, _⟩ | ⟨r, h1, _⟩
  · exact Nat.not_lt_zero r h1
  · exact Nat.not_lt_zero r h1
theorem C0_ {q O : Nat} {w : wt_T} {u : kx_S} (Z : yZ_ 0 s0_ q O u) (V : ∃ p6 tb p7 tk ca p8 st na, (xr u 213 q = some p6 ∧ xr u 214 q = some p7 ∧ xr u 215 q = some p8) ∧ (xr u 112 p7 = some tk ∧ xr u 113 p7 = some ca ∧ xr u 192 tk = some p6 ∧ xr u 176 p6 = some tb) ∧ (xt u tk = 12 ∧ xt u ca = 20 ∧ xt u tb = 20 ∧ xn u ca = 500 ∧ xn u tb = 500) ∧ (tb ≠ ca ∧ tb ≠ st ∧ tb ≠ na ∧ ca ≠ st ∧ ca ≠ na) ∧ qj_ p8 st na u ∧ xi u 219 q = -1) (z : z0_ u) (hV : Yw_ 0 w q u) : fCn_ 0 0 0 0 (A0w_ w) q u := by
  obtain ⟨g, κ, B, n, eg, eO, J, hn, hB⟩ := Z
  obtain ⟨p6, tb, p7, tk, ca, p8, st, na, ⟨v1, v2, v3⟩, v4, v5, v6, v7, v8⟩ := V
  subst eg
  obtain rfl := Option.some.inj ((yg6 J).1.symm.trans v1)
  obtain rfl := Option.some.inj ((yg7 J).1.symm.trans v2)
  obtain rfl := Option.some.inj ((yg8 J).1.symm.trans v3)
  obtain ⟨z1, z2, z3⟩ := z
  have nn : ∀ r : Nat, ¬ r < 0 := Nat.not_lt_zero
  have s0 : ∀ x, (xi u 18 x).toInt = ((0 : Nat) : Int) := fun x => by rw [z1]; rfl
  refine ⟨g, fun _ _ => 0, fun _ => 0, st, na, tk, ca, tb, gG_fr J (fun _ _ => rfl), fun r hr => absurd hr (nn r), ⟨⟨fun k hk => (vk_0 hk).elim, fun r c hr => absurd hr (nn r), fun r hr => absurd hr (nn r), fun r hr => absurd hr (nn r)⟩, ⟨s0 _, fun r hr => absurd hr (nn r)⟩, fun r hr => absurd hr (nn r), fun k hk => (vk_0 hk).elim, ⟨s0 _, fun r hr => absurd hr (nn r)⟩, ⟨s0 _, Nat.zero_le _, fun r hr => absurd hr (nn r)⟩, v7, ⟨s0 _, Nat.zero_le _, fun r hr => absurd hr (nn r), fun r hr => absurd hr (nn r)⟩, z2 _, ⟨s0 _, Nat.zero_le _, fun r hr => absurd hr (nn r)⟩⟩, ⟨v4, v5, v6, fun i hi => absurd hi (nn i), fun i _ => z3 tb i, v8⟩, hV⟩
end
