/-! the whole relation of class and reference -/
abbrev nt_T : Type := Int32 × Int32 × Int32 × Int32 × Int32 × Int32
abbrev fu_T : Type := ra_T × wt_T × lw_T × (Nat → Int32) × Int32
def jn1_ (t : nt_T) : Nat := t.1.toNatClampNeg
def jn2_ (t : nt_T) : Nat := t.2.1.toNatClampNeg
def jn3_ (t : nt_T) : Nat := t.2.2.1.toNatClampNeg
def jn4_ (t : nt_T) : Nat := t.2.2.2.1.toNatClampNeg
def jn5_ (t : nt_T) : Nat := t.2.2.2.2.1.toNatClampNeg
def gG_ (g : Nat → Nat) (x : Nat) (σ : kx_S) : Prop := g 0 = x ∧ xr σ 208 x = some (g 1) ∧ xr σ 209 x = some (g 2) ∧ xr σ 210 x = some (g 3) ∧ xr σ 211 x = some (g 4) ∧ xr σ 212 x = some (g 5) ∧ xr σ 213 x = some (g 6) ∧ xr σ 214 x = some (g 7) ∧ xr σ 215 x = some (g 8)
def fCn_ (n1 n2 n3 n4 : Nat) (A : fu_T) (x : Nat) (σ : kx_S) : Prop := ∃ (g : Nat → Nat) (T : Nat → Nat → Nat) (N : Nat → Nat) (st na tk ca tb : Nat), gG_ g x σ ∧ n22_ T N n1 A.1 ∧ qE_ T N g st na n1 n2 A.2.2.1.1 A.2.2.1.2.1 A.2.2.1.2.2 n4 n3 A.1 σ ∧ fT_ g T A.2.2.1.1 st na tk ca tb A.2.2.2.1 A.2.2.2.2 σ ∧ Yw_ n1 A.2.1 x σ
def fC_ (t : nt_T) (A : fu_T) (x : Nat) (σ : kx_S) : Prop := fCn_ (jn1_ t) (jn2_ t) (jn3_ t) (jn4_ t) A x σ
def fKn_ (n1 n2 n3 : Nat) (now : Int32) (A : fu_T) : Prop := aK_ n1 n2 n3 now 0 A.1 ∧ zi_ n1 n2 A.1 ∧ w_ok n1 A.2.1 ∧ kL_ A.2.2.1 ∧ ∀ i, i < 500 → ¬ A.2.2.2.1 i = -1
def fK_ (t : nt_T) (A : fu_T) : Prop := fKn_ (jn1_ t) (jn2_ t) (jn3_ t) t.2.2.2.2.2 A
def fS_ (A : fu_T) (μ : km_S) : Prop := fL_ A.2.2.1 μ ∧ (∀ i, i < 500 → km_a μ 52 i = A.2.2.2.1 i) ∧ km_i μ 10 = A.2.2.2.2
def fR_ (A : fu_T) (μ : km_S) : Prop := rQ_ (jn2_ (sm_ μ).1) A.1 μ ∧ wm_ μ = A.2.1 ∧ fS_ A μ
def LV_ (x : Nat) (σ : kx_S) (μ : km_S) : Prop := ∃ A, fK_ (sm_ μ).1 A ∧ fC_ (sm_ μ).1 A x σ ∧ fR_ A μ
theorem sB_im {μ : km_S} (I : im_ μ) : ((sm_ μ).1.1.toInt = (jn1_ (sm_ μ).1 : Int) ∧ jn1_ (sm_ μ).1 ≤ 10) ∧ ((sm_ μ).1.2.1.toInt = (jn2_ (sm_ μ).1 : Int) ∧ jn2_ (sm_ μ).1 ≤ 400) ∧ ((sm_ μ).1.2.2.1.toInt = (jn3_ (sm_ μ).1 : Int) ∧ jn3_ (sm_ μ).1 ≤ 6) ∧ ((sm_ μ).1.2.2.2.1.toInt = (jn4_ (sm_ μ).1 : Int) ∧ jn4_ (sm_ μ).1 ≤ 60) ∧ ((sm_ μ).1.2.2.2.2.1.toInt = (jn5_ (sm_ μ).1 : Int) ∧ jn5_ (sm_ μ).1 ≤ 500) := by
  obtain ⟨i1, i2, _, i4, i5, i6⟩ := I.1
  unfold jn1_ jn2_ jn3_ jn4_ jn5_
  rw [ki_nat, ki_nat, ki_nat, ki_nat, ki_nat]
  have e1 : (sm_ μ).1.1 = km_i μ 3 := rfl
  have e2 : (sm_ μ).1.2.1 = km_i μ 4 := rfl
  have e3 : (sm_ μ).1.2.2.1 = km_i μ 7 := rfl
  have e4 : (sm_ μ).1.2.2.2.1 = km_i μ 8 := rfl
  have e5 : (sm_ μ).1.2.2.2.2.1 = km_i μ 9 := rfl
  rw [e1, e2, e3, e4, e5]
  omega
/-! numbers after a call -/
def nu_ (t : nt_T) (n1 n2 n3 n4 : Nat) (now : Int32) : Prop := jn1_ t = n1 ∧ jn2_ t = n2 ∧ jn3_ t = n3 ∧ jn4_ t = n4 ∧ t.2.2.2.2.2 = now
theorem fC_of {t : nt_T} {n1 n2 n3 n4 x : Nat} {now : Int32} {A : fu_T} {σ : kx_S} (h : nu_ t n1 n2 n3 n4 now) (k : fCn_ n1 n2 n3 n4 A x σ) : fC_ t A x σ := by
  obtain ⟨rfl, rfl, rfl, rfl, _⟩ := h
  exact k
theorem fK_of {t : nt_T} {n1 n2 n3 n4 : Nat} {now : Int32} {A : fu_T} (h : nu_ t n1 n2 n3 n4 now) (k : fKn_ n1 n2 n3 now A) : fK_ t A := by
  obtain ⟨rfl, rfl, rfl, _, rfl⟩ := h
  exact k
section
variable {s : sz_T}
theorem nu_same {t : nt_T} (h : t = s.1) : nu_ t (jn1_ s.1) (jn2_ s.1) (jn3_ s.1) (jn4_ s.1) s.1.2.2.2.2.2 := by
  subst h
  exact ⟨rfl, rfl, rfl, rfl, rfl⟩
theorem nz_dam {r v : Int32} : (z_dam r v s).2.2.1 = s.1 := by
  unfold z_dam
  split
  · split <;> rfl
  · rfl
theorem nz_gate {r v : Int32} : (z_gate r v s).2.2.1 = s.1 := by
  unfold z_gate
  split
  · split <;> rfl
  · rfl
theorem nz_melt {r v : Int32} : (z_melt r v s).2.2.1 = s.1 := by
  unfold z_melt
  split
  · split <;> rfl
  · rfl
theorem nz_boom {r v : Int32} : (z_boom r v s).2.2.1 = s.1 := by
  unfold z_boom
  split
  · split <;> rfl
  · rfl
theorem nz_watch {r v : Int32} : (z_watch r v s).2.2.1 = s.1 := by
  unfold z_watch
  split <;> rfl
theorem ki_sucN {x : Int32} {n : Nat} (h : x.toInt = (n : Int)) (hb : n ≤ 1000) : (x + 1).toNatClampNeg = n + 1 := ki_toN (ki_addN h ki_z1 (by omega))
theorem nu_reach {a b c d : Int32} (h : s.1.1.toInt = (jn1_ s.1 : Int)) (hb : jn1_ s.1 ≤ 10) : nu_ (z_reach a b c d s).2.2.1 (if s.1.1 = 10 ∨ a < -1 ∨ s.1.1 ≤ a ∨ b < 1 ∨ 12 < b ∨ c < 1 ∨ 20 < c ∨ d < 0 ∨ ¬ d ≤ 1000 then jn1_ s.1 else jn1_ s.1 + 1) (jn2_ s.1) (jn3_ s.1) (jn4_ s.1) s.1.2.2.2.2.2 := by
  unfold z_reach
  split
  · exact ⟨rfl, rfl, rfl, rfl, rfl⟩
  · exact ⟨ki_sucN h (by omega), rfl, rfl, rfl, rfl⟩
theorem nu_cut {a b c : Int32} (h : s.1.2.1.toInt = (jn2_ s.1 : Int)) (hb : jn2_ s.1 ≤ 400) : nu_ (z_cut a b c s).2.2.1 (jn1_ s.1) (if s.1.2.1 = 400 ∨ a < 0 ∨ 15 < a ∨ b < 1 ∨ 9 < b ∨ c < 0 ∨ ¬ c ≤ 1000000 then jn2_ s.1 else jn2_ s.1 + 1) (jn3_ s.1) (jn4_ s.1) s.1.2.2.2.2.2 := by
  unfold z_cut
  split
  · exact ⟨rfl, rfl, rfl, rfl, rfl⟩
  · exact ⟨rfl, ki_sucN h (by omega), rfl, rfl, rfl⟩
theorem nu_crew {k r : Int32} (h : s.1.2.2.1.toInt = (jn3_ s.1 : Int)) (hb : jn3_ s.1 ≤ 6) : nu_ (z_crew k r s).2.2.1 (jn1_ s.1) (jn2_ s.1) (if z_is r s ∧ k = -1 ∧ ¬ s.1.2.2.1 = 6 then jn3_ s.1 + 1 else jn3_ s.1) (jn4_ s.1) s.1.2.2.2.2.2 := by
  unfold z_crew
  by_cases hz : z_is r s
  · rw [if_pos hz]
    by_cases d : k = -1
    · rw [if_pos d]
      by_cases e : s.1.2.2.1 = 6
      · rw [if_pos e, if_neg (fun q => q.2.2 e)]
        exact ⟨rfl, rfl, rfl, rfl, rfl⟩
      · rw [if_neg e, if_pos ⟨hz, d, e⟩]
        exact ⟨rfl, rfl, ki_sucN h (by omega), rfl, rfl⟩
    · rw [if_neg d]
      have e : (if z_is r s ∧ k = -1 ∧ ¬ s.1.2.2.1 = 6 then jn3_ s.1 + 1 else jn3_ s.1) = jn3_ s.1 := if_neg (fun q => d q.2.1)
      rw [e]
      split <;> exact ⟨rfl, rfl, rfl, rfl, rfl⟩
  · rw [if_neg hz, if_neg (fun q => hz q.1)]
    exact ⟨rfl, rfl, rfl, rfl, rfl⟩
theorem nu_order {r a b c : Int32} (h : s.1.2.2.2.1.toInt = (jn4_ s.1 : Int)) (hb : jn4_ s.1 ≤ 60) : nu_ (z_order r a b c s).2.2.1 (jn1_ s.1) (jn2_ s.1) (jn3_ s.1) (if z_is r s ∧ ¬ (s.2.2.2.2.2 r.toNatClampNeg = 0 ∨ a < 0 ∨ 15 < a ∨ b < 1 ∨ 9 < b ∨ c < 1 ∨ 100 < c ∨ s.1.2.2.2.1 = 60) then jn4_ s.1 + 1 else jn4_ s.1) s.1.2.2.2.2.2 := by
  unfold z_order
  by_cases hz : z_is r s
  · rw [if_pos hz]
    by_cases d : s.2.2.2.2.2 r.toNatClampNeg = 0 ∨ a < 0 ∨ 15 < a ∨ b < 1 ∨ 9 < b ∨ c < 1 ∨ 100 < c ∨ s.1.2.2.2.1 = 60
    · rw [if_pos d, if_neg (fun q => q.2 d)]
      exact ⟨rfl, rfl, rfl, rfl, rfl⟩
    · rw [if_neg d, if_pos ⟨hz, d⟩]
      exact ⟨rfl, rfl, rfl, ki_sucN h (by omega), rfl⟩
  · rw [if_neg hz, if_neg (fun q => hz q.1)]
    exact ⟨rfl, rfl, rfl, rfl, rfl⟩
theorem nu_feed : nu_ (z_feed s).2.2.1 (jn1_ s.1) (jn2_ s.1) (jn3_ s.1) (jn4_ s.1) s.1.2.2.2.2.2 := by
  unfold z_feed
  split <;> exact ⟨rfl, rfl, rfl, rfl, rfl⟩
theorem nu_law {a b : Int32} : nu_ (z_law a b s).2.1 (jn1_ s.1) (jn2_ s.1) (jn3_ s.1) (jn4_ s.1) s.1.2.2.2.2.2 := by
  unfold z_law
  split <;> exact ⟨rfl, rfl, rfl, rfl, rfl⟩
theorem nu_hours {m : Int32} : nu_ (z_hours m s).2.2.1 (jn1_ s.1) (jn2_ s.1) (jn3_ s.1) (jn4_ s.1) (if m < 0 ∨ 200 < m ∨ ¬ (s.1.2.2.2.2.2 + m ≤ 20000) then s.1.2.2.2.2.2 else s.1.2.2.2.2.2 + m) := by
  unfold z_hours
  split <;> exact ⟨rfl, rfl, rfl, rfl, rfl⟩
end
/-! what a call does to it -/
def fa_dam (r v : Int32) (s : sz_T) (A : fu_T) : fu_T := (ab_dam r v s A.1, wz_dam r v s A.2.1, A.2.2)
def fa_boom (r m v : Int32) (s : sz_T) (A : fu_T) : fu_T := (ab_boom r m v s A.1, A.2)
def fa_watch (r v : Int32) (s : sz_T) (A : fu_T) : fu_T := (ab_watch r v s A.1, A.2)
def fa_crew (k r : Int32) (s : sz_T) (A : fu_T) : fu_T := (ab_crew k r s A.1, A.2)
def fa_cut (m z t : Int32) (s : sz_T) (A : fu_T) : fu_T := (ab_cut m z t s A.1, A.2)
def fa_order (r m z n : Int32) (s : sz_T) (A : fu_T) : fu_T := (ab_order r m z n s A.1, A.2)
def fa_reach (n l c j : Int32) (s : sz_T) (A : fu_T) : fu_T := (ab_reach n l c j s A.1, wz_reach n l c j s A.2.1, A.2.2)
def fa_feed (a b c d e : Int32) (s : sz_T) (A : fu_T) : fu_T := (A.1, A.2.1, A.2.2.1, ab_tape a b c d e s A.2.2.2.1, A.2.2.2.2)
def fa_law (a b : Int32) (s : sz_T) (A : fu_T) : fu_T := (A.1, A.2.1, (ab_law a b s A.2.2.2.1 A.2.2.1 A.2.2.2.2).1, A.2.2.2.1, (ab_law a b s A.2.2.2.1 A.2.2.1 A.2.2.2.2).2)
def fan_let (l r c : Int32) (s : sz_T) (A : fu_T) : Option (Int32 × ra_T) := an_let (jn1_ s.1) (jn2_ s.1) A.1 A.2.2.1.2.1 A.2.2.1.1 A.2.2.1.2.2 s.1.2.2.2.2.2 l r c
def fa_let (l r c : Int32) (s : sz_T) (A : fu_T) : fu_T := match fan_let l r c s A with
  | some q => (q.2, A.2)
  | none => A
noncomputable def fa_hours (m : Int32) (s : sz_T) (A : fu_T) : fu_T := if m < 0 ∨ 200 < m ∨ ¬ (s.1.2.2.2.2.2 + m ≤ 20000) then A else ((ah_ (jn1_ s.1) (jn3_ s.1) (jn4_ s.1) s.2.1 s.2.2.1 s.2.2.2.1 m.toNatClampNeg (s.1.2.2.2.2.2, A.1, A.2.1)).2.1, (ah_ (jn1_ s.1) (jn3_ s.1) (jn4_ s.1) s.2.1 s.2.2.1 s.2.2.2.1 m.toNatClampNeg (s.1.2.2.2.2.2, A.1, A.2.1)).2.2, A.2.2)
/-! frames of the class -/
abbrev cw_P : List Nat := [208, 209, 210, 211, 212, 213, 214, 215]
abbrev cw_W : List Nat := [112, 113, 176, 192, 208, 209, 210, 211, 212, 213, 214, 215]
def cw_ (σ u : kx_S) : Prop := ∀ x, xt σ x ≠ 0 → xt u x = xt σ x ∧ xn u x = xn σ x ∧ xai u x = xai σ x ∧ (∀ f, f ∈ cw_W → xr u f x = xr σ f x) ∧ xi u 219 x = xi σ 219 x
def pw_ (σ u : kx_S) : Prop := ∀ x, xt σ x ≠ 0 → xt u x = xt σ x ∧ ∀ f, f ∈ cw_P → xr u f x = xr σ f x
theorem cw_refl {σ : kx_S} : cw_ σ σ := fun _ _ => ⟨rfl, rfl, rfl, fun _ _ => rfl, rfl⟩
theorem pw_refl {σ : kx_S} : pw_ σ σ := fun _ _ => ⟨rfl, fun _ _ => rfl⟩
theorem cw_fw {σ : kx_S} {W : List Nat} (hW : ∀ f ∈ W, f ∉ cw_W ∧ f ≠ 219 ∧ f ≠ 1001 ∧ f ≠ 1004) : fw_ (cw_ σ) W := by
  intro u h
  have old : ∀ p, xt u p = 0 → ∀ x, xt σ x ≠ 0 → x ≠ p := fun p hp x hx e => hx (by rw [← (h x hx).1, e]; exact hp)
  refine ⟨fun f hf => ⟨fun b v x hx => ?_, fun b v x hx => ?_, fun b v => h⟩, fun q => absurd rfl (hW _ q).2.2.1, fun _ _ _ _ => h, fun _ => ⟨fun _ _ _ => h, fun _ _ => h⟩, fun q => absurd rfl (hW _ q).2.2.2, fun _ => h, fun t _ p hp x hx => ?_, fun t _ p hp n x hx => ?_⟩
  · obtain ⟨h1, h2, h3, h4, h5⟩ := h x hx
    refine ⟨h1, h2, h3, h4, Eq.trans ?_ h5⟩
    show (if 219 = f then va_up (u.2.1 f) b v else u.2.1 219) x = u.2.1 219 x
    rw [if_neg (fun e => (hW f hf).2.1 e.symm)]
  · obtain ⟨h1, h2, h3, h4, h5⟩ := h x hx
    refine ⟨h1, h2, h3, fun e he => Eq.trans ?_ (h4 e he), h5⟩
    show (if e = f then va_up (u.2.2.1 f) b v else u.2.2.1 e) x = u.2.2.1 e x
    rw [if_neg (fun q => (hW f hf).1 (by rw [← q]; exact he))]
  · obtain ⟨h1, h2, h3, h4, h5⟩ := h x hx
    have ne := old p hp x hx
    exact ⟨(va_up_ne _ _ ne).trans h1, h2, h3, fun e he => (va_up_ne _ _ ne).trans (h4 e he), (va_up_ne _ _ ne).trans h5⟩
  · obtain ⟨h1, h2, h3, h4, h5⟩ := h x hx
    have ne := old p hp x hx
    exact ⟨(va_up_ne _ _ ne).trans h1, (va_up_ne _ _ ne).trans h2, (va_up_ne _ _ ne).trans h3, h4, h5⟩
theorem pw_fw {σ : kx_S} {W : List Nat} (hW : ∀ f ∈ W, f ∉ cw_P) : fw_ (pw_ σ) W := by
  intro u h
  have old : ∀ p, xt u p = 0 → ∀ x, xt σ x ≠ 0 → x ≠ p := fun p hp x hx e => hx (by rw [← (h x hx).1, e]; exact hp)
  refine ⟨fun f hf => ⟨fun b v => h, fun b v x hx => ?_, fun b v => h⟩, fun _ _ _ _ => h, fun _ _ _ _ => h, fun _ => ⟨fun _ _ _ => h, fun _ _ => h⟩, fun _ _ _ => h, fun _ => h, fun t _ p hp x hx => ?_, fun t _ p hp n x hx => ?_⟩
  · obtain ⟨h1, h4⟩ := h x hx
    refine ⟨h1, fun e he => Eq.trans ?_ (h4 e he)⟩
    show (if e = f then va_up (u.2.2.1 f) b v else u.2.2.1 e) x = u.2.2.1 e x
    rw [if_neg (fun q => hW f hf (by rw [← q]; exact he))]
  · obtain ⟨h1, h4⟩ := h x hx
    have ne := old p hp x hx
    exact ⟨(va_up_ne _ _ ne).trans h1, fun e he => (va_up_ne _ _ ne).trans (h4 e he)⟩
  · obtain ⟨h1, h4⟩ := h x hx
    exact ⟨(va_up_ne _ _ (old p hp x hx)).trans h1, h4⟩
section
variable {T T' : Nat → Nat → Nat} {N : Nat → Nat} {g κ : Nat → Nat} {st na nr nl nc no m tk ca tb : Nat} {s : sz_T} {B n : Nat} {a b : ra_T} {σ u : kx_S} {F : Nat → Int32} {flt : Int32}
theorem gG_fr (J : yJ_ s g κ B n σ) (h : ∀ f, f ∈ cw_P → xr u f (g 0) = xr σ f (g 0)) : gG_ g (g 0) u := ⟨rfl, (h 208 (by decide)).trans (yg1 J).1, (h 209 (by decide)).trans (yg2 J).1, (h 210 (by decide)).trans (yg3 J).1, (h 211 (by decide)).trans (yg4 J).1, (h 212 (by decide)).trans (yg5 J).1, (h 213 (by decide)).trans (yg6 J).1, (h 214 (by decide)).trans (yg7 J).1, (h 215 (by decide)).trans (yg8 J).1⟩
theorem gG_pw (J : yJ_ s g κ B n σ) (h : pw_ σ u) : gG_ g (g 0) u := gG_fr J (h (g 0) (by rw [yg0 J]; decide)).2
theorem gG_cw (J : yJ_ s g κ B n σ) (h : cw_ σ u) : gG_ g (g 0) u := gG_fr J (fun f hf => (h (g 0) (by rw [yg0 J]; decide)).2.2.2.1 f (by
  have : ∀ f, f ∈ cw_P → f ∈ cw_W := by decide
  exact this f hf))
theorem fT_cw (J : yJ_ s g κ B n σ) (t : fT_ g T m st na tk ca tb F flt σ) (e20 : T' 20 = T 20) (k : cw_ σ u) : fT_ g T' m st na tk ca tb F flt u := by
  obtain ⟨⟨t1, t2, t3, t4⟩, ⟨t5, t6, t7, t8, t9⟩, t10, t11, t12, t13⟩ := t
  have o0 := k (g 0) (by rw [yg0 J]; decide)
  have o6 := k (g 6) (by rw [(yg6 J).2]; decide)
  have o7 := k (g 7) (by rw [(yg7 J).2]; decide)
  have ok := k tk (by rw [t5]; decide)
  have oc := k ca (by rw [t6]; decide)
  have ob := k tb (by rw [t7]; decide)
  refine ⟨⟨(o7.2.2.2.1 112 (by decide)).trans t1, (o7.2.2.2.1 113 (by decide)).trans t2, (ok.2.2.2.1 192 (by decide)).trans t3, (o6.2.2.2.1 176 (by decide)).trans t4⟩, ⟨ok.1.trans t5, oc.1.trans t6, ob.1.trans t7, oc.2.1.trans t8, ob.2.1.trans t9⟩, t10, ?_, fun i hi => by rw [ob.2.2.1]; exact t12 i hi, o0.2.2.2.2.trans t13⟩
  rw [e20]
  exact t11
theorem fT_hf {W : List Nat} (J : yJ_ s g κ B n σ) (t : fT_ g T m st na tk ca tb F flt σ) (k : hf_ W g κ st na σ u) (hW : 219 ∉ W) : fT_ g T m st na tk ca tb F flt u := by
  obtain ⟨⟨t1, t2, t3, t4⟩, ⟨t5, t6, t7, t8, t9⟩, t10, t11, t12, t13⟩ := t
  obtain ⟨⟨f1, f2, f3, f4⟩, k2, k3, k4, k5⟩ := k
  have o0 : xt σ (g 0) ≠ 0 := by rw [yg0 J]; decide
  have o6 : xt σ (g 6) ≠ 0 := by rw [(yg6 J).2]; decide
  have o7 : xt σ (g 7) ≠ 0 := by rw [(yg7 J).2]; decide
  have ok : xt σ tk ≠ 0 := by rw [t5]; decide
  have oc : xt σ ca ≠ 0 := by rw [t6]; decide
  have ob : xt σ tb ≠ 0 := by rw [t7]; decide
  exact ⟨⟨by rw [f2 112 _ (by decide) o7]; exact t1, by rw [f2 113 _ (by decide) o7]; exact t2, by rw [f2 192 _ (by decide) ok]; exact t3, by rw [f2 176 _ (by decide) o6]; exact t4⟩, ⟨by rw [f1 _ ok]; exact t5, by rw [f1 _ oc]; exact t6, by rw [f1 _ ob]; exact t7, by rw [f3 _ oc]; exact t8, by rw [f3 _ ob]; exact t9⟩, t10, t11, fun i hi => by rw [k4 tb ob t10.2.1 t10.2.2.1]; exact t12 i hi, by rw [k2 219 _ hW (by decide) (by decide) o0]; exact t13⟩
theorem gG_fg (J : yJ_ s g κ B n σ) (k : fg_ σ u) : gG_ g (g 0) u := gG_fr J (fun f hf => k.2.1 f _ (by intro e; rw [e] at hf; exact absurd hf (by decide)) (by rw [yg0 J]; decide))
theorem fT_nW {W : List Nat} (t : fT_ g T m st na tk ca tb F flt σ) (k : nW_ W σ u) (hW : ∀ f ∈ W, f ∉ cw_W ∧ f ≠ 219) : fT_ g T m st na tk ca tb F flt u := by
  obtain ⟨⟨t1, t2, t3, t4⟩, ⟨t5, t6, t7, t8, t9⟩, t10, t11, t12, t13⟩ := t
  obtain ⟨k1, k2, k3, k4, k5, k6, k7⟩ := k
  have kt : ∀ x, xt u x = xt σ x := fun x => congrFun k2 x
  have kr : ∀ f x, f ∈ cw_W → xr u f x = xr σ f x := fun f x hf => k3 f x (fun q => (hW f q).1 hf)
  exact ⟨⟨by rw [kr 112 _ (by decide)]; exact t1, by rw [kr 113 _ (by decide)]; exact t2, by rw [kr 192 _ (by decide)]; exact t3, by rw [kr 176 _ (by decide)]; exact t4⟩, ⟨by rw [kt]; exact t5, by rw [kt]; exact t6, by rw [kt]; exact t7, by rw [k4]; exact t8, by rw [k4]; exact t9⟩, t10, t11, fun i hi => by rw [k5]; exact t12 i hi, by rw [k1 219 _ (fun q => (hW _ q).2 rfl)]; exact t13⟩
theorem n22_e (h : n22_ T N nr a) (e : b.1 22 = a.1 22) : n22_ T N nr b := by
  unfold n22_ at h ⊢
  rw [e]
  exact h
end
theorem fC_open {k L O : Nat} {s : sz_T} {A : fu_T} {σ : kx_S} (hk : k < 600) (Z : yZ_ k s L O σ) (VC : fC_ s.1 A L σ) : ∃ (g κ : Nat → Nat) (B n : Nat) (T : Nat → Nat → Nat) (N : Nat → Nat) (st na tk ca tb : Nat), g 0 = L ∧ yJ_ s g κ B n σ ∧ (B ≤ 2100 ∧ n ≤ 155) ∧ n22_ T N (jn1_ s.1) A.1 ∧ qE_ T N g st na (jn1_ s.1) (jn2_ s.1) A.2.2.1.1 A.2.2.1.2.1 A.2.2.1.2.2 (jn4_ s.1) (jn3_ s.1) A.1 σ ∧ fT_ g T A.2.2.1.1 st na tk ca tb A.2.2.2.1 A.2.2.2.2 σ ∧ Yw_ (jn1_ s.1) A.2.1 L σ := by
  obtain ⟨g, κ, B, n, eg, eO, J, hn, hB⟩ := Z
  obtain ⟨g', T, N, st, na, tk, ca, tb, ⟨p0, p1, p2, p3, p4, p5, p6, p7, p8⟩, n22, hE, hT, hV⟩ := VC
  subst eg
  have e1 : g' 1 = g 1 := Option.some.inj (p1.symm.trans (yg1 J).1)
  have e2 : g' 2 = g 2 := Option.some.inj (p2.symm.trans (yg2 J).1)
  have e3 : g' 3 = g 3 := Option.some.inj (p3.symm.trans (yg3 J).1)
  have e4 : g' 4 = g 4 := Option.some.inj (p4.symm.trans (yg4 J).1)
  have e5 : g' 5 = g 5 := Option.some.inj (p5.symm.trans (yg5 J).1)
  have e6 : g' 6 = g 6 := Option.some.inj (p6.symm.trans (yg6 J).1)
  have e7 : g' 7 = g 7 := Option.some.inj (p7.symm.trans (yg7 J).1)
  have e8 : g' 8 = g 8 := Option.some.inj (p8.symm.trans (yg8 J).1)
  refine ⟨g, κ, B, n, T, N, st, na, tk, ca, tb, rfl, J, yB_ J hk hn hB, n22, ?_, ?_, hV⟩
  · unfold qE_ at hE ⊢
    rw [p0, e1, e2, e3, e4, e5, e8] at hE
    exact hE
  · unfold fT_ at hT ⊢
    rw [p0, e6, e7] at hT
    exact hT
theorem lv_of {L : Nat} {A : fu_T} {σ : kx_S} {μ : km_S} (K : fK_ (sm_ μ).1 A) (VC : fC_ (sm_ μ).1 A L σ) (VR : fR_ A μ) : lv_ L σ μ := by
  obtain ⟨g', T, N, st, na, tk, ca, tb, _, _, _, _, hV⟩ := VC
  have e := VR.2.1
  unfold lv_
  rw [e]
  exact ⟨K.2.2.1, hV⟩
theorem fC_nW {L : Nat} {t : nt_T} {A : fu_T} {σ u : kx_S} {W : List Nat} (VC : fC_ t A L σ) (k : nW_ W σ u) (hW : ∀ f ∈ W, f ∉ qE_W) (hW2 : ∀ f ∈ W, f ∉ cw_W ∧ f ≠ 219) (hV : Yw_ (jn1_ t) A.2.1 L u) : fC_ t A L u := by
  obtain ⟨g, T, N, st, na, tk, ca, tb, ⟨p0, p1, p2, p3, p4, p5, p6, p7, p8⟩, n22, hE, hT, _⟩ := VC
  have kr : ∀ f x, f ∈ cw_W → xr u f x = xr σ f x := fun f x hf => k.2.2.1 f x (fun q => (hW2 f q).1 hf)
  exact ⟨g, T, N, st, na, tk, ca, tb, ⟨p0, by rw [kr 208 _ (by decide)]; exact p1, by rw [kr 209 _ (by decide)]; exact p2, by rw [kr 210 _ (by decide)]; exact p3, by rw [kr 211 _ (by decide)]; exact p4, by rw [kr 212 _ (by decide)]; exact p5, by rw [kr 213 _ (by decide)]; exact p6, by rw [kr 214 _ (by decide)]; exact p7, by rw [kr 215 _ (by decide)]; exact p8⟩, n22, qE_nW hE k hW, fT_nW hT k hW2, hV⟩
/-! frames of the reference -/
theorem fS_nm {A : fu_T} {μ u : km_S} {W : List Nat} (h : fS_ A μ) (F : nm_ W μ u) (hW : ∀ f ∈ W, f ∉ [5, 53, 54, 55, 56, 58] ∧ f ≠ 52 ∧ f ≠ 10) : fS_ A u := by
  obtain ⟨h1, h2, h3⟩ := h
  refine ⟨fL_nm h1 F (fun f hf => (hW f hf).1), ?_, (F.1 10 (fun q => (hW _ q).2.2 rfl)).trans h3⟩
  rw [F.2 52 (fun q => (hW _ q).2.1 rfl)]
  exact h2
