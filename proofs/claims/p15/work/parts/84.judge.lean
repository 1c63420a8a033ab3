theorem yp2 {s : sz_T} {g κ : Nat → Nat} {B n : Nat} {σ : kx_S} {a : Nat} (J : yJ_ s g κ B n σ) (h : xt σ a = 2) : (∃ h, xr σ 32 a = some h ∧ xt σ h = 1 ∧ κ h = 8 ∧ h ≠ g 2) ∧ ∃ o, xr σ 33 a = some o ∧ xt σ o = 1 ∧ κ o = 9 ∧ o ≠ g 5 := (J.2.1 a id).1 h
theorem yp3 {s : sz_T} {g κ : Nat → Nat} {B n : Nat} {σ : kx_S} {a : Nat} (J : yJ_ s g κ B n σ) (h : xt σ a = 3) : ∃ h, xr σ 49 a = some h ∧ xt σ h = 1 ∧ κ h = 8 ∧ h ≠ g 2 := (J.2.1 a id).2.1 h
theorem yp4 {s : sz_T} {g κ : Nat → Nat} {B n : Nat} {σ : kx_S} {a : Nat} (J : yJ_ s g κ B n σ) (h : xt σ a = 4) : ∃ h, xr σ 64 a = some h ∧ xt σ h = 10 := (J.2.1 a id).2.2.1 h
theorem yp5 {s : sz_T} {g κ : Nat → Nat} {B n : Nat} {σ : kx_S} {a : Nat} (J : yJ_ s g κ B n σ) (h : xt σ a = 5) : (∃ h, xr σ 80 a = some h ∧ xt σ h = 20 ∧ xn σ h = 33) ∧ ∃ h, xr σ 81 a = some h ∧ xt σ h = 20 ∧ xn σ h = 7 := (J.2.1 a id).2.2.2.1 h
theorem yp6 {s : sz_T} {g κ : Nat → Nat} {B n : Nat} {σ : kx_S} {a : Nat} (J : yJ_ s g κ B n σ) (h : xt σ a = 6) : ∃ h, xr σ 97 a = some h ∧ xt σ h = 20 ∧ xn σ h ≤ 500 := (J.2.1 a id).2.2.2.2.1 h
theorem yp7 {s : sz_T} {g κ : Nat → Nat} {B n : Nat} {σ : kx_S} {a : Nat} (J : yJ_ s g κ B n σ) (h : xt σ a = 7) : (∃ h, xr σ 112 a = some h ∧ xt σ h = 12) ∧ ∃ h, xr σ 113 a = some h ∧ xt σ h = 20 ∧ xn σ h = 500 := (J.2.1 a id).2.2.2.2.2.1 h
theorem yp10 {s : sz_T} {g κ : Nat → Nat} {B n : Nat} {σ : kx_S} {a : Nat} (J : yJ_ s g κ B n σ) (h : xt σ a = 10) : (xr σ 161 a = none ∨ ∃ h, xr σ 161 a = some h ∧ xt σ h = 10) ∧ (∃ h, xr σ 163 a = some h ∧ xt σ h = 1 ∧ κ h = 3) ∧ (xr σ 172 a = none ∨ ∃ h, xr σ 172 a = some h ∧ xt σ h = 2) := (J.2.1 a id).2.2.2.2.2.2.1 h
theorem yp11 {s : sz_T} {g κ : Nat → Nat} {B n : Nat} {σ : kx_S} {a : Nat} (J : yJ_ s g κ B n σ) (h : xt σ a = 11) : ∃ h, xr σ 176 a = some h ∧ xt σ h = 20 ∧ xn σ h = 500 := (J.2.1 a id).2.2.2.2.2.2.2.1 h
theorem yp12 {s : sz_T} {g κ : Nat → Nat} {B n : Nat} {σ : kx_S} {a : Nat} (J : yJ_ s g κ B n σ) (h : xt σ a = 12) : ∃ h, xr σ 192 a = some h ∧ xt σ h = 11 := (J.2.1 a id).2.2.2.2.2.2.2.2 h
theorem yg0 {s : sz_T} {E : Nat → Prop} {g κ : Nat → Nat} {B n : Nat} {σ : kx_S} (J : yI_ s E g κ B n σ) : xt σ (g 0) = 13 := J.2.2.1.1
theorem yg1 {s : sz_T} {E : Nat → Prop} {g κ : Nat → Nat} {B n : Nat} {σ : kx_S} (J : yI_ s E g κ B n σ) : xr σ 208 (g 0) = some (g 1) ∧ xt σ (g 1) = 1 ∧ κ (g 1) = 10 := J.2.2.1.2.1
theorem yg2 {s : sz_T} {E : Nat → Prop} {g κ : Nat → Nat} {B n : Nat} {σ : kx_S} (J : yI_ s E g κ B n σ) : xr σ 209 (g 0) = some (g 2) ∧ xt σ (g 2) = 1 ∧ κ (g 2) = 8 := J.2.2.1.2.2.1
theorem yg3 {s : sz_T} {E : Nat → Prop} {g κ : Nat → Nat} {B n : Nat} {σ : kx_S} (J : yI_ s E g κ B n σ) : xr σ 210 (g 0) = some (g 3) ∧ xt σ (g 3) = 1 ∧ κ (g 3) = 6 := J.2.2.1.2.2.2.1
theorem yg4 {s : sz_T} {E : Nat → Prop} {g κ : Nat → Nat} {B n : Nat} {σ : kx_S} (J : yI_ s E g κ B n σ) : xr σ 211 (g 0) = some (g 4) ∧ xt σ (g 4) = 1 ∧ κ (g 4) = 4 := J.2.2.1.2.2.2.2.1
theorem yg5 {s : sz_T} {E : Nat → Prop} {g κ : Nat → Nat} {B n : Nat} {σ : kx_S} (J : yI_ s E g κ B n σ) : xr σ 212 (g 0) = some (g 5) ∧ xt σ (g 5) = 1 ∧ κ (g 5) = 9 := J.2.2.1.2.2.2.2.2.1
theorem yg6 {s : sz_T} {E : Nat → Prop} {g κ : Nat → Nat} {B n : Nat} {σ : kx_S} (J : yI_ s E g κ B n σ) : xr σ 213 (g 0) = some (g 6) ∧ xt σ (g 6) = 11 := J.2.2.1.2.2.2.2.2.2.1
theorem yg7 {s : sz_T} {E : Nat → Prop} {g κ : Nat → Nat} {B n : Nat} {σ : kx_S} (J : yI_ s E g κ B n σ) : xr σ 214 (g 0) = some (g 7) ∧ xt σ (g 7) = 7 := J.2.2.1.2.2.2.2.2.2.2.1
theorem yg8 {s : sz_T} {E : Nat → Prop} {g κ : Nat → Nat} {B n : Nat} {σ : kx_S} (J : yI_ s E g κ B n σ) : xr σ 215 (g 0) = some (g 8) ∧ xt σ (g 8) = 5 := J.2.2.1.2.2.2.2.2.2.2.2.1
theorem yg9 {s : sz_T} {E : Nat → Prop} {g κ : Nat → Nat} {B n : Nat} {σ : kx_S} (J : yI_ s E g κ B n σ) : xr σ 216 (g 0) = some (g 9) ∧ xt σ (g 9) = 21 ∧ xn σ (g 9) = 16 := J.2.2.1.2.2.2.2.2.2.2.2.2.1
theorem yg10 {s : sz_T} {E : Nat → Prop} {g κ : Nat → Nat} {B n : Nat} {σ : kx_S} (J : yI_ s E g κ B n σ) : xt σ (g 10) = 21 ∧ 1 ≤ xn σ (g 10) := J.2.2.1.2.2.2.2.2.2.2.2.2.2
/-! numbers that are spoken of -/
theorem yI_siN {s : sz_T} {E : Nat → Prop} {g κ : Nat → Nat} {B n : Nat} {σ : kx_S} {f a : Nat} {v : Int32} (hf : f ∉ [18, 177, 171, 164, 165, 168, 160, 217]) (I : yI_ s E g κ B n σ) (N' : yN_ g κ (xsi σ f a v)) : yI_ s E g κ B n (xsi σ f a v) := by
  have N : ∀ k, k ∈ [18, 177, 171, 164, 165, 168, 160, 217] → xi (xsi σ f a v) k = xi σ k := fun k hk => by
    show (if k = f then _ else xi σ k) = xi σ k
    have e : k ≠ f := fun e => hf (by rw [← e]; exact hk)
    rw [if_neg e]
  have n18 := N 18 (by decide)
  refine ⟨⟨fun b hb => ?_, I.1.2.1, I.1.2.2.1, I.1.2.2.2⟩, I.2.1, I.2.2.1, N', ?_⟩
  · have := I.1.1 b hb
    unfold yl_ at this ⊢
    rw [n18]
    exact this
  · have := I.2.2.2.2
    unfold yS_ at this ⊢
    rw [n18, N 177 (by decide), N 217 (by decide), N 160 (by decide), N 165 (by decide), N 168 (by decide), N 164 (by decide), N 171 (by decide)]
    exact this
theorem yI_82 {s : sz_T} {E : Nat → Prop} {g κ : Nat → Nat} {B n : Nat} {σ : kx_S} {a : Nat} {v : Int32} (h : 0 ≤ v.toInt ∧ v.toInt ≤ 33) (I : yI_ s E g κ B n σ) : yI_ s E g κ B n (xsi σ 82 a v) := by
  refine yI_siN (by decide) I (fun b => ?_)
  obtain ⟨q1, q2, q3, q4, q5, q6, q7, q8⟩ := I.2.2.2.1 b
  refine ⟨q1, q2, fun e => ⟨?_, (q3 e).2⟩, q4, q5, q6, q7, q8⟩
  show 0 ≤ (va_up (xi σ 82) a v b).toInt ∧ (va_up (xi σ 82) a v b).toInt ≤ 33
  by_cases e2 : b = a
  · rw [e2, va_up_self]; exact h
  · rw [va_up_ne _ _ e2]; exact (q3 e).1
theorem yI_83 {s : sz_T} {E : Nat → Prop} {g κ : Nat → Nat} {B n : Nat} {σ : kx_S} {a : Nat} {v : Int32} (h : v = 0 ∨ v = 1) (I : yI_ s E g κ B n σ) : yI_ s E g κ B n (xsi σ 83 a v) := by
  refine yI_siN (by decide) I (fun b => ?_)
  obtain ⟨q1, q2, q3, q4, q5, q6, q7, q8⟩ := I.2.2.2.1 b
  refine ⟨q1, q2, fun e => ⟨(q3 e).1, ?_⟩, q4, q5, q6, q7, q8⟩
  show va_up (xi σ 83) a v b = 0 ∨ va_up (xi σ 83) a v b = 1
  by_cases e2 : b = a
  · rw [e2, va_up_self]; exact h
  · rw [va_up_ne _ _ e2]; exact (q3 e).2
theorem yI_114 {s : sz_T} {E : Nat → Prop} {g κ : Nat → Nat} {B n : Nat} {σ : kx_S} {a : Nat} {v : Int32} (h : 0 ≤ v.toInt ∧ v.toInt ≤ 500) (I : yI_ s E g κ B n σ) : yI_ s E g κ B n (xsi σ 114 a v) := by
  refine yI_siN (by decide) I (fun b => ?_)
  obtain ⟨q1, q2, q3, q4, q5, q6, q7, q8⟩ := I.2.2.2.1 b
  refine ⟨q1, q2, q3, fun e => ?_, q5, q6, q7, q8⟩
  show 0 ≤ (va_up (xi σ 114) a v b).toInt ∧ (va_up (xi σ 114) a v b).toInt ≤ 500
  by_cases e2 : b = a
  · rw [e2, va_up_self]; exact h
  · rw [va_up_ne _ _ e2]; exact q4 e
theorem yI_35 {s : sz_T} {E : Nat → Prop} {g κ : Nat → Nat} {B n : Nat} {σ : kx_S} {a : Nat} {v : Int32} (h : v.toInt ≤ 100) (I : yI_ s E g κ B n σ) : yI_ s E g κ B n (xsi σ 35 a v) := by
  refine yI_siN (by decide) I (fun b => ?_)
  obtain ⟨q1, q2, q3, q4, q5, q6, q7, q8⟩ := I.2.2.2.1 b
  refine ⟨fun e => ?_, q2, q3, q4, q5, q6, q7, q8⟩
  show (va_up (xi σ 35) a v b).toInt ≤ 100
  by_cases e2 : b = a
  · rw [e2, va_up_self]; exact h
  · rw [va_up_ne _ _ e2]; exact q1 e
/-- a step: what always holds still does, lists but cells' and heaps' are as long, no list is shorter -/
def yK_ (s : sz_T) (g κ : Nat → Nat) (B n : Nat) (σ τ : kx_S) : Prop := yJ_ s g κ B n τ ∧ fh_ g κ σ τ ∧ ∀ l, xt σ l = 1 → (xi σ 18 l).toInt ≤ (xi τ 18 l).toInt
theorem yK_refl {s : sz_T} {g κ : Nat → Nat} {B n : Nat} {σ : kx_S} (J : yJ_ s g κ B n σ) : yK_ s g κ B n σ σ := ⟨J, fh_refl, fun _ _ => Int.le_refl _⟩
theorem yK_trans {s : sz_T} {g κ : Nat → Nat} {B n : Nat} {a b c : kx_S} (h : yK_ s g κ B n a b) (k : yK_ s g κ B n b c) : yK_ s g κ B n a c := ⟨k.1, fh_trans h.2.1 k.2.1, fun l t => by have := h.2.2 l t; have := k.2.2 l (fg_tag h.2.1.1 t (by decide)); omega⟩
theorem yK_si {s : sz_T} {g κ : Nat → Nat} {B n : Nat} {σ τ : kx_S} {f a : Nat} {v : Int32} (hf : f ∉ [18, 35, 48, 82, 83, 114, 129, 171, 177, 164, 165, 168, 160, 217]) (h : yK_ s g κ B n σ τ) : yK_ s g κ B n σ (xsi τ f a v) := by
  refine yK_trans h ⟨yI_si hf h.1, fh_si (fun e => hf (by rw [e]; decide)), fun l _ => ?_⟩
  show (xi τ 18 l).toInt ≤ ((if 18 = f then _ else xi τ 18) l).toInt
  rw [if_neg (fun e => hf (by rw [← e]; decide))]
  exact Int.le_refl _
theorem yK_82 {s : sz_T} {g κ : Nat → Nat} {B n : Nat} {σ τ : kx_S} {a : Nat} {v : Int32} (hv : 0 ≤ v.toInt ∧ v.toInt ≤ 33) (h : yK_ s g κ B n σ τ) : yK_ s g κ B n σ (xsi τ 82 a v) := yK_trans h ⟨yI_82 hv h.1, fh_si (by decide), fun _ _ => Int.le_refl _⟩
theorem yK_83 {s : sz_T} {g κ : Nat → Nat} {B n : Nat} {σ τ : kx_S} {a : Nat} {v : Int32} (hv : v = 0 ∨ v = 1) (h : yK_ s g κ B n σ τ) : yK_ s g κ B n σ (xsi τ 83 a v) := yK_trans h ⟨yI_83 hv h.1, fh_si (by decide), fun _ _ => Int.le_refl _⟩
theorem yK_114 {s : sz_T} {g κ : Nat → Nat} {B n : Nat} {σ τ : kx_S} {a : Nat} {v : Int32} (hv : 0 ≤ v.toInt ∧ v.toInt ≤ 500) (h : yK_ s g κ B n σ τ) : yK_ s g κ B n σ (xsi τ 114 a v) := yK_trans h ⟨yI_114 hv h.1, fh_si (by decide), fun _ _ => Int.le_refl _⟩
theorem yK_sl {s : sz_T} {g κ : Nat → Nat} {B n : Nat} {σ τ : kx_S} {f a : Nat} {v : Int64} (h : yK_ s g κ B n σ τ) : yK_ s g κ B n σ (xsl τ f a v) := yK_trans h ⟨yI_sl h.1, fh_sl, fun _ _ => Int.le_refl _⟩
theorem yK_sal {s : sz_T} {g κ : Nat → Nat} {B n : Nat} {σ τ : kx_S} {i a : Nat} {v : Int64} (h : yK_ s g κ B n σ τ) : yK_ s g κ B n σ (xsal τ a i v) := yK_trans h ⟨yI_sal h.1, fh_sal, fun _ _ => Int.le_refl _⟩
theorem yK_sai {s : sz_T} {g κ : Nat → Nat} {B n : Nat} {σ τ : kx_S} {i a : Nat} {v : Int32} (h : yK_ s g κ B n σ τ) : yK_ s g κ B n σ (xsai τ a i v) := yK_trans h ⟨yI_sai h.1, fh_sai, fun _ _ => Int.le_refl _⟩
theorem yK_tag {s : sz_T} {g κ : Nat → Nat} {B n : Nat} {σ τ : kx_S} {a t : Nat} (h : yK_ s g κ B n σ τ) (e : xt σ a = t) (ht : t ≠ 0) : xt τ a = t := fg_tag h.2.1.1 e ht
/-- a step that leaves every list as long as it was -/
def yW_ (s : sz_T) (g κ : Nat → Nat) (B n : Nat) (σ τ : kx_S) : Prop := yJ_ s g κ B n τ ∧ fh_ g κ σ τ ∧ xi τ 18 = xi σ 18
theorem yW_refl {s : sz_T} {g κ : Nat → Nat} {B n : Nat} {σ : kx_S} (J : yJ_ s g κ B n σ) : yW_ s g κ B n σ σ := ⟨J, fh_refl, rfl⟩
theorem yW_trans {s : sz_T} {g κ : Nat → Nat} {B n : Nat} {a b c : kx_S} (h : yW_ s g κ B n a b) (k : yW_ s g κ B n b c) : yW_ s g κ B n a c := ⟨k.1, fh_trans h.2.1 k.2.1, k.2.2.trans h.2.2⟩
theorem yW_si {s : sz_T} {g κ : Nat → Nat} {B n : Nat} {σ τ : kx_S} {f a : Nat} {v : Int32} (hf : f ∉ [18, 35, 48, 82, 83, 114, 129, 171, 177, 164, 165, 168, 160, 217]) (h : yW_ s g κ B n σ τ) : yW_ s g κ B n σ (xsi τ f a v) := by
  refine yW_trans h ⟨yI_si hf h.1, fh_si (fun e => hf (by rw [e]; decide)), ?_⟩
  show (if 18 = f then _ else xi τ 18) = xi τ 18
  rw [if_neg (fun e => hf (by rw [← e]; decide))]
theorem yW_82 {s : sz_T} {g κ : Nat → Nat} {B n : Nat} {σ τ : kx_S} {a : Nat} {v : Int32} (hv : 0 ≤ v.toInt ∧ v.toInt ≤ 33) (h : yW_ s g κ B n σ τ) : yW_ s g κ B n σ (xsi τ 82 a v) := yW_trans h ⟨yI_82 hv h.1, fh_si (by decide), rfl⟩
theorem yW_83 {s : sz_T} {g κ : Nat → Nat} {B n : Nat} {σ τ : kx_S} {a : Nat} {v : Int32} (hv : v = 0 ∨ v = 1) (h : yW_ s g κ B n σ τ) : yW_ s g κ B n σ (xsi τ 83 a v) := yW_trans h ⟨yI_83 hv h.1, fh_si (by decide), rfl⟩
theorem yW_114 {s : sz_T} {g κ : Nat → Nat} {B n : Nat} {σ τ : kx_S} {a : Nat} {v : Int32} (hv : 0 ≤ v.toInt ∧ v.toInt ≤ 500) (h : yW_ s g κ B n σ τ) : yW_ s g κ B n σ (xsi τ 114 a v) := yW_trans h ⟨yI_114 hv h.1, fh_si (by decide), rfl⟩
theorem yW_sl {s : sz_T} {g κ : Nat → Nat} {B n : Nat} {σ τ : kx_S} {f a : Nat} {v : Int64} (h : yW_ s g κ B n σ τ) : yW_ s g κ B n σ (xsl τ f a v) := yW_trans h ⟨yI_sl h.1, fh_sl, rfl⟩
theorem yW_sal {s : sz_T} {g κ : Nat → Nat} {B n : Nat} {σ τ : kx_S} {i a : Nat} {v : Int64} (h : yW_ s g κ B n σ τ) : yW_ s g κ B n σ (xsal τ a i v) := yW_trans h ⟨yI_sal h.1, fh_sal, rfl⟩
theorem yW_sai {s : sz_T} {g κ : Nat → Nat} {B n : Nat} {σ τ : kx_S} {i a : Nat} {v : Int32} (h : yW_ s g κ B n σ τ) : yW_ s g κ B n σ (xsai τ a i v) := yW_trans h ⟨yI_sai h.1, fh_sai, rfl⟩
theorem yW_tag {s : sz_T} {g κ : Nat → Nat} {B n : Nat} {σ τ : kx_S} {a t : Nat} (h : yW_ s g κ B n σ τ) (e : xt σ a = t) (ht : t ≠ 0) : xt τ a = t := fg_tag h.2.1.1 e ht
theorem yK_of {s : sz_T} {g κ : Nat → Nat} {B n : Nat} {σ τ : kx_S} (h : yW_ s g κ B n σ τ) : yK_ s g κ B n σ τ := ⟨h.1, h.2.1, fun l _ => by rw [h.2.2]; exact Int.le_refl _⟩
/-! the judge -/
theorem rx_push {s : sz_T} {g κ : Nat → Nat} {B n : Nat} {σ0 σ : kx_S} {j : Nat} {v : Int32} {Q : kx_S → Prop} (K : yW_ s g κ B n σ0 σ) (hj : xt σ j = 5) (kk : ∀ τ, yW_ s g κ B n σ0 τ → xt τ j = 5 → Q τ) : wX3_push j v σ Q := by
  obtain ⟨⟨h, h1, h2, h3⟩, _⟩ := yp5 K.1 hj
  have hn := (K.1.2.2.2.1 j).2.2.1 hj
  have e33 : (nI (xn σ h)).toInt = 33 := by rw [h3]; decide
  refine ⟨hj, h, h1, h2, fun _ => kk σ K hj, fun c => ⟨h, h1, h2, ?_, fun τ1 e1 τ2 e2 => ?_⟩⟩
  · rw [ki_le, e33] at c
    rw [ki_in, h3]; omega
  · rw [ki_le, e33] at c
    have ii := ki_inc (a := xi σ 82 j) (by omega) (by omega)
    rw [e2, e1]
    exact kk _ (yW_82 (by show 0 ≤ (xi σ 82 j + 1).toInt ∧ (xi σ 82 j + 1).toInt ≤ 33; omega) (yW_sai K)) hj
theorem rx_pop {s : sz_T} {g κ : Nat → Nat} {B n : Nat} {σ0 σ : kx_S} {j : Nat} {Q : Int32 → kx_S → Prop} (K : yW_ s g κ B n σ0 σ) (hj : xt σ j = 5) (kk : ∀ v τ, yW_ s g κ B n σ0 τ → xt τ j = 5 → Q v τ) : wX3_pop j σ Q := by
  obtain ⟨⟨h, h1, h2, h3⟩, _⟩ := yp5 K.1 hj
  have hn := (K.1.2.2.2.1 j).2.2.1 hj
  refine ⟨hj, fun c τ1 e1 => ?_, fun _ => kk 0 σ K hj⟩
  have c' : (xi σ 82 j).toInt ≠ 0 := fun x => c (ki_eq.2 (x.trans ki_z0.symm))
  have dd := ki_dec2 (a := xi σ 82 j) (by omega)
  have K1 : yW_ s g κ B n σ0 τ1 := by rw [e1]; exact yW_82 (by rw [dd]; omega) K
  have t1 : xt τ1 j = 5 := by rw [e1]; exact hj
  refine ⟨h, by rw [e1]; exact h1, by rw [e1]; exact h2, ?_, kk _ τ1 K1 t1⟩
  rw [e1]
  show vp_in (va_up (xi σ 82) j (xi σ 82 j - 1) j) (xn σ h)
  rw [va_up_self, ki_in, h3]; omega
theorem rx_join {c a b : Int32} {σ : kx_S} {Q : Int32 → kx_S → Prop} (kk : ∀ v, Q v σ) : wX3_join c a b σ Q :=
  fun _ _ => ⟨fun _ => ⟨fun _ => kk _, fun _ => ⟨fun _ => kk _, fun _ => kk _⟩⟩, fun _ => ⟨fun _ => kk _, fun _ => ⟨fun _ => kk _, fun _ => kk _⟩⟩, fun _ => ⟨fun _ => kk _, fun _ => kk _⟩, fun _ => ⟨fun _ => kk _, fun _ => kk _⟩, fun _ => ⟨fun h => ⟨h, kk _⟩, fun _ => kk _⟩, fun _ => kk _, fun _ => kk _, fun _ => kk _, fun _ _ _ _ _ _ _ _ => kk _⟩
theorem rx_step {s : sz_T} {g κ : Nat → Nat} {B n : Nat} {σ0 σ : kx_S} {j : Nat} {c : Int32} {Q : kx_S → Prop} (K : yW_ s g κ B n σ0 σ) (hj : xt σ j = 5) (kk : ∀ τ, yW_ s g κ B n σ0 τ → xt τ j = 5 → Q τ) : wX3_step j c σ Q := by
  have hb := ((K.1.2.2.2.1 j).2.2.1 hj).2
  refine ⟨fun c0 => ⟨fun c7 => ⟨fun _ => ⟨fun _ => ⟨fun _ => ?_, fun _ => ?_⟩, fun _ => ?_⟩, fun _ => ?_⟩, fun c7 => ?_⟩, fun _ => ⟨hj, rx_push K hj kk⟩⟩
  · exact ⟨hj, rx_pop K hj (fun b τ1 K1 t1 => ⟨t1, rx_pop K1 t1 (fun a τ2 K2 t2 => rx_join (fun v => ⟨t2, rx_push K2 t2 kk⟩))⟩)⟩
  · refine ⟨hj, rx_pop K hj (fun b τ1 K1 t1 => ⟨t1, fun τ2 e2 => ?_⟩)⟩
    rw [e2]
    exact kk _ (yW_sl K1) t1
  · have F : ∀ (w : Int32) (τ1 : kx_S), (w = 0 ∨ w = 1) → yW_ s g κ B n σ0 τ1 → xt τ1 j = 5 → wX3_step_81 Q w (xi σ 83 j) j τ1 := by
      intro w τ1 hw K1 t1
      have h3 : narrow .boolean (.int (xi σ 83 j ||| w)) = .int (xi σ 83 j ||| w) ∧ fits .boolean (.int (xi σ 83 j ||| w)) = true ∧ (xi σ 83 j ||| w = 0 ∨ xi σ 83 j ||| w = 1) := by
        rcases hb with e | e <;> rcases hw with f | f <;> rw [e, f] <;> decide
      refine ⟨t1, ⟨h3.1, h3.2.1⟩, fun τ2 e2 => ?_⟩
      rw [e2]
      exact kk _ (yW_83 h3.2.2 K1) t1
    exact ⟨hj, rx_pop K hj (fun v τ1 K1 t1 => ⟨fun _ => F 0 τ1 (.inl rfl) K1 t1, fun _ => F 1 τ1 (.inr rfl) K1 t1⟩)⟩
  · exact ⟨hj, rx_pop K hj (fun v τ1 K1 t1 => ⟨fun _ => ⟨t1, rx_push K1 t1 kk⟩, fun _ => ⟨t1, rx_push K1 t1 kk⟩⟩)⟩
  · obtain ⟨_, h, h1, h2, h3⟩ := yp5 K.1 hj
    rw [ki_lt, ki_z0] at c0
    have z7 : (-7 : Int32).toInt = -7 := by decide
    rw [ki_lt, z7] at c7
    have d := ki_sub (a := -1) (b := c) (by rw [ki_zm]; omega) (by rw [ki_zm]; omega)
    rw [ki_zm] at d
    exact ⟨hj, h, h1, h2, by rw [ki_in, h3]; omega, rx_push K hj kk⟩
theorem rx_name {s : sz_T} {g κ : Nat → Nat} {B n : Nat} {σ0 σ : kx_S} {j : Nat} {c v : Int32} {Q : kx_S → Prop} (K : yW_ s g κ B n σ0 σ) (hj : xt σ j = 5) (hc : 0 ≤ (-1 - c).toInt ∧ (-1 - c).toInt < 7) (kk : ∀ τ, yW_ s g κ B n σ0 τ → yW_ s g κ B n σ τ → Q τ) : wX3_name j c v σ Q := by
  obtain ⟨_, h, h1, h2, h3⟩ := yp5 K.1 hj
  refine ⟨hj, h, h1, h2, by rw [h3, ki_in]; exact hc, fun τ e => ?_⟩
  rw [e]
  exact kk _ (yW_sai K) (yW_sai (yW_refl K.1))
theorem rx_weigh {s : sz_T} {g κ : Nat → Nat} {B n : Nat} {σ0 σ : kx_S} {j y : Nat} {q : Option Nat} {r t : Int32} {Q : kx_S → Prop} (K : yW_ s g κ B n σ0 σ) (hj : xt σ j = 5) (hy : xt σ y = 8) (hq : ∀ a, q = some a → xt σ a = 6) (kk : ∀ τ, yW_ s g κ B n σ0 τ → yW_ s g κ B n σ τ → Q τ) : wX3_weigh j q y r t σ Q := by
  refine ⟨hj, fun τ1 e1 τ2 e2 τ3 e3 => ?_⟩
  have K3 : yW_ s g κ B n σ τ3 := by rw [e3, e2, e1]; exact yW_82 (by decide) (yW_sl (yW_83 (.inl rfl) (yW_refl K.1)))
  clear e1 e2 e3
  refine ⟨fun a ea => ?_, fun _ => kk τ3 (yW_trans K K3) K3⟩
  have ha := hq a ea
  have T : ∀ τ, yW_ s g κ B n σ τ → xt τ y = 8 ∧ xt τ j = 5 := fun τ k => ⟨yW_tag k hy (by decide), yW_tag k hj (by decide)⟩
  refine ⟨(T _ K3).1, rx_name K3 (T _ K3).2 (by decide) (fun τ4 K4 _ => ⟨(T _ K4).1, (T _ K4).2, rx_name K4 (T _ K4).2 (by decide) (fun τ5 K5 _ => ⟨(T _ K5).1, (T _ K5).2, rx_name K5 (T _ K5).2 (by decide) (fun τ6 K6 _ => ⟨(T _ K6).2, rx_name K6 (T _ K6).2 (by decide) (fun τ7 K7 _ => ⟨(T _ K7).2, rx_name K7 (T _ K7).2 (by decide) (fun τ8 K8 _ => ⟨(T _ K8).2, rx_name K8 (T _ K8).2 (by decide) (fun τ9 K9 _ => ⟨(T _ K9).1, (T _ K9).2, rx_name K9 (T _ K9).2 (by decide) (fun τ10 K10 _ => ⟨501, ?_⟩)⟩)⟩)⟩)⟩)⟩)⟩)⟩
  have L : ∀ (m : Nat) (i : Int32) (τ : kx_S), 0 ≤ i.toInt → i.toInt ≤ 500 → 500 - i.toInt < (m : Int) → yW_ s g κ B n σ τ → wX3_weigh_91 Q m j (some a) i τ := by
    intro m
    induction m with
    | zero => intro i τ h1 h2 h3; omega
    | succ m ih =>
      intro i τ h1 h2 h3 k
      have ta := yW_tag k ha (by decide)
      obtain ⟨h, e1, e2, e3⟩ := yp6 k.1 ta
      refine ⟨a, rfl, ta, h, e1, e2, fun _ => kk τ (yW_trans K k) k, fun c => ⟨a, rfl, ta, h, e1, e2, ?_, (T _ k).2, ?_⟩⟩
      · rw [ki_le, nI_toInt (by omega)] at c
        rw [ki_in]; omega
      · rw [ki_le, nI_toInt (by omega)] at c
        have ii := ki_inc (a := i) (by omega) (by omega)
        refine rx_step k (T _ k).2 (fun τ2 k2 _ w ew => ?_)
        rw [ew]
        exact ih (i + 1) τ2 (by omega) (by omega) (by omega) k2
  exact L 501 0 τ10 (by decide) (by decide) (by decide) K10
theorem rx_lawInForce {s : sz_T} {g κ : Nat → Nat} {B n : Nat} {σ : kx_S} {Q : Option Nat → kx_S → Prop} (J : yJ_ s g κ B n σ) (kk : ∀ q, (∀ a, q = some a → xt σ a = 6) → Q q σ) : wX11_lawInForce (g 0) σ Q := by
  have G3 := yg3 J
  have sz := ry_size J.1 G3.2.1
  have L : ∀ (m : Nat) (q : Option Nat) (i : Int32), (∀ a, q = some a → xt σ a = 6) → 0 ≤ i.toInt → i.toInt ≤ 400 → 400 - i.toInt < (m : Int) → wX11_lawInForce_4 Q m (g 0) q i σ := by
    intro m
    induction m with
    | zero => intro q i hq h1 h2 h3; omega
    | succ m ih =>
      intro q i hq h1 h2 h3
      refine ⟨yg0 J, g 3, G3.1, G3.2.1, G3.2.1, fun _ => kk q hq, fun c => ⟨yg0 J, g 3, G3.1, G3.2.1, ?_⟩⟩
      rw [ki_le] at c
      have ii := ki_inc (a := i) (by omega) (by omega)
      refine ry_get J.1 G3.2.1 h1 (by omega) (fun y _ ty => ?_)
      rw [G3.2.2] at ty
      have N : ∀ q', (∀ a, q' = some a → xt σ a = 6) → wX11_lawInForce_74 (wX11_lawInForce_4 Q m) Q (g 0) q' i σ := fun q' hq' w ew => by
        rw [ew]
        exact ih q' (i + 1) hq' (by omega) (by omega) (by omega)
      have Y : ∀ a, some y = some a → xt σ a = 6 := fun a e => by rw [← Option.some.inj e]; exact ty
      have F : ∀ s0 : Int32, wX11_lawInForce_50 (wX11_lawInForce_4 Q m) Q (g 0) q i y s0 σ := fun s0 => ⟨fun _ => N q hq, fun _ => ⟨fun _ => N (some y) Y, fun a ea => ⟨ty, hq a ea, fun _ => N (some a) (fun b e => by rw [← Option.some.inj e]; exact hq a ea), fun _ => N (some y) Y⟩⟩⟩
      exact ⟨y, rfl, ty, yg0 J, fun _ => F 0, fun _ => F 1⟩
  exact ⟨401, L 401 none 0 (fun a e => by cases e) (by decide) (by decide) (by decide)⟩
