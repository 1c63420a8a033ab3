/-! a fresh LogRiver -/
def yo0 (A : List (Nat × Nat)) (σ : kx_S) : Prop := (∀ a, xt σ a ≠ 0 → (a, xt σ a) ∈ A) ∧ (∀ a, xt σ a ≠ 0 → xt σ a ≠ 20 → xt σ a ≠ 21 → ∀ f, f ≠ 219 → xi σ f a = 0)
theorem yo0_new {A : List (Nat × Nat)} {σ : kx_S} {p t : Nat} (C : yo0 A σ) : yo0 ((p, t) :: A) (xnew σ p t) := by
  have tg : ∀ a, xt (xnew σ p t) a = if a = p then t else xt σ a := fun a => rfl
  have ig : ∀ f a, xi (xnew σ p t) f a = if a = p then 0 else xi σ f a := fun f a => rfl
  refine ⟨fun a h => ?_, fun a h h1 h2 f hf => ?_⟩
  · rw [tg] at h ⊢
    by_cases e : a = p
    · rw [if_pos e, e]; exact List.mem_cons_self
    · rw [if_neg e] at h ⊢; exact List.mem_cons_of_mem _ (C.1 a h)
  · rw [tg] at h h1 h2
    rw [ig]
    by_cases e : a = p
    · rw [if_pos e]
    · rw [if_neg e] at h h1 h2 ⊢; exact C.2 a h h1 h2 f hf
theorem yo0_newA {A : List (Nat × Nat)} {σ : kx_S} {p t m : Nat} (C : yo0 A σ) (ht : t = 20 ∨ t = 21) : yo0 ((p, t) :: A) (xnewA σ p t m) := by
  have tg : ∀ a, xt (xnewA σ p t m) a = if a = p then t else xt σ a := fun a => rfl
  refine ⟨fun a h => ?_, fun a h h1 h2 f hf => ?_⟩
  · rw [tg] at h ⊢
    by_cases e : a = p
    · rw [if_pos e, e]; exact List.mem_cons_self
    · rw [if_neg e] at h ⊢; exact List.mem_cons_of_mem _ (C.1 a h)
  · rw [tg] at h h1 h2
    by_cases e : a = p
    · rw [if_pos e] at h1 h2; omega
    · rw [if_neg e] at h h1 h2; exact C.2 a h h1 h2 f hf
theorem yo0_16 {A : List (Nat × Nat)} {σ : kx_S} {p : Nat} (C : yo0 A σ) : yo0 A (xsi σ 16 p 0) := by
  refine ⟨C.1, fun a h h1 h2 f hf => ?_⟩
  show (if f = 16 then va_up (xi σ 16) p 0 else xi σ f) a = 0
  by_cases e : f = 16
  · rw [if_pos e]
    by_cases q : a = p
    · rw [q, va_up_self]
    · rw [va_up_ne _ _ q]; exact C.2 a h h1 h2 16 (by decide)
  · rw [if_neg e]; exact C.2 a h h1 h2 f hf
theorem yo0_219 {A : List (Nat × Nat)} {σ : kx_S} {p : Nat} {v : Int32} (C : yo0 A σ) : yo0 A (xsi σ 219 p v) := by
  refine ⟨C.1, fun a h h1 h2 f hf => ?_⟩
  show (if f = 219 then va_up (xi σ 219) p v else xi σ f) a = 0
  rw [if_neg hf]; exact C.2 a h h1 h2 f hf
/-- a list as it is made, before anything else is there -/
theorem rx_list0 {A : List (Nat × Nat)} {κ : Nat → Nat} {B n : Nat} {σ : kx_S} {p t : Nat} {Q : kx_S → Prop} (hp : xt σ p = 0) (ht : kx_el t) (C : yo0 A σ) (LL : ∀ g, yL_ g κ B n σ) (kk : ∀ τ, fg_ σ τ → xt τ p = 1 → yo0 ((p, 1) :: A) τ → (∀ g, yL_ g (va_up κ p t) (B + 1) (n + 1) τ) → Q τ) : ∀ σ5, σ5 = xnew σ p 1 → wJx4a65c_init_da8c8 p σ5 Q := by
  intro σ5 e5
  subst e5
  refine ⟨va_up_self _ _ _, fun τ3 e3 => ⟨by rw [e3]; exact va_up_self _ _ _, fun τ e => ?_⟩⟩
  rw [e3] at e
  have ne : ∀ a, xt σ a ≠ 0 → a ≠ p := fun a h e => h (by rw [e]; exact hp)
  have i18 : xi τ 18 = va_up (xi σ 18) p 0 := by rw [e]; rfl
  have r17 : xr τ 17 = va_up (xr σ 17) p (some (xz σ)) := by
    rw [e]
    funext a
    show va_up (va_up (xr σ 17) p none) p (some (xz σ)) a = _
    by_cases q : a = p
    · rw [q, va_up_self, va_up_self]
    · rw [va_up_ne _ _ q, va_up_ne _ _ q, va_up_ne _ _ q]
  refine kk τ ⟨fun a h => ?_, fun f a hf h => ?_, fun a _ => by rw [e]; rfl, by rw [e]; rfl⟩ (by rw [e]; exact va_up_self _ _ _) (by rw [e]; exact yo0_16 (yo0_new C)) (fun g => yL_new (LL g) hp ht (by rw [e]; rfl) i18 r17 (by rw [e]; rfl) (by rw [e]; rfl) (by rw [e]; rfl) (by rw [e]; rfl))
  · rw [e]; exact va_up_ne _ _ (ne a h)
  · rw [e]
    show (if f = 17 then _ else va_up (xr σ f) p none) a = _
    rw [if_neg hf, va_up_ne _ _ (ne a h)]
theorem fg_srX {σ : kx_S} {f a b k : Nat} {v w : Option Nat} (h : xr σ k b = w) (ne : ¬ (k = f ∧ b = a)) : xr (xsr σ f a v) k b = w := by
  show (if k = f then va_up (xr σ f) a v else xr σ k) b = w
  by_cases e : k = f
  · rw [if_pos e]
    by_cases q : b = a
    · exact absurd ⟨e, q⟩ ne
    · rw [va_up_ne _ _ q, ← e]; exact h
  · rw [if_neg e]; exact h
def s0_ : sz_T := ((0, 0, 0, 0, 0, 0), fun _ => 0, fun _ => 0, fun _ => 0, fun _ => 0, fun _ => 0)
theorem rx_init {σ : kx_S} {L : Nat} (hL : xt σ L = 13) (C : yo0 [(L, 13)] σ) (LL : ∀ g, yL_ g (fun _ => 8) 1 0 σ) : wX11_init L σ (fun τ => ∃ O, yZ_ 0 s0_ L O τ) := by
  have t_L_σ := hL
  have C_σ := C
  have LL_σ := LL
  refine ⟨ry_room (LL_σ (fun _ => 0)) (by decide) (by decide), fun p1 h_p1 z_p1 => ?_⟩
  have ne_L_p1 : L ≠ p1 := fun e => by have h := t_L_σ; rw [e, h_p1] at h; omega
  refine rx_list0 (t := 10) h_p1 (by unfold kx_el; decide) C_σ LL_σ (fun τ1 F_τ1 t_p1_τ1 C_τ1 LL_τ1 => ?_)
  have t_L_τ1 : xt τ1 L = 13 := fg_tag F_τ1 t_L_σ (by decide)
  refine ⟨t_L_τ1, fun τ2 e_τ2 => ?_⟩
  have t_L_τ2 : xt τ2 L = 13 := by rw [e_τ2]; exact t_L_τ1
  have t_p1_τ2 : xt τ2 p1 = 1 := by rw [e_τ2]; exact t_p1_τ1
  have r208_L_τ2 : xr τ2 208 L = some p1 := by rw [e_τ2]; exact va_up_self _ _ _
  have C_τ2 : yo0 [(p1, 1), (L, 13)] τ2 := by rw [e_τ2]; exact C_τ1
  have LL_τ2 : ∀ g, yL_ g (va_up (fun _ => 8) p1 10) 2 1 τ2 := by rw [e_τ2]; exact LL_τ1
  clear e_τ2
  refine ⟨ry_room (LL_τ2 (fun _ => 0)) (by decide) (by decide), fun p2 h_p2 z_p2 => ?_⟩
  have ne_L_p2 : L ≠ p2 := fun e => by have h := t_L_τ2; rw [e, h_p2] at h; omega
  have ne_p1_p2 : p1 ≠ p2 := fun e => by have h := t_p1_τ2; rw [e, h_p2] at h; omega
  refine rx_list0 (t := 8) h_p2 (by unfold kx_el; decide) C_τ2 LL_τ2 (fun τ3 F_τ3 t_p2_τ3 C_τ3 LL_τ3 => ?_)
  have t_L_τ3 : xt τ3 L = 13 := fg_tag F_τ3 t_L_τ2 (by decide)
  have t_p1_τ3 : xt τ3 p1 = 1 := fg_tag F_τ3 t_p1_τ2 (by decide)
  have r208_L_τ3 : xr τ3 208 L = some p1 := fg_ref F_τ3 t_L_τ2 (by decide) (by decide) r208_L_τ2
  refine ⟨t_L_τ3, fun τ4 e_τ4 => ?_⟩
  have t_L_τ4 : xt τ4 L = 13 := by rw [e_τ4]; exact t_L_τ3
  have t_p1_τ4 : xt τ4 p1 = 1 := by rw [e_τ4]; exact t_p1_τ3
  have t_p2_τ4 : xt τ4 p2 = 1 := by rw [e_τ4]; exact t_p2_τ3
  have r208_L_τ4 : xr τ4 208 L = some p1 := by rw [e_τ4]; exact fg_srX r208_L_τ3 (fun h => absurd h.1 (by decide))
  have r209_L_τ4 : xr τ4 209 L = some p2 := by rw [e_τ4]; exact va_up_self _ _ _
  have C_τ4 : yo0 [(p2, 1), (p1, 1), (L, 13)] τ4 := by rw [e_τ4]; exact C_τ3
  have LL_τ4 : ∀ g, yL_ g (va_up (va_up (fun _ => 8) p1 10) p2 8) 3 2 τ4 := by rw [e_τ4]; exact LL_τ3
  clear e_τ4
  refine ⟨ry_room (LL_τ4 (fun _ => 0)) (by decide) (by decide), fun p3 h_p3 z_p3 => ?_⟩
  have ne_L_p3 : L ≠ p3 := fun e => by have h := t_L_τ4; rw [e, h_p3] at h; omega
  have ne_p1_p3 : p1 ≠ p3 := fun e => by have h := t_p1_τ4; rw [e, h_p3] at h; omega
  have ne_p2_p3 : p2 ≠ p3 := fun e => by have h := t_p2_τ4; rw [e, h_p3] at h; omega
  refine rx_list0 (t := 6) h_p3 (by unfold kx_el; decide) C_τ4 LL_τ4 (fun τ5 F_τ5 t_p3_τ5 C_τ5 LL_τ5 => ?_)
  have t_L_τ5 : xt τ5 L = 13 := fg_tag F_τ5 t_L_τ4 (by decide)
  have t_p1_τ5 : xt τ5 p1 = 1 := fg_tag F_τ5 t_p1_τ4 (by decide)
  have t_p2_τ5 : xt τ5 p2 = 1 := fg_tag F_τ5 t_p2_τ4 (by decide)
  have r208_L_τ5 : xr τ5 208 L = some p1 := fg_ref F_τ5 t_L_τ4 (by decide) (by decide) r208_L_τ4
  have r209_L_τ5 : xr τ5 209 L = some p2 := fg_ref F_τ5 t_L_τ4 (by decide) (by decide) r209_L_τ4
  refine ⟨t_L_τ5, fun τ6 e_τ6 => ?_⟩
  have t_L_τ6 : xt τ6 L = 13 := by rw [e_τ6]; exact t_L_τ5
  have t_p1_τ6 : xt τ6 p1 = 1 := by rw [e_τ6]; exact t_p1_τ5
  have t_p2_τ6 : xt τ6 p2 = 1 := by rw [e_τ6]; exact t_p2_τ5
  have t_p3_τ6 : xt τ6 p3 = 1 := by rw [e_τ6]; exact t_p3_τ5
  have r208_L_τ6 : xr τ6 208 L = some p1 := by rw [e_τ6]; exact fg_srX r208_L_τ5 (fun h => absurd h.1 (by decide))
  have r209_L_τ6 : xr τ6 209 L = some p2 := by rw [e_τ6]; exact fg_srX r209_L_τ5 (fun h => absurd h.1 (by decide))
  have r210_L_τ6 : xr τ6 210 L = some p3 := by rw [e_τ6]; exact va_up_self _ _ _
  have C_τ6 : yo0 [(p3, 1), (p2, 1), (p1, 1), (L, 13)] τ6 := by rw [e_τ6]; exact C_τ5
  have LL_τ6 : ∀ g, yL_ g (va_up (va_up (va_up (fun _ => 8) p1 10) p2 8) p3 6) 4 3 τ6 := by rw [e_τ6]; exact LL_τ5
  clear e_τ6
  refine ⟨ry_room (LL_τ6 (fun _ => 0)) (by decide) (by decide), fun p4 h_p4 z_p4 => ?_⟩
  have ne_L_p4 : L ≠ p4 := fun e => by have h := t_L_τ6; rw [e, h_p4] at h; omega
  have ne_p1_p4 : p1 ≠ p4 := fun e => by have h := t_p1_τ6; rw [e, h_p4] at h; omega
  have ne_p2_p4 : p2 ≠ p4 := fun e => by have h := t_p2_τ6; rw [e, h_p4] at h; omega
  have ne_p3_p4 : p3 ≠ p4 := fun e => by have h := t_p3_τ6; rw [e, h_p4] at h; omega
  refine rx_list0 (t := 4) h_p4 (by unfold kx_el; decide) C_τ6 LL_τ6 (fun τ7 F_τ7 t_p4_τ7 C_τ7 LL_τ7 => ?_)
  have t_L_τ7 : xt τ7 L = 13 := fg_tag F_τ7 t_L_τ6 (by decide)
  have t_p1_τ7 : xt τ7 p1 = 1 := fg_tag F_τ7 t_p1_τ6 (by decide)
  have t_p2_τ7 : xt τ7 p2 = 1 := fg_tag F_τ7 t_p2_τ6 (by decide)
  have t_p3_τ7 : xt τ7 p3 = 1 := fg_tag F_τ7 t_p3_τ6 (by decide)
  have r208_L_τ7 : xr τ7 208 L = some p1 := fg_ref F_τ7 t_L_τ6 (by decide) (by decide) r208_L_τ6
  have r209_L_τ7 : xr τ7 209 L = some p2 := fg_ref F_τ7 t_L_τ6 (by decide) (by decide) r209_L_τ6
  have r210_L_τ7 : xr τ7 210 L = some p3 := fg_ref F_τ7 t_L_τ6 (by decide) (by decide) r210_L_τ6
  refine ⟨t_L_τ7, fun τ8 e_τ8 => ?_⟩
  have t_L_τ8 : xt τ8 L = 13 := by rw [e_τ8]; exact t_L_τ7
  have t_p1_τ8 : xt τ8 p1 = 1 := by rw [e_τ8]; exact t_p1_τ7
  have t_p2_τ8 : xt τ8 p2 = 1 := by rw [e_τ8]; exact t_p2_τ7
  have t_p3_τ8 : xt τ8 p3 = 1 := by rw [e_τ8]; exact t_p3_τ7
  have t_p4_τ8 : xt τ8 p4 = 1 := by rw [e_τ8]; exact t_p4_τ7
  have r208_L_τ8 : xr τ8 208 L = some p1 := by rw [e_τ8]; exact fg_srX r208_L_τ7 (fun h => absurd h.1 (by decide))
  have r209_L_τ8 : xr τ8 209 L = some p2 := by rw [e_τ8]; exact fg_srX r209_L_τ7 (fun h => absurd h.1 (by decide))
  have r210_L_τ8 : xr τ8 210 L = some p3 := by rw [e_τ8]; exact fg_srX r210_L_τ7 (fun h => absurd h.1 (by decide))
  have r211_L_τ8 : xr τ8 211 L = some p4 := by rw [e_τ8]; exact va_up_self _ _ _
  have C_τ8 : yo0 [(p4, 1), (p3, 1), (p2, 1), (p1, 1), (L, 13)] τ8 := by rw [e_τ8]; exact C_τ7
  have LL_τ8 : ∀ g, yL_ g (va_up (va_up (va_up (va_up (fun _ => 8) p1 10) p2 8) p3 6) p4 4) 5 4 τ8 := by rw [e_τ8]; exact LL_τ7
  clear e_τ8
  refine ⟨ry_room (LL_τ8 (fun _ => 0)) (by decide) (by decide), fun p5 h_p5 z_p5 => ?_⟩
  have ne_L_p5 : L ≠ p5 := fun e => by have h := t_L_τ8; rw [e, h_p5] at h; omega
  have ne_p1_p5 : p1 ≠ p5 := fun e => by have h := t_p1_τ8; rw [e, h_p5] at h; omega
  have ne_p2_p5 : p2 ≠ p5 := fun e => by have h := t_p2_τ8; rw [e, h_p5] at h; omega
  have ne_p3_p5 : p3 ≠ p5 := fun e => by have h := t_p3_τ8; rw [e, h_p5] at h; omega
  have ne_p4_p5 : p4 ≠ p5 := fun e => by have h := t_p4_τ8; rw [e, h_p5] at h; omega
  refine rx_list0 (t := 9) h_p5 (by unfold kx_el; decide) C_τ8 LL_τ8 (fun τ9 F_τ9 t_p5_τ9 C_τ9 LL_τ9 => ?_)
  have t_L_τ9 : xt τ9 L = 13 := fg_tag F_τ9 t_L_τ8 (by decide)
  have t_p1_τ9 : xt τ9 p1 = 1 := fg_tag F_τ9 t_p1_τ8 (by decide)
  have t_p2_τ9 : xt τ9 p2 = 1 := fg_tag F_τ9 t_p2_τ8 (by decide)
  have t_p3_τ9 : xt τ9 p3 = 1 := fg_tag F_τ9 t_p3_τ8 (by decide)
  have t_p4_τ9 : xt τ9 p4 = 1 := fg_tag F_τ9 t_p4_τ8 (by decide)
  have r208_L_τ9 : xr τ9 208 L = some p1 := fg_ref F_τ9 t_L_τ8 (by decide) (by decide) r208_L_τ8
  have r209_L_τ9 : xr τ9 209 L = some p2 := fg_ref F_τ9 t_L_τ8 (by decide) (by decide) r209_L_τ8
  have r210_L_τ9 : xr τ9 210 L = some p3 := fg_ref F_τ9 t_L_τ8 (by decide) (by decide) r210_L_τ8
  have r211_L_τ9 : xr τ9 211 L = some p4 := fg_ref F_τ9 t_L_τ8 (by decide) (by decide) r211_L_τ8
  refine ⟨t_L_τ9, fun τ10 e_τ10 => ?_⟩
  have t_L_τ10 : xt τ10 L = 13 := by rw [e_τ10]; exact t_L_τ9
  have t_p1_τ10 : xt τ10 p1 = 1 := by rw [e_τ10]; exact t_p1_τ9
  have t_p2_τ10 : xt τ10 p2 = 1 := by rw [e_τ10]; exact t_p2_τ9
  have t_p3_τ10 : xt τ10 p3 = 1 := by rw [e_τ10]; exact t_p3_τ9
  have t_p4_τ10 : xt τ10 p4 = 1 := by rw [e_τ10]; exact t_p4_τ9
  have t_p5_τ10 : xt τ10 p5 = 1 := by rw [e_τ10]; exact t_p5_τ9
  have r208_L_τ10 : xr τ10 208 L = some p1 := by rw [e_τ10]; exact fg_srX r208_L_τ9 (fun h => absurd h.1 (by decide))
  have r209_L_τ10 : xr τ10 209 L = some p2 := by rw [e_τ10]; exact fg_srX r209_L_τ9 (fun h => absurd h.1 (by decide))
  have r210_L_τ10 : xr τ10 210 L = some p3 := by rw [e_τ10]; exact fg_srX r210_L_τ9 (fun h => absurd h.1 (by decide))
  have r211_L_τ10 : xr τ10 211 L = some p4 := by rw [e_τ10]; exact fg_srX r211_L_τ9 (fun h => absurd h.1 (by decide))
  have r212_L_τ10 : xr τ10 212 L = some p5 := by rw [e_τ10]; exact va_up_self _ _ _
  have C_τ10 : yo0 [(p5, 1), (p4, 1), (p3, 1), (p2, 1), (p1, 1), (L, 13)] τ10 := by rw [e_τ10]; exact C_τ9
  have LL_τ10 : ∀ g, yL_ g (va_up (va_up (va_up (va_up (va_up (fun _ => 8) p1 10) p2 8) p3 6) p4 4) p5 9) 6 5 τ10 := by rw [e_τ10]; exact LL_τ9
  clear e_τ10
  refine ⟨ry_room (LL_τ10 (fun _ => 0)) (by decide) (by decide), fun p6 h_p6 z_p6 τ11 e_τ11 => ?_⟩
  have ne_L_p6 : L ≠ p6 := fun e => by have h := t_L_τ10; rw [e, h_p6] at h; omega
  have ne_p1_p6 : p1 ≠ p6 := fun e => by have h := t_p1_τ10; rw [e, h_p6] at h; omega
  have ne_p2_p6 : p2 ≠ p6 := fun e => by have h := t_p2_τ10; rw [e, h_p6] at h; omega
  have ne_p3_p6 : p3 ≠ p6 := fun e => by have h := t_p3_τ10; rw [e, h_p6] at h; omega
  have ne_p4_p6 : p4 ≠ p6 := fun e => by have h := t_p4_τ10; rw [e, h_p6] at h; omega
  have ne_p5_p6 : p5 ≠ p6 := fun e => by have h := t_p5_τ10; rw [e, h_p6] at h; omega
  have F_τ11 : fg_ τ10 τ11 := by rw [e_τ11]; exact fg_new h_p6
  have t_L_τ11 : xt τ11 L = 13 := fg_tag F_τ11 t_L_τ10 (by decide)
  have t_p1_τ11 : xt τ11 p1 = 1 := fg_tag F_τ11 t_p1_τ10 (by decide)
  have t_p2_τ11 : xt τ11 p2 = 1 := fg_tag F_τ11 t_p2_τ10 (by decide)
  have t_p3_τ11 : xt τ11 p3 = 1 := fg_tag F_τ11 t_p3_τ10 (by decide)
  have t_p4_τ11 : xt τ11 p4 = 1 := fg_tag F_τ11 t_p4_τ10 (by decide)
  have t_p5_τ11 : xt τ11 p5 = 1 := fg_tag F_τ11 t_p5_τ10 (by decide)
  have r208_L_τ11 : xr τ11 208 L = some p1 := fg_ref F_τ11 t_L_τ10 (by decide) (by decide) r208_L_τ10
  have r209_L_τ11 : xr τ11 209 L = some p2 := fg_ref F_τ11 t_L_τ10 (by decide) (by decide) r209_L_τ10
  have r210_L_τ11 : xr τ11 210 L = some p3 := fg_ref F_τ11 t_L_τ10 (by decide) (by decide) r210_L_τ10
  have r211_L_τ11 : xr τ11 211 L = some p4 := fg_ref F_τ11 t_L_τ10 (by decide) (by decide) r211_L_τ10
  have r212_L_τ11 : xr τ11 212 L = some p5 := fg_ref F_τ11 t_L_τ10 (by decide) (by decide) r212_L_τ10
  have t_p6_τ11 : xt τ11 p6 = 11 := by rw [e_τ11]; exact va_up_self _ _ _
  have C_τ11 : yo0 [(p6, 11), (p5, 1), (p4, 1), (p3, 1), (p2, 1), (p1, 1), (L, 13)] τ11 := by rw [e_τ11]; exact yo0_new C_τ10
  have LL_τ11 : ∀ g, yL_ g (va_up (va_up (va_up (va_up (va_up (fun _ => 8) p1 10) p2 8) p3 6) p4 4) p5 9) 7 5 τ11 := fun g => by rw [e_τ11]; exact yL_other (LL_τ10 g) h_p6 z_p6 (by decide) rfl (fun a q => va_up_ne _ _ q) (fun a q => va_up_ne _ _ q) (fun a _ => rfl) (fun a _ => rfl) rfl rfl
  clear e_τ11
  refine ⟨ry_room (LL_τ11 (fun _ => 0)) (by decide) (by decide), by decide, by decide, fun q6 h_q6 z_q6 τ12 e_τ12 => ?_⟩
  have ne_L_q6 : L ≠ q6 := fun e => by have h := t_L_τ11; rw [e, h_q6] at h; omega
  have ne_p1_q6 : p1 ≠ q6 := fun e => by have h := t_p1_τ11; rw [e, h_q6] at h; omega
  have ne_p2_q6 : p2 ≠ q6 := fun e => by have h := t_p2_τ11; rw [e, h_q6] at h; omega
  have ne_p3_q6 : p3 ≠ q6 := fun e => by have h := t_p3_τ11; rw [e, h_q6] at h; omega
  have ne_p4_q6 : p4 ≠ q6 := fun e => by have h := t_p4_τ11; rw [e, h_q6] at h; omega
  have ne_p5_q6 : p5 ≠ q6 := fun e => by have h := t_p5_τ11; rw [e, h_q6] at h; omega
  have ne_p6_q6 : p6 ≠ q6 := fun e => by have h := t_p6_τ11; rw [e, h_q6] at h; omega
  have F_τ12 : fg_ τ11 τ12 := by rw [e_τ12]; exact fg_newA h_q6
  have t_L_τ12 : xt τ12 L = 13 := fg_tag F_τ12 t_L_τ11 (by decide)
  have t_p1_τ12 : xt τ12 p1 = 1 := fg_tag F_τ12 t_p1_τ11 (by decide)
  have t_p2_τ12 : xt τ12 p2 = 1 := fg_tag F_τ12 t_p2_τ11 (by decide)
  have t_p3_τ12 : xt τ12 p3 = 1 := fg_tag F_τ12 t_p3_τ11 (by decide)
  have t_p4_τ12 : xt τ12 p4 = 1 := fg_tag F_τ12 t_p4_τ11 (by decide)
  have t_p5_τ12 : xt τ12 p5 = 1 := fg_tag F_τ12 t_p5_τ11 (by decide)
  have t_p6_τ12 : xt τ12 p6 = 11 := fg_tag F_τ12 t_p6_τ11 (by decide)
  have r208_L_τ12 : xr τ12 208 L = some p1 := fg_ref F_τ12 t_L_τ11 (by decide) (by decide) r208_L_τ11
  have r209_L_τ12 : xr τ12 209 L = some p2 := fg_ref F_τ12 t_L_τ11 (by decide) (by decide) r209_L_τ11
  have r210_L_τ12 : xr τ12 210 L = some p3 := fg_ref F_τ12 t_L_τ11 (by decide) (by decide) r210_L_τ11
  have r211_L_τ12 : xr τ12 211 L = some p4 := fg_ref F_τ12 t_L_τ11 (by decide) (by decide) r211_L_τ11
  have r212_L_τ12 : xr τ12 212 L = some p5 := fg_ref F_τ12 t_L_τ11 (by decide) (by decide) r212_L_τ11
  have t_q6_τ12 : xt τ12 q6 = 20 := by rw [e_τ12]; exact va_up_self _ _ _
  have n_q6_τ12 : xn τ12 q6 = 500 := by rw [e_τ12]; exact va_up_self _ _ _
  have C_τ12 : yo0 [(q6, 20), (p6, 11), (p5, 1), (p4, 1), (p3, 1), (p2, 1), (p1, 1), (L, 13)] τ12 := by rw [e_τ12]; exact yo0_newA C_τ11 (by decide)
  have LL_τ12 : ∀ g, yL_ g (va_up (va_up (va_up (va_up (va_up (fun _ => 8) p1 10) p2 8) p3 6) p4 4) p5 9) 8 5 τ12 := fun g => by rw [e_τ12]; exact yL_other (LL_τ11 g) h_q6 z_q6 (by decide) rfl (fun a _ => rfl) (fun a _ => rfl) (fun a q => va_up_ne _ _ q) (fun a q => va_up_ne _ _ q) rfl rfl
  clear e_τ12
  refine ⟨t_p6_τ12, fun τ13 e_τ13 => ?_⟩
  have t_L_τ13 : xt τ13 L = 13 := by rw [e_τ13]; exact t_L_τ12
  have t_p1_τ13 : xt τ13 p1 = 1 := by rw [e_τ13]; exact t_p1_τ12
  have t_p2_τ13 : xt τ13 p2 = 1 := by rw [e_τ13]; exact t_p2_τ12
  have t_p3_τ13 : xt τ13 p3 = 1 := by rw [e_τ13]; exact t_p3_τ12
  have t_p4_τ13 : xt τ13 p4 = 1 := by rw [e_τ13]; exact t_p4_τ12
  have t_p5_τ13 : xt τ13 p5 = 1 := by rw [e_τ13]; exact t_p5_τ12
  have t_p6_τ13 : xt τ13 p6 = 11 := by rw [e_τ13]; exact t_p6_τ12
  have t_q6_τ13 : xt τ13 q6 = 20 := by rw [e_τ13]; exact t_q6_τ12
  have r208_L_τ13 : xr τ13 208 L = some p1 := by rw [e_τ13]; exact fg_srX r208_L_τ12 (fun h => absurd h.1 (by decide))
  have r209_L_τ13 : xr τ13 209 L = some p2 := by rw [e_τ13]; exact fg_srX r209_L_τ12 (fun h => absurd h.1 (by decide))
  have r210_L_τ13 : xr τ13 210 L = some p3 := by rw [e_τ13]; exact fg_srX r210_L_τ12 (fun h => absurd h.1 (by decide))
  have r211_L_τ13 : xr τ13 211 L = some p4 := by rw [e_τ13]; exact fg_srX r211_L_τ12 (fun h => absurd h.1 (by decide))
  have r212_L_τ13 : xr τ13 212 L = some p5 := by rw [e_τ13]; exact fg_srX r212_L_τ12 (fun h => absurd h.1 (by decide))
  have n_q6_τ13 : xn τ13 q6 = 500 := by rw [e_τ13]; exact n_q6_τ12
  have r176_p6_τ13 : xr τ13 176 p6 = some q6 := by rw [e_τ13]; exact va_up_self _ _ _
  have C_τ13 : yo0 [(q6, 20), (p6, 11), (p5, 1), (p4, 1), (p3, 1), (p2, 1), (p1, 1), (L, 13)] τ13 := by rw [e_τ13]; exact C_τ12
  have LL_τ13 : ∀ g, yL_ g (va_up (va_up (va_up (va_up (va_up (fun _ => 8) p1 10) p2 8) p3 6) p4 4) p5 9) 8 5 τ13 := by rw [e_τ13]; exact LL_τ12
  clear e_τ13
  refine ⟨t_L_τ13, fun τ14 e_τ14 => ?_⟩
  have t_L_τ14 : xt τ14 L = 13 := by rw [e_τ14]; exact t_L_τ13
  have t_p1_τ14 : xt τ14 p1 = 1 := by rw [e_τ14]; exact t_p1_τ13
  have t_p2_τ14 : xt τ14 p2 = 1 := by rw [e_τ14]; exact t_p2_τ13
  have t_p3_τ14 : xt τ14 p3 = 1 := by rw [e_τ14]; exact t_p3_τ13
  have t_p4_τ14 : xt τ14 p4 = 1 := by rw [e_τ14]; exact t_p4_τ13
  have t_p5_τ14 : xt τ14 p5 = 1 := by rw [e_τ14]; exact t_p5_τ13
  have t_p6_τ14 : xt τ14 p6 = 11 := by rw [e_τ14]; exact t_p6_τ13
  have t_q6_τ14 : xt τ14 q6 = 20 := by rw [e_τ14]; exact t_q6_τ13
  have r208_L_τ14 : xr τ14 208 L = some p1 := by rw [e_τ14]; exact fg_srX r208_L_τ13 (fun h => absurd h.1 (by decide))
  have r209_L_τ14 : xr τ14 209 L = some p2 := by rw [e_τ14]; exact fg_srX r209_L_τ13 (fun h => absurd h.1 (by decide))
  have r210_L_τ14 : xr τ14 210 L = some p3 := by rw [e_τ14]; exact fg_srX r210_L_τ13 (fun h => absurd h.1 (by decide))
  have r211_L_τ14 : xr τ14 211 L = some p4 := by rw [e_τ14]; exact fg_srX r211_L_τ13 (fun h => absurd h.1 (by decide))
  have r212_L_τ14 : xr τ14 212 L = some p5 := by rw [e_τ14]; exact fg_srX r212_L_τ13 (fun h => absurd h.1 (by decide))
  have r176_p6_τ14 : xr τ14 176 p6 = some q6 := by rw [e_τ14]; exact fg_srX r176_p6_τ13 (fun h => absurd h.1 (by decide))
  have n_q6_τ14 : xn τ14 q6 = 500 := by rw [e_τ14]; exact n_q6_τ13
  have r213_L_τ14 : xr τ14 213 L = some p6 := by rw [e_τ14]; exact va_up_self _ _ _
  have C_τ14 : yo0 [(q6, 20), (p6, 11), (p5, 1), (p4, 1), (p3, 1), (p2, 1), (p1, 1), (L, 13)] τ14 := by rw [e_τ14]; exact C_τ13
  have LL_τ14 : ∀ g, yL_ g (va_up (va_up (va_up (va_up (va_up (fun _ => 8) p1 10) p2 8) p3 6) p4 4) p5 9) 8 5 τ14 := by rw [e_τ14]; exact LL_τ13
  clear e_τ14
  refine ⟨ry_room (LL_τ14 (fun _ => 0)) (by decide) (by decide), fun p7 h_p7 z_p7 τ15 e_τ15 => ?_⟩
  have ne_L_p7 : L ≠ p7 := fun e => by have h := t_L_τ14; rw [e, h_p7] at h; omega
  have ne_p1_p7 : p1 ≠ p7 := fun e => by have h := t_p1_τ14; rw [e, h_p7] at h; omega
  have ne_p2_p7 : p2 ≠ p7 := fun e => by have h := t_p2_τ14; rw [e, h_p7] at h; omega
  have ne_p3_p7 : p3 ≠ p7 := fun e => by have h := t_p3_τ14; rw [e, h_p7] at h; omega
  have ne_p4_p7 : p4 ≠ p7 := fun e => by have h := t_p4_τ14; rw [e, h_p7] at h; omega
  have ne_p5_p7 : p5 ≠ p7 := fun e => by have h := t_p5_τ14; rw [e, h_p7] at h; omega
  have ne_p6_p7 : p6 ≠ p7 := fun e => by have h := t_p6_τ14; rw [e, h_p7] at h; omega
  have ne_q6_p7 : q6 ≠ p7 := fun e => by have h := t_q6_τ14; rw [e, h_p7] at h; omega
  have F_τ15 : fg_ τ14 τ15 := by rw [e_τ15]; exact fg_new h_p7
  have t_L_τ15 : xt τ15 L = 13 := fg_tag F_τ15 t_L_τ14 (by decide)
  have t_p1_τ15 : xt τ15 p1 = 1 := fg_tag F_τ15 t_p1_τ14 (by decide)
  have t_p2_τ15 : xt τ15 p2 = 1 := fg_tag F_τ15 t_p2_τ14 (by decide)
  have t_p3_τ15 : xt τ15 p3 = 1 := fg_tag F_τ15 t_p3_τ14 (by decide)
  have t_p4_τ15 : xt τ15 p4 = 1 := fg_tag F_τ15 t_p4_τ14 (by decide)
  have t_p5_τ15 : xt τ15 p5 = 1 := fg_tag F_τ15 t_p5_τ14 (by decide)
  have t_p6_τ15 : xt τ15 p6 = 11 := fg_tag F_τ15 t_p6_τ14 (by decide)
  have t_q6_τ15 : xt τ15 q6 = 20 := fg_tag F_τ15 t_q6_τ14 (by decide)
  have r208_L_τ15 : xr τ15 208 L = some p1 := fg_ref F_τ15 t_L_τ14 (by decide) (by decide) r208_L_τ14
  have r209_L_τ15 : xr τ15 209 L = some p2 := fg_ref F_τ15 t_L_τ14 (by decide) (by decide) r209_L_τ14
  have r210_L_τ15 : xr τ15 210 L = some p3 := fg_ref F_τ15 t_L_τ14 (by decide) (by decide) r210_L_τ14
  have r211_L_τ15 : xr τ15 211 L = some p4 := fg_ref F_τ15 t_L_τ14 (by decide) (by decide) r211_L_τ14
  have r212_L_τ15 : xr τ15 212 L = some p5 := fg_ref F_τ15 t_L_τ14 (by decide) (by decide) r212_L_τ14
  have r176_p6_τ15 : xr τ15 176 p6 = some q6 := fg_ref F_τ15 t_p6_τ14 (by decide) (by decide) r176_p6_τ14
  have r213_L_τ15 : xr τ15 213 L = some p6 := fg_ref F_τ15 t_L_τ14 (by decide) (by decide) r213_L_τ14
  have n_q6_τ15 : xn τ15 q6 = 500 := (F_τ15.2.2.1 q6 (by rw [t_q6_τ14]; decide)).trans n_q6_τ14
  have t_p7_τ15 : xt τ15 p7 = 7 := by rw [e_τ15]; exact va_up_self _ _ _
  have C_τ15 : yo0 [(p7, 7), (q6, 20), (p6, 11), (p5, 1), (p4, 1), (p3, 1), (p2, 1), (p1, 1), (L, 13)] τ15 := by rw [e_τ15]; exact yo0_new C_τ14
  have LL_τ15 : ∀ g, yL_ g (va_up (va_up (va_up (va_up (va_up (fun _ => 8) p1 10) p2 8) p3 6) p4 4) p5 9) 9 5 τ15 := fun g => by rw [e_τ15]; exact yL_other (LL_τ14 g) h_p7 z_p7 (by decide) rfl (fun a q => va_up_ne _ _ q) (fun a q => va_up_ne _ _ q) (fun a _ => rfl) (fun a _ => rfl) rfl rfl
  clear e_τ15
  refine ⟨t_L_τ15, p6, r213_L_τ15, ?_⟩
  refine ⟨ry_room (LL_τ15 (fun _ => 0)) (by decide) (by decide), fun q7 h_q7 z_q7 τ16 e_τ16 => ?_⟩
  have ne_L_q7 : L ≠ q7 := fun e => by have h := t_L_τ15; rw [e, h_q7] at h; omega
  have ne_p1_q7 : p1 ≠ q7 := fun e => by have h := t_p1_τ15; rw [e, h_q7] at h; omega
  have ne_p2_q7 : p2 ≠ q7 := fun e => by have h := t_p2_τ15; rw [e, h_q7] at h; omega
  have ne_p3_q7 : p3 ≠ q7 := fun e => by have h := t_p3_τ15; rw [e, h_q7] at h; omega
  have ne_p4_q7 : p4 ≠ q7 := fun e => by have h := t_p4_τ15; rw [e, h_q7] at h; omega
  have ne_p5_q7 : p5 ≠ q7 := fun e => by have h := t_p5_τ15; rw [e, h_q7] at h; omega
  have ne_p6_q7 : p6 ≠ q7 := fun e => by have h := t_p6_τ15; rw [e, h_q7] at h; omega
  have ne_q6_q7 : q6 ≠ q7 := fun e => by have h := t_q6_τ15; rw [e, h_q7] at h; omega
  have ne_p7_q7 : p7 ≠ q7 := fun e => by have h := t_p7_τ15; rw [e, h_q7] at h; omega
  have F_τ16 : fg_ τ15 τ16 := by rw [e_τ16]; exact fg_new h_q7
  have t_L_τ16 : xt τ16 L = 13 := fg_tag F_τ16 t_L_τ15 (by decide)
  have t_p1_τ16 : xt τ16 p1 = 1 := fg_tag F_τ16 t_p1_τ15 (by decide)
  have t_p2_τ16 : xt τ16 p2 = 1 := fg_tag F_τ16 t_p2_τ15 (by decide)
  have t_p3_τ16 : xt τ16 p3 = 1 := fg_tag F_τ16 t_p3_τ15 (by decide)
  have t_p4_τ16 : xt τ16 p4 = 1 := fg_tag F_τ16 t_p4_τ15 (by decide)
  have t_p5_τ16 : xt τ16 p5 = 1 := fg_tag F_τ16 t_p5_τ15 (by decide)
  have t_p6_τ16 : xt τ16 p6 = 11 := fg_tag F_τ16 t_p6_τ15 (by decide)
  have t_q6_τ16 : xt τ16 q6 = 20 := fg_tag F_τ16 t_q6_τ15 (by decide)
  have t_p7_τ16 : xt τ16 p7 = 7 := fg_tag F_τ16 t_p7_τ15 (by decide)
  have r208_L_τ16 : xr τ16 208 L = some p1 := fg_ref F_τ16 t_L_τ15 (by decide) (by decide) r208_L_τ15
  have r209_L_τ16 : xr τ16 209 L = some p2 := fg_ref F_τ16 t_L_τ15 (by decide) (by decide) r209_L_τ15
  have r210_L_τ16 : xr τ16 210 L = some p3 := fg_ref F_τ16 t_L_τ15 (by decide) (by decide) r210_L_τ15
  have r211_L_τ16 : xr τ16 211 L = some p4 := fg_ref F_τ16 t_L_τ15 (by decide) (by decide) r211_L_τ15
  have r212_L_τ16 : xr τ16 212 L = some p5 := fg_ref F_τ16 t_L_τ15 (by decide) (by decide) r212_L_τ15
  have r176_p6_τ16 : xr τ16 176 p6 = some q6 := fg_ref F_τ16 t_p6_τ15 (by decide) (by decide) r176_p6_τ15
  have r213_L_τ16 : xr τ16 213 L = some p6 := fg_ref F_τ16 t_L_τ15 (by decide) (by decide) r213_L_τ15
  have n_q6_τ16 : xn τ16 q6 = 500 := (F_τ16.2.2.1 q6 (by rw [t_q6_τ15]; decide)).trans n_q6_τ15
  have t_q7_τ16 : xt τ16 q7 = 12 := by rw [e_τ16]; exact va_up_self _ _ _
  have C_τ16 : yo0 [(q7, 12), (p7, 7), (q6, 20), (p6, 11), (p5, 1), (p4, 1), (p3, 1), (p2, 1), (p1, 1), (L, 13)] τ16 := by rw [e_τ16]; exact yo0_new C_τ15
  have LL_τ16 : ∀ g, yL_ g (va_up (va_up (va_up (va_up (va_up (fun _ => 8) p1 10) p2 8) p3 6) p4 4) p5 9) 10 5 τ16 := fun g => by rw [e_τ16]; exact yL_other (LL_τ15 g) h_q7 z_q7 (by decide) rfl (fun a q => va_up_ne _ _ q) (fun a q => va_up_ne _ _ q) (fun a _ => rfl) (fun a _ => rfl) rfl rfl
  clear e_τ16
  refine ⟨t_q7_τ16, fun τ17 e_τ17 => ?_⟩
  have t_L_τ17 : xt τ17 L = 13 := by rw [e_τ17]; exact t_L_τ16
  have t_p1_τ17 : xt τ17 p1 = 1 := by rw [e_τ17]; exact t_p1_τ16
  have t_p2_τ17 : xt τ17 p2 = 1 := by rw [e_τ17]; exact t_p2_τ16
  have t_p3_τ17 : xt τ17 p3 = 1 := by rw [e_τ17]; exact t_p3_τ16
  have t_p4_τ17 : xt τ17 p4 = 1 := by rw [e_τ17]; exact t_p4_τ16
  have t_p5_τ17 : xt τ17 p5 = 1 := by rw [e_τ17]; exact t_p5_τ16
  have t_p6_τ17 : xt τ17 p6 = 11 := by rw [e_τ17]; exact t_p6_τ16
  have t_q6_τ17 : xt τ17 q6 = 20 := by rw [e_τ17]; exact t_q6_τ16
  have t_p7_τ17 : xt τ17 p7 = 7 := by rw [e_τ17]; exact t_p7_τ16
  have t_q7_τ17 : xt τ17 q7 = 12 := by rw [e_τ17]; exact t_q7_τ16
  have r208_L_τ17 : xr τ17 208 L = some p1 := by rw [e_τ17]; exact fg_srX r208_L_τ16 (fun h => absurd h.1 (by decide))
  have r209_L_τ17 : xr τ17 209 L = some p2 := by rw [e_τ17]; exact fg_srX r209_L_τ16 (fun h => absurd h.1 (by decide))
  have r210_L_τ17 : xr τ17 210 L = some p3 := by rw [e_τ17]; exact fg_srX r210_L_τ16 (fun h => absurd h.1 (by decide))
  have r211_L_τ17 : xr τ17 211 L = some p4 := by rw [e_τ17]; exact fg_srX r211_L_τ16 (fun h => absurd h.1 (by decide))
  have r212_L_τ17 : xr τ17 212 L = some p5 := by rw [e_τ17]; exact fg_srX r212_L_τ16 (fun h => absurd h.1 (by decide))
  have r176_p6_τ17 : xr τ17 176 p6 = some q6 := by rw [e_τ17]; exact fg_srX r176_p6_τ16 (fun h => absurd h.1 (by decide))
  have r213_L_τ17 : xr τ17 213 L = some p6 := by rw [e_τ17]; exact fg_srX r213_L_τ16 (fun h => absurd h.1 (by decide))
  have n_q6_τ17 : xn τ17 q6 = 500 := by rw [e_τ17]; exact n_q6_τ16
  have r192_q7_τ17 : xr τ17 192 q7 = some p6 := by rw [e_τ17]; exact va_up_self _ _ _
  have C_τ17 : yo0 [(q7, 12), (p7, 7), (q6, 20), (p6, 11), (p5, 1), (p4, 1), (p3, 1), (p2, 1), (p1, 1), (L, 13)] τ17 := by rw [e_τ17]; exact C_τ16
  have LL_τ17 : ∀ g, yL_ g (va_up (va_up (va_up (va_up (va_up (fun _ => 8) p1 10) p2 8) p3 6) p4 4) p5 9) 10 5 τ17 := by rw [e_τ17]; exact LL_τ16
  clear e_τ17
  refine ⟨t_p7_τ17, fun τ18 e_τ18 => ?_⟩
  have t_L_τ18 : xt τ18 L = 13 := by rw [e_τ18]; exact t_L_τ17
  have t_p1_τ18 : xt τ18 p1 = 1 := by rw [e_τ18]; exact t_p1_τ17
  have t_p2_τ18 : xt τ18 p2 = 1 := by rw [e_τ18]; exact t_p2_τ17
  have t_p3_τ18 : xt τ18 p3 = 1 := by rw [e_τ18]; exact t_p3_τ17
  have t_p4_τ18 : xt τ18 p4 = 1 := by rw [e_τ18]; exact t_p4_τ17
  have t_p5_τ18 : xt τ18 p5 = 1 := by rw [e_τ18]; exact t_p5_τ17
  have t_p6_τ18 : xt τ18 p6 = 11 := by rw [e_τ18]; exact t_p6_τ17
  have t_q6_τ18 : xt τ18 q6 = 20 := by rw [e_τ18]; exact t_q6_τ17
  have t_p7_τ18 : xt τ18 p7 = 7 := by rw [e_τ18]; exact t_p7_τ17
  have t_q7_τ18 : xt τ18 q7 = 12 := by rw [e_τ18]; exact t_q7_τ17
  have r208_L_τ18 : xr τ18 208 L = some p1 := by rw [e_τ18]; exact fg_srX r208_L_τ17 (fun h => absurd h.1 (by decide))
  have r209_L_τ18 : xr τ18 209 L = some p2 := by rw [e_τ18]; exact fg_srX r209_L_τ17 (fun h => absurd h.1 (by decide))
  have r210_L_τ18 : xr τ18 210 L = some p3 := by rw [e_τ18]; exact fg_srX r210_L_τ17 (fun h => absurd h.1 (by decide))
  have r211_L_τ18 : xr τ18 211 L = some p4 := by rw [e_τ18]; exact fg_srX r211_L_τ17 (fun h => absurd h.1 (by decide))
  have r212_L_τ18 : xr τ18 212 L = some p5 := by rw [e_τ18]; exact fg_srX r212_L_τ17 (fun h => absurd h.1 (by decide))
  have r176_p6_τ18 : xr τ18 176 p6 = some q6 := by rw [e_τ18]; exact fg_srX r176_p6_τ17 (fun h => absurd h.1 (by decide))
  have r213_L_τ18 : xr τ18 213 L = some p6 := by rw [e_τ18]; exact fg_srX r213_L_τ17 (fun h => absurd h.1 (by decide))
  have r192_q7_τ18 : xr τ18 192 q7 = some p6 := by rw [e_τ18]; exact fg_srX r192_q7_τ17 (fun h => absurd h.1 (by decide))
  have n_q6_τ18 : xn τ18 q6 = 500 := by rw [e_τ18]; exact n_q6_τ17
  have r112_p7_τ18 : xr τ18 112 p7 = some q7 := by rw [e_τ18]; exact va_up_self _ _ _
  have C_τ18 : yo0 [(q7, 12), (p7, 7), (q6, 20), (p6, 11), (p5, 1), (p4, 1), (p3, 1), (p2, 1), (p1, 1), (L, 13)] τ18 := by rw [e_τ18]; exact C_τ17
  have LL_τ18 : ∀ g, yL_ g (va_up (va_up (va_up (va_up (va_up (fun _ => 8) p1 10) p2 8) p3 6) p4 4) p5 9) 10 5 τ18 := by rw [e_τ18]; exact LL_τ17
  clear e_τ18
  refine ⟨ry_room (LL_τ18 (fun _ => 0)) (by decide) (by decide), by decide, by decide, fun c7 h_c7 z_c7 τ19 e_τ19 => ?_⟩
  have ne_L_c7 : L ≠ c7 := fun e => by have h := t_L_τ18; rw [e, h_c7] at h; omega
  have ne_p1_c7 : p1 ≠ c7 := fun e => by have h := t_p1_τ18; rw [e, h_c7] at h; omega
  have ne_p2_c7 : p2 ≠ c7 := fun e => by have h := t_p2_τ18; rw [e, h_c7] at h; omega
  have ne_p3_c7 : p3 ≠ c7 := fun e => by have h := t_p3_τ18; rw [e, h_c7] at h; omega
  have ne_p4_c7 : p4 ≠ c7 := fun e => by have h := t_p4_τ18; rw [e, h_c7] at h; omega
  have ne_p5_c7 : p5 ≠ c7 := fun e => by have h := t_p5_τ18; rw [e, h_c7] at h; omega
  have ne_p6_c7 : p6 ≠ c7 := fun e => by have h := t_p6_τ18; rw [e, h_c7] at h; omega
  have ne_q6_c7 : q6 ≠ c7 := fun e => by have h := t_q6_τ18; rw [e, h_c7] at h; omega
  have ne_p7_c7 : p7 ≠ c7 := fun e => by have h := t_p7_τ18; rw [e, h_c7] at h; omega
  have ne_q7_c7 : q7 ≠ c7 := fun e => by have h := t_q7_τ18; rw [e, h_c7] at h; omega
  have F_τ19 : fg_ τ18 τ19 := by rw [e_τ19]; exact fg_newA h_c7
  have t_L_τ19 : xt τ19 L = 13 := fg_tag F_τ19 t_L_τ18 (by decide)
  have t_p1_τ19 : xt τ19 p1 = 1 := fg_tag F_τ19 t_p1_τ18 (by decide)
  have t_p2_τ19 : xt τ19 p2 = 1 := fg_tag F_τ19 t_p2_τ18 (by decide)
  have t_p3_τ19 : xt τ19 p3 = 1 := fg_tag F_τ19 t_p3_τ18 (by decide)
  have t_p4_τ19 : xt τ19 p4 = 1 := fg_tag F_τ19 t_p4_τ18 (by decide)
  have t_p5_τ19 : xt τ19 p5 = 1 := fg_tag F_τ19 t_p5_τ18 (by decide)
  have t_p6_τ19 : xt τ19 p6 = 11 := fg_tag F_τ19 t_p6_τ18 (by decide)
  have t_q6_τ19 : xt τ19 q6 = 20 := fg_tag F_τ19 t_q6_τ18 (by decide)
  have t_p7_τ19 : xt τ19 p7 = 7 := fg_tag F_τ19 t_p7_τ18 (by decide)
  have t_q7_τ19 : xt τ19 q7 = 12 := fg_tag F_τ19 t_q7_τ18 (by decide)
  have r208_L_τ19 : xr τ19 208 L = some p1 := fg_ref F_τ19 t_L_τ18 (by decide) (by decide) r208_L_τ18
  have r209_L_τ19 : xr τ19 209 L = some p2 := fg_ref F_τ19 t_L_τ18 (by decide) (by decide) r209_L_τ18
  have r210_L_τ19 : xr τ19 210 L = some p3 := fg_ref F_τ19 t_L_τ18 (by decide) (by decide) r210_L_τ18
  have r211_L_τ19 : xr τ19 211 L = some p4 := fg_ref F_τ19 t_L_τ18 (by decide) (by decide) r211_L_τ18
  have r212_L_τ19 : xr τ19 212 L = some p5 := fg_ref F_τ19 t_L_τ18 (by decide) (by decide) r212_L_τ18
  have r176_p6_τ19 : xr τ19 176 p6 = some q6 := fg_ref F_τ19 t_p6_τ18 (by decide) (by decide) r176_p6_τ18
  have r213_L_τ19 : xr τ19 213 L = some p6 := fg_ref F_τ19 t_L_τ18 (by decide) (by decide) r213_L_τ18
  have r192_q7_τ19 : xr τ19 192 q7 = some p6 := fg_ref F_τ19 t_q7_τ18 (by decide) (by decide) r192_q7_τ18
  have r112_p7_τ19 : xr τ19 112 p7 = some q7 := fg_ref F_τ19 t_p7_τ18 (by decide) (by decide) r112_p7_τ18
  have n_q6_τ19 : xn τ19 q6 = 500 := (F_τ19.2.2.1 q6 (by rw [t_q6_τ18]; decide)).trans n_q6_τ18
  have t_c7_τ19 : xt τ19 c7 = 20 := by rw [e_τ19]; exact va_up_self _ _ _
  have n_c7_τ19 : xn τ19 c7 = 500 := by rw [e_τ19]; exact va_up_self _ _ _
  have C_τ19 : yo0 [(c7, 20), (q7, 12), (p7, 7), (q6, 20), (p6, 11), (p5, 1), (p4, 1), (p3, 1), (p2, 1), (p1, 1), (L, 13)] τ19 := by rw [e_τ19]; exact yo0_newA C_τ18 (by decide)
  have LL_τ19 : ∀ g, yL_ g (va_up (va_up (va_up (va_up (va_up (fun _ => 8) p1 10) p2 8) p3 6) p4 4) p5 9) 11 5 τ19 := fun g => by rw [e_τ19]; exact yL_other (LL_τ18 g) h_c7 z_c7 (by decide) rfl (fun a _ => rfl) (fun a _ => rfl) (fun a q => va_up_ne _ _ q) (fun a q => va_up_ne _ _ q) rfl rfl
  clear e_τ19
  refine ⟨t_p7_τ19, fun τ20 e_τ20 => ?_⟩
  have t_L_τ20 : xt τ20 L = 13 := by rw [e_τ20]; exact t_L_τ19
  have t_p1_τ20 : xt τ20 p1 = 1 := by rw [e_τ20]; exact t_p1_τ19
  have t_p2_τ20 : xt τ20 p2 = 1 := by rw [e_τ20]; exact t_p2_τ19
  have t_p3_τ20 : xt τ20 p3 = 1 := by rw [e_τ20]; exact t_p3_τ19
  have t_p4_τ20 : xt τ20 p4 = 1 := by rw [e_τ20]; exact t_p4_τ19
  have t_p5_τ20 : xt τ20 p5 = 1 := by rw [e_τ20]; exact t_p5_τ19
  have t_p6_τ20 : xt τ20 p6 = 11 := by rw [e_τ20]; exact t_p6_τ19
  have t_q6_τ20 : xt τ20 q6 = 20 := by rw [e_τ20]; exact t_q6_τ19
  have t_p7_τ20 : xt τ20 p7 = 7 := by rw [e_τ20]; exact t_p7_τ19
  have t_q7_τ20 : xt τ20 q7 = 12 := by rw [e_τ20]; exact t_q7_τ19
  have t_c7_τ20 : xt τ20 c7 = 20 := by rw [e_τ20]; exact t_c7_τ19
  have r208_L_τ20 : xr τ20 208 L = some p1 := by rw [e_τ20]; exact fg_srX r208_L_τ19 (fun h => absurd h.1 (by decide))
  have r209_L_τ20 : xr τ20 209 L = some p2 := by rw [e_τ20]; exact fg_srX r209_L_τ19 (fun h => absurd h.1 (by decide))
  have r210_L_τ20 : xr τ20 210 L = some p3 := by rw [e_τ20]; exact fg_srX r210_L_τ19 (fun h => absurd h.1 (by decide))
  have r211_L_τ20 : xr τ20 211 L = some p4 := by rw [e_τ20]; exact fg_srX r211_L_τ19 (fun h => absurd h.1 (by decide))
  have r212_L_τ20 : xr τ20 212 L = some p5 := by rw [e_τ20]; exact fg_srX r212_L_τ19 (fun h => absurd h.1 (by decide))
  have r176_p6_τ20 : xr τ20 176 p6 = some q6 := by rw [e_τ20]; exact fg_srX r176_p6_τ19 (fun h => absurd h.1 (by decide))
  have r213_L_τ20 : xr τ20 213 L = some p6 := by rw [e_τ20]; exact fg_srX r213_L_τ19 (fun h => absurd h.1 (by decide))
  have r192_q7_τ20 : xr τ20 192 q7 = some p6 := by rw [e_τ20]; exact fg_srX r192_q7_τ19 (fun h => absurd h.1 (by decide))
  have r112_p7_τ20 : xr τ20 112 p7 = some q7 := by rw [e_τ20]; exact fg_srX r112_p7_τ19 (fun h => absurd h.1 (by decide))
  have n_q6_τ20 : xn τ20 q6 = 500 := by rw [e_τ20]; exact n_q6_τ19
  have n_c7_τ20 : xn τ20 c7 = 500 := by rw [e_τ20]; exact n_c7_τ19
  have r113_p7_τ20 : xr τ20 113 p7 = some c7 := by rw [e_τ20]; exact va_up_self _ _ _
  have C_τ20 : yo0 [(c7, 20), (q7, 12), (p7, 7), (q6, 20), (p6, 11), (p5, 1), (p4, 1), (p3, 1), (p2, 1), (p1, 1), (L, 13)] τ20 := by rw [e_τ20]; exact C_τ19
  have LL_τ20 : ∀ g, yL_ g (va_up (va_up (va_up (va_up (va_up (fun _ => 8) p1 10) p2 8) p3 6) p4 4) p5 9) 11 5 τ20 := by rw [e_τ20]; exact LL_τ19
  clear e_τ20
  refine ⟨t_L_τ20, fun τ21 e_τ21 => ?_⟩
  have t_L_τ21 : xt τ21 L = 13 := by rw [e_τ21]; exact t_L_τ20
  have t_p1_τ21 : xt τ21 p1 = 1 := by rw [e_τ21]; exact t_p1_τ20
  have t_p2_τ21 : xt τ21 p2 = 1 := by rw [e_τ21]; exact t_p2_τ20
  have t_p3_τ21 : xt τ21 p3 = 1 := by rw [e_τ21]; exact t_p3_τ20
  have t_p4_τ21 : xt τ21 p4 = 1 := by rw [e_τ21]; exact t_p4_τ20
  have t_p5_τ21 : xt τ21 p5 = 1 := by rw [e_τ21]; exact t_p5_τ20
  have t_p6_τ21 : xt τ21 p6 = 11 := by rw [e_τ21]; exact t_p6_τ20
  have t_q6_τ21 : xt τ21 q6 = 20 := by rw [e_τ21]; exact t_q6_τ20
  have t_p7_τ21 : xt τ21 p7 = 7 := by rw [e_τ21]; exact t_p7_τ20
  have t_q7_τ21 : xt τ21 q7 = 12 := by rw [e_τ21]; exact t_q7_τ20
  have t_c7_τ21 : xt τ21 c7 = 20 := by rw [e_τ21]; exact t_c7_τ20
  have r208_L_τ21 : xr τ21 208 L = some p1 := by rw [e_τ21]; exact fg_srX r208_L_τ20 (fun h => absurd h.1 (by decide))
  have r209_L_τ21 : xr τ21 209 L = some p2 := by rw [e_τ21]; exact fg_srX r209_L_τ20 (fun h => absurd h.1 (by decide))
  have r210_L_τ21 : xr τ21 210 L = some p3 := by rw [e_τ21]; exact fg_srX r210_L_τ20 (fun h => absurd h.1 (by decide))
  have r211_L_τ21 : xr τ21 211 L = some p4 := by rw [e_τ21]; exact fg_srX r211_L_τ20 (fun h => absurd h.1 (by decide))
  have r212_L_τ21 : xr τ21 212 L = some p5 := by rw [e_τ21]; exact fg_srX r212_L_τ20 (fun h => absurd h.1 (by decide))
  have r176_p6_τ21 : xr τ21 176 p6 = some q6 := by rw [e_τ21]; exact fg_srX r176_p6_τ20 (fun h => absurd h.1 (by decide))
  have r213_L_τ21 : xr τ21 213 L = some p6 := by rw [e_τ21]; exact fg_srX r213_L_τ20 (fun h => absurd h.1 (by decide))
  have r192_q7_τ21 : xr τ21 192 q7 = some p6 := by rw [e_τ21]; exact fg_srX r192_q7_τ20 (fun h => absurd h.1 (by decide))
  have r112_p7_τ21 : xr τ21 112 p7 = some q7 := by rw [e_τ21]; exact fg_srX r112_p7_τ20 (fun h => absurd h.1 (by decide))
  have r113_p7_τ21 : xr τ21 113 p7 = some c7 := by rw [e_τ21]; exact fg_srX r113_p7_τ20 (fun h => absurd h.1 (by decide))
  have n_q6_τ21 : xn τ21 q6 = 500 := by rw [e_τ21]; exact n_q6_τ20
  have n_c7_τ21 : xn τ21 c7 = 500 := by rw [e_τ21]; exact n_c7_τ20
  have r214_L_τ21 : xr τ21 214 L = some p7 := by rw [e_τ21]; exact va_up_self _ _ _
  have C_τ21 : yo0 [(c7, 20), (q7, 12), (p7, 7), (q6, 20), (p6, 11), (p5, 1), (p4, 1), (p3, 1), (p2, 1), (p1, 1), (L, 13)] τ21 := by rw [e_τ21]; exact C_τ20
  have LL_τ21 : ∀ g, yL_ g (va_up (va_up (va_up (va_up (va_up (fun _ => 8) p1 10) p2 8) p3 6) p4 4) p5 9) 11 5 τ21 := by rw [e_τ21]; exact LL_τ20
  clear e_τ21
  refine ⟨ry_room (LL_τ21 (fun _ => 0)) (by decide) (by decide), fun p8 h_p8 z_p8 τ22 e_τ22 => ?_⟩
  have ne_L_p8 : L ≠ p8 := fun e => by have h := t_L_τ21; rw [e, h_p8] at h; omega
  have ne_p1_p8 : p1 ≠ p8 := fun e => by have h := t_p1_τ21; rw [e, h_p8] at h; omega
  have ne_p2_p8 : p2 ≠ p8 := fun e => by have h := t_p2_τ21; rw [e, h_p8] at h; omega
  have ne_p3_p8 : p3 ≠ p8 := fun e => by have h := t_p3_τ21; rw [e, h_p8] at h; omega
  have ne_p4_p8 : p4 ≠ p8 := fun e => by have h := t_p4_τ21; rw [e, h_p8] at h; omega
  have ne_p5_p8 : p5 ≠ p8 := fun e => by have h := t_p5_τ21; rw [e, h_p8] at h; omega
  have ne_p6_p8 : p6 ≠ p8 := fun e => by have h := t_p6_τ21; rw [e, h_p8] at h; omega
  have ne_q6_p8 : q6 ≠ p8 := fun e => by have h := t_q6_τ21; rw [e, h_p8] at h; omega
  have ne_p7_p8 : p7 ≠ p8 := fun e => by have h := t_p7_τ21; rw [e, h_p8] at h; omega
  have ne_q7_p8 : q7 ≠ p8 := fun e => by have h := t_q7_τ21; rw [e, h_p8] at h; omega
  have ne_c7_p8 : c7 ≠ p8 := fun e => by have h := t_c7_τ21; rw [e, h_p8] at h; omega
  have F_τ22 : fg_ τ21 τ22 := by rw [e_τ22]; exact fg_new h_p8
  have t_L_τ22 : xt τ22 L = 13 := fg_tag F_τ22 t_L_τ21 (by decide)
  have t_p1_τ22 : xt τ22 p1 = 1 := fg_tag F_τ22 t_p1_τ21 (by decide)
  have t_p2_τ22 : xt τ22 p2 = 1 := fg_tag F_τ22 t_p2_τ21 (by decide)
  have t_p3_τ22 : xt τ22 p3 = 1 := fg_tag F_τ22 t_p3_τ21 (by decide)
  have t_p4_τ22 : xt τ22 p4 = 1 := fg_tag F_τ22 t_p4_τ21 (by decide)
  have t_p5_τ22 : xt τ22 p5 = 1 := fg_tag F_τ22 t_p5_τ21 (by decide)
  have t_p6_τ22 : xt τ22 p6 = 11 := fg_tag F_τ22 t_p6_τ21 (by decide)
  have t_q6_τ22 : xt τ22 q6 = 20 := fg_tag F_τ22 t_q6_τ21 (by decide)
  have t_p7_τ22 : xt τ22 p7 = 7 := fg_tag F_τ22 t_p7_τ21 (by decide)
  have t_q7_τ22 : xt τ22 q7 = 12 := fg_tag F_τ22 t_q7_τ21 (by decide)
  have t_c7_τ22 : xt τ22 c7 = 20 := fg_tag F_τ22 t_c7_τ21 (by decide)
  have r208_L_τ22 : xr τ22 208 L = some p1 := fg_ref F_τ22 t_L_τ21 (by decide) (by decide) r208_L_τ21
  have r209_L_τ22 : xr τ22 209 L = some p2 := fg_ref F_τ22 t_L_τ21 (by decide) (by decide) r209_L_τ21
  have r210_L_τ22 : xr τ22 210 L = some p3 := fg_ref F_τ22 t_L_τ21 (by decide) (by decide) r210_L_τ21
  have r211_L_τ22 : xr τ22 211 L = some p4 := fg_ref F_τ22 t_L_τ21 (by decide) (by decide) r211_L_τ21
  have r212_L_τ22 : xr τ22 212 L = some p5 := fg_ref F_τ22 t_L_τ21 (by decide) (by decide) r212_L_τ21
  have r176_p6_τ22 : xr τ22 176 p6 = some q6 := fg_ref F_τ22 t_p6_τ21 (by decide) (by decide) r176_p6_τ21
  have r213_L_τ22 : xr τ22 213 L = some p6 := fg_ref F_τ22 t_L_τ21 (by decide) (by decide) r213_L_τ21
  have r192_q7_τ22 : xr τ22 192 q7 = some p6 := fg_ref F_τ22 t_q7_τ21 (by decide) (by decide) r192_q7_τ21
  have r112_p7_τ22 : xr τ22 112 p7 = some q7 := fg_ref F_τ22 t_p7_τ21 (by decide) (by decide) r112_p7_τ21
  have r113_p7_τ22 : xr τ22 113 p7 = some c7 := fg_ref F_τ22 t_p7_τ21 (by decide) (by decide) r113_p7_τ21
  have r214_L_τ22 : xr τ22 214 L = some p7 := fg_ref F_τ22 t_L_τ21 (by decide) (by decide) r214_L_τ21
  have n_q6_τ22 : xn τ22 q6 = 500 := (F_τ22.2.2.1 q6 (by rw [t_q6_τ21]; decide)).trans n_q6_τ21
  have n_c7_τ22 : xn τ22 c7 = 500 := (F_τ22.2.2.1 c7 (by rw [t_c7_τ21]; decide)).trans n_c7_τ21
  have t_p8_τ22 : xt τ22 p8 = 5 := by rw [e_τ22]; exact va_up_self _ _ _
  have C_τ22 : yo0 [(p8, 5), (c7, 20), (q7, 12), (p7, 7), (q6, 20), (p6, 11), (p5, 1), (p4, 1), (p3, 1), (p2, 1), (p1, 1), (L, 13)] τ22 := by rw [e_τ22]; exact yo0_new C_τ21
  have LL_τ22 : ∀ g, yL_ g (va_up (va_up (va_up (va_up (va_up (fun _ => 8) p1 10) p2 8) p3 6) p4 4) p5 9) 12 5 τ22 := fun g => by rw [e_τ22]; exact yL_other (LL_τ21 g) h_p8 z_p8 (by decide) rfl (fun a q => va_up_ne _ _ q) (fun a q => va_up_ne _ _ q) (fun a _ => rfl) (fun a _ => rfl) rfl rfl
  clear e_τ22
  refine ⟨ry_room (LL_τ22 (fun _ => 0)) (by decide) (by decide), by decide, by decide, fun s8 h_s8 z_s8 τ23 e_τ23 => ?_⟩
  have ne_L_s8 : L ≠ s8 := fun e => by have h := t_L_τ22; rw [e, h_s8] at h; omega
  have ne_p1_s8 : p1 ≠ s8 := fun e => by have h := t_p1_τ22; rw [e, h_s8] at h; omega
  have ne_p2_s8 : p2 ≠ s8 := fun e => by have h := t_p2_τ22; rw [e, h_s8] at h; omega
  have ne_p3_s8 : p3 ≠ s8 := fun e => by have h := t_p3_τ22; rw [e, h_s8] at h; omega
  have ne_p4_s8 : p4 ≠ s8 := fun e => by have h := t_p4_τ22; rw [e, h_s8] at h; omega
  have ne_p5_s8 : p5 ≠ s8 := fun e => by have h := t_p5_τ22; rw [e, h_s8] at h; omega
  have ne_p6_s8 : p6 ≠ s8 := fun e => by have h := t_p6_τ22; rw [e, h_s8] at h; omega
  have ne_q6_s8 : q6 ≠ s8 := fun e => by have h := t_q6_τ22; rw [e, h_s8] at h; omega
  have ne_p7_s8 : p7 ≠ s8 := fun e => by have h := t_p7_τ22; rw [e, h_s8] at h; omega
  have ne_q7_s8 : q7 ≠ s8 := fun e => by have h := t_q7_τ22; rw [e, h_s8] at h; omega
  have ne_c7_s8 : c7 ≠ s8 := fun e => by have h := t_c7_τ22; rw [e, h_s8] at h; omega
  have ne_p8_s8 : p8 ≠ s8 := fun e => by have h := t_p8_τ22; rw [e, h_s8] at h; omega
  have F_τ23 : fg_ τ22 τ23 := by rw [e_τ23]; exact fg_newA h_s8
  have t_L_τ23 : xt τ23 L = 13 := fg_tag F_τ23 t_L_τ22 (by decide)
  have t_p1_τ23 : xt τ23 p1 = 1 := fg_tag F_τ23 t_p1_τ22 (by decide)
  have t_p2_τ23 : xt τ23 p2 = 1 := fg_tag F_τ23 t_p2_τ22 (by decide)
  have t_p3_τ23 : xt τ23 p3 = 1 := fg_tag F_τ23 t_p3_τ22 (by decide)
  have t_p4_τ23 : xt τ23 p4 = 1 := fg_tag F_τ23 t_p4_τ22 (by decide)
  have t_p5_τ23 : xt τ23 p5 = 1 := fg_tag F_τ23 t_p5_τ22 (by decide)
  have t_p6_τ23 : xt τ23 p6 = 11 := fg_tag F_τ23 t_p6_τ22 (by decide)
  have t_q6_τ23 : xt τ23 q6 = 20 := fg_tag F_τ23 t_q6_τ22 (by decide)
  have t_p7_τ23 : xt τ23 p7 = 7 := fg_tag F_τ23 t_p7_τ22 (by decide)
  have t_q7_τ23 : xt τ23 q7 = 12 := fg_tag F_τ23 t_q7_τ22 (by decide)
  have t_c7_τ23 : xt τ23 c7 = 20 := fg_tag F_τ23 t_c7_τ22 (by decide)
  have t_p8_τ23 : xt τ23 p8 = 5 := fg_tag F_τ23 t_p8_τ22 (by decide)
  have r208_L_τ23 : xr τ23 208 L = some p1 := fg_ref F_τ23 t_L_τ22 (by decide) (by decide) r208_L_τ22
  have r209_L_τ23 : xr τ23 209 L = some p2 := fg_ref F_τ23 t_L_τ22 (by decide) (by decide) r209_L_τ22
  have r210_L_τ23 : xr τ23 210 L = some p3 := fg_ref F_τ23 t_L_τ22 (by decide) (by decide) r210_L_τ22
  have r211_L_τ23 : xr τ23 211 L = some p4 := fg_ref F_τ23 t_L_τ22 (by decide) (by decide) r211_L_τ22
  have r212_L_τ23 : xr τ23 212 L = some p5 := fg_ref F_τ23 t_L_τ22 (by decide) (by decide) r212_L_τ22
  have r176_p6_τ23 : xr τ23 176 p6 = some q6 := fg_ref F_τ23 t_p6_τ22 (by decide) (by decide) r176_p6_τ22
  have r213_L_τ23 : xr τ23 213 L = some p6 := fg_ref F_τ23 t_L_τ22 (by decide) (by decide) r213_L_τ22
  have r192_q7_τ23 : xr τ23 192 q7 = some p6 := fg_ref F_τ23 t_q7_τ22 (by decide) (by decide) r192_q7_τ22
  have r112_p7_τ23 : xr τ23 112 p7 = some q7 := fg_ref F_τ23 t_p7_τ22 (by decide) (by decide) r112_p7_τ22
  have r113_p7_τ23 : xr τ23 113 p7 = some c7 := fg_ref F_τ23 t_p7_τ22 (by decide) (by decide) r113_p7_τ22
  have r214_L_τ23 : xr τ23 214 L = some p7 := fg_ref F_τ23 t_L_τ22 (by decide) (by decide) r214_L_τ22
  have n_q6_τ23 : xn τ23 q6 = 500 := (F_τ23.2.2.1 q6 (by rw [t_q6_τ22]; decide)).trans n_q6_τ22
  have n_c7_τ23 : xn τ23 c7 = 500 := (F_τ23.2.2.1 c7 (by rw [t_c7_τ22]; decide)).trans n_c7_τ22
  have t_s8_τ23 : xt τ23 s8 = 20 := by rw [e_τ23]; exact va_up_self _ _ _
  have n_s8_τ23 : xn τ23 s8 = 33 := by rw [e_τ23]; exact va_up_self _ _ _
  have C_τ23 : yo0 [(s8, 20), (p8, 5), (c7, 20), (q7, 12), (p7, 7), (q6, 20), (p6, 11), (p5, 1), (p4, 1), (p3, 1), (p2, 1), (p1, 1), (L, 13)] τ23 := by rw [e_τ23]; exact yo0_newA C_τ22 (by decide)
  have LL_τ23 : ∀ g, yL_ g (va_up (va_up (va_up (va_up (va_up (fun _ => 8) p1 10) p2 8) p3 6) p4 4) p5 9) 13 5 τ23 := fun g => by rw [e_τ23]; exact yL_other (LL_τ22 g) h_s8 z_s8 (by decide) rfl (fun a _ => rfl) (fun a _ => rfl) (fun a q => va_up_ne _ _ q) (fun a q => va_up_ne _ _ q) rfl rfl
  clear e_τ23
  refine ⟨t_p8_τ23, fun τ24 e_τ24 => ?_⟩
  have t_L_τ24 : xt τ24 L = 13 := by rw [e_τ24]; exact t_L_τ23
  have t_p1_τ24 : xt τ24 p1 = 1 := by rw [e_τ24]; exact t_p1_τ23
  have t_p2_τ24 : xt τ24 p2 = 1 := by rw [e_τ24]; exact t_p2_τ23
  have t_p3_τ24 : xt τ24 p3 = 1 := by rw [e_τ24]; exact t_p3_τ23
  have t_p4_τ24 : xt τ24 p4 = 1 := by rw [e_τ24]; exact t_p4_τ23
  have t_p5_τ24 : xt τ24 p5 = 1 := by rw [e_τ24]; exact t_p5_τ23
  have t_p6_τ24 : xt τ24 p6 = 11 := by rw [e_τ24]; exact t_p6_τ23
  have t_q6_τ24 : xt τ24 q6 = 20 := by rw [e_τ24]; exact t_q6_τ23
  have t_p7_τ24 : xt τ24 p7 = 7 := by rw [e_τ24]; exact t_p7_τ23
  have t_q7_τ24 : xt τ24 q7 = 12 := by rw [e_τ24]; exact t_q7_τ23
  have t_c7_τ24 : xt τ24 c7 = 20 := by rw [e_τ24]; exact t_c7_τ23
  have t_p8_τ24 : xt τ24 p8 = 5 := by rw [e_τ24]; exact t_p8_τ23
  have t_s8_τ24 : xt τ24 s8 = 20 := by rw [e_τ24]; exact t_s8_τ23
  have r208_L_τ24 : xr τ24 208 L = some p1 := by rw [e_τ24]; exact fg_srX r208_L_τ23 (fun h => absurd h.1 (by decide))
  have r209_L_τ24 : xr τ24 209 L = some p2 := by rw [e_τ24]; exact fg_srX r209_L_τ23 (fun h => absurd h.1 (by decide))
  have r210_L_τ24 : xr τ24 210 L = some p3 := by rw [e_τ24]; exact fg_srX r210_L_τ23 (fun h => absurd h.1 (by decide))
  have r211_L_τ24 : xr τ24 211 L = some p4 := by rw [e_τ24]; exact fg_srX r211_L_τ23 (fun h => absurd h.1 (by decide))
  have r212_L_τ24 : xr τ24 212 L = some p5 := by rw [e_τ24]; exact fg_srX r212_L_τ23 (fun h => absurd h.1 (by decide))
  have r176_p6_τ24 : xr τ24 176 p6 = some q6 := by rw [e_τ24]; exact fg_srX r176_p6_τ23 (fun h => absurd h.1 (by decide))
  have r213_L_τ24 : xr τ24 213 L = some p6 := by rw [e_τ24]; exact fg_srX r213_L_τ23 (fun h => absurd h.1 (by decide))
  have r192_q7_τ24 : xr τ24 192 q7 = some p6 := by rw [e_τ24]; exact fg_srX r192_q7_τ23 (fun h => absurd h.1 (by decide))
  have r112_p7_τ24 : xr τ24 112 p7 = some q7 := by rw [e_τ24]; exact fg_srX r112_p7_τ23 (fun h => absurd h.1 (by decide))
  have r113_p7_τ24 : xr τ24 113 p7 = some c7 := by rw [e_τ24]; exact fg_srX r113_p7_τ23 (fun h => absurd h.1 (by decide))
  have r214_L_τ24 : xr τ24 214 L = some p7 := by rw [e_τ24]; exact fg_srX r214_L_τ23 (fun h => absurd h.1 (by decide))
  have n_q6_τ24 : xn τ24 q6 = 500 := by rw [e_τ24]; exact n_q6_τ23
  have n_c7_τ24 : xn τ24 c7 = 500 := by rw [e_τ24]; exact n_c7_τ23
  have n_s8_τ24 : xn τ24 s8 = 33 := by rw [e_τ24]; exact n_s8_τ23
  have r80_p8_τ24 : xr τ24 80 p8 = some s8 := by rw [e_τ24]; exact va_up_self _ _ _
  have C_τ24 : yo0 [(s8, 20), (p8, 5), (c7, 20), (q7, 12), (p7, 7), (q6, 20), (p6, 11), (p5, 1), (p4, 1), (p3, 1), (p2, 1), (p1, 1), (L, 13)] τ24 := by rw [e_τ24]; exact C_τ23
  have LL_τ24 : ∀ g, yL_ g (va_up (va_up (va_up (va_up (va_up (fun _ => 8) p1 10) p2 8) p3 6) p4 4) p5 9) 13 5 τ24 := by rw [e_τ24]; exact LL_τ23
  clear e_τ24
  refine ⟨ry_room (LL_τ24 (fun _ => 0)) (by decide) (by decide), by decide, by decide, fun n8 h_n8 z_n8 τ25 e_τ25 => ?_⟩
  have ne_L_n8 : L ≠ n8 := fun e => by have h := t_L_τ24; rw [e, h_n8] at h; omega
  have ne_p1_n8 : p1 ≠ n8 := fun e => by have h := t_p1_τ24; rw [e, h_n8] at h; omega
  have ne_p2_n8 : p2 ≠ n8 := fun e => by have h := t_p2_τ24; rw [e, h_n8] at h; omega
  have ne_p3_n8 : p3 ≠ n8 := fun e => by have h := t_p3_τ24; rw [e, h_n8] at h; omega
  have ne_p4_n8 : p4 ≠ n8 := fun e => by have h := t_p4_τ24; rw [e, h_n8] at h; omega
  have ne_p5_n8 : p5 ≠ n8 := fun e => by have h := t_p5_τ24; rw [e, h_n8] at h; omega
  have ne_p6_n8 : p6 ≠ n8 := fun e => by have h := t_p6_τ24; rw [e, h_n8] at h; omega
  have ne_q6_n8 : q6 ≠ n8 := fun e => by have h := t_q6_τ24; rw [e, h_n8] at h; omega
  have ne_p7_n8 : p7 ≠ n8 := fun e => by have h := t_p7_τ24; rw [e, h_n8] at h; omega
  have ne_q7_n8 : q7 ≠ n8 := fun e => by have h := t_q7_τ24; rw [e, h_n8] at h; omega
  have ne_c7_n8 : c7 ≠ n8 := fun e => by have h := t_c7_τ24; rw [e, h_n8] at h; omega
  have ne_p8_n8 : p8 ≠ n8 := fun e => by have h := t_p8_τ24; rw [e, h_n8] at h; omega
  have ne_s8_n8 : s8 ≠ n8 := fun e => by have h := t_s8_τ24; rw [e, h_n8] at h; omega
  have F_τ25 : fg_ τ24 τ25 := by rw [e_τ25]; exact fg_newA h_n8
  have t_L_τ25 : xt τ25 L = 13 := fg_tag F_τ25 t_L_τ24 (by decide)
  have t_p1_τ25 : xt τ25 p1 = 1 := fg_tag F_τ25 t_p1_τ24 (by decide)
  have t_p2_τ25 : xt τ25 p2 = 1 := fg_tag F_τ25 t_p2_τ24 (by decide)
  have t_p3_τ25 : xt τ25 p3 = 1 := fg_tag F_τ25 t_p3_τ24 (by decide)
  have t_p4_τ25 : xt τ25 p4 = 1 := fg_tag F_τ25 t_p4_τ24 (by decide)
  have t_p5_τ25 : xt τ25 p5 = 1 := fg_tag F_τ25 t_p5_τ24 (by decide)
  have t_p6_τ25 : xt τ25 p6 = 11 := fg_tag F_τ25 t_p6_τ24 (by decide)
  have t_q6_τ25 : xt τ25 q6 = 20 := fg_tag F_τ25 t_q6_τ24 (by decide)
  have t_p7_τ25 : xt τ25 p7 = 7 := fg_tag F_τ25 t_p7_τ24 (by decide)
  have t_q7_τ25 : xt τ25 q7 = 12 := fg_tag F_τ25 t_q7_τ24 (by decide)
  have t_c7_τ25 : xt τ25 c7 = 20 := fg_tag F_τ25 t_c7_τ24 (by decide)
  have t_p8_τ25 : xt τ25 p8 = 5 := fg_tag F_τ25 t_p8_τ24 (by decide)
  have t_s8_τ25 : xt τ25 s8 = 20 := fg_tag F_τ25 t_s8_τ24 (by decide)
  have r208_L_τ25 : xr τ25 208 L = some p1 := fg_ref F_τ25 t_L_τ24 (by decide) (by decide) r208_L_τ24
  have r209_L_τ25 : xr τ25 209 L = some p2 := fg_ref F_τ25 t_L_τ24 (by decide) (by decide) r209_L_τ24
  have r210_L_τ25 : xr τ25 210 L = some p3 := fg_ref F_τ25 t_L_τ24 (by decide) (by decide) r210_L_τ24
  have r211_L_τ25 : xr τ25 211 L = some p4 := fg_ref F_τ25 t_L_τ24 (by decide) (by decide) r211_L_τ24
  have r212_L_τ25 : xr τ25 212 L = some p5 := fg_ref F_τ25 t_L_τ24 (by decide) (by decide) r212_L_τ24
  have r176_p6_τ25 : xr τ25 176 p6 = some q6 := fg_ref F_τ25 t_p6_τ24 (by decide) (by decide) r176_p6_τ24
  have r213_L_τ25 : xr τ25 213 L = some p6 := fg_ref F_τ25 t_L_τ24 (by decide) (by decide) r213_L_τ24
  have r192_q7_τ25 : xr τ25 192 q7 = some p6 := fg_ref F_τ25 t_q7_τ24 (by decide) (by decide) r192_q7_τ24
  have r112_p7_τ25 : xr τ25 112 p7 = some q7 := fg_ref F_τ25 t_p7_τ24 (by decide) (by decide) r112_p7_τ24
  have r113_p7_τ25 : xr τ25 113 p7 = some c7 := fg_ref F_τ25 t_p7_τ24 (by decide) (by decide) r113_p7_τ24
  have r214_L_τ25 : xr τ25 214 L = some p7 := fg_ref F_τ25 t_L_τ24 (by decide) (by decide) r214_L_τ24
  have r80_p8_τ25 : xr τ25 80 p8 = some s8 := fg_ref F_τ25 t_p8_τ24 (by decide) (by decide) r80_p8_τ24
  have n_q6_τ25 : xn τ25 q6 = 500 := (F_τ25.2.2.1 q6 (by rw [t_q6_τ24]; decide)).trans n_q6_τ24
  have n_c7_τ25 : xn τ25 c7 = 500 := (F_τ25.2.2.1 c7 (by rw [t_c7_τ24]; decide)).trans n_c7_τ24
  have n_s8_τ25 : xn τ25 s8 = 33 := (F_τ25.2.2.1 s8 (by rw [t_s8_τ24]; decide)).trans n_s8_τ24
  have t_n8_τ25 : xt τ25 n8 = 20 := by rw [e_τ25]; exact va_up_self _ _ _
  have n_n8_τ25 : xn τ25 n8 = 7 := by rw [e_τ25]; exact va_up_self _ _ _
  have C_τ25 : yo0 [(n8, 20), (s8, 20), (p8, 5), (c7, 20), (q7, 12), (p7, 7), (q6, 20), (p6, 11), (p5, 1), (p4, 1), (p3, 1), (p2, 1), (p1, 1), (L, 13)] τ25 := by rw [e_τ25]; exact yo0_newA C_τ24 (by decide)
  have LL_τ25 : ∀ g, yL_ g (va_up (va_up (va_up (va_up (va_up (fun _ => 8) p1 10) p2 8) p3 6) p4 4) p5 9) 14 5 τ25 := fun g => by rw [e_τ25]; exact yL_other (LL_τ24 g) h_n8 z_n8 (by decide) rfl (fun a _ => rfl) (fun a _ => rfl) (fun a q => va_up_ne _ _ q) (fun a q => va_up_ne _ _ q) rfl rfl
  clear e_τ25
  refine ⟨t_p8_τ25, fun τ26 e_τ26 => ?_⟩
  have t_L_τ26 : xt τ26 L = 13 := by rw [e_τ26]; exact t_L_τ25
  have t_p1_τ26 : xt τ26 p1 = 1 := by rw [e_τ26]; exact t_p1_τ25
  have t_p2_τ26 : xt τ26 p2 = 1 := by rw [e_τ26]; exact t_p2_τ25
  have t_p3_τ26 : xt τ26 p3 = 1 := by rw [e_τ26]; exact t_p3_τ25
  have t_p4_τ26 : xt τ26 p4 = 1 := by rw [e_τ26]; exact t_p4_τ25
  have t_p5_τ26 : xt τ26 p5 = 1 := by rw [e_τ26]; exact t_p5_τ25
  have t_p6_τ26 : xt τ26 p6 = 11 := by rw [e_τ26]; exact t_p6_τ25
  have t_q6_τ26 : xt τ26 q6 = 20 := by rw [e_τ26]; exact t_q6_τ25
  have t_p7_τ26 : xt τ26 p7 = 7 := by rw [e_τ26]; exact t_p7_τ25
  have t_q7_τ26 : xt τ26 q7 = 12 := by rw [e_τ26]; exact t_q7_τ25
  have t_c7_τ26 : xt τ26 c7 = 20 := by rw [e_τ26]; exact t_c7_τ25
  have t_p8_τ26 : xt τ26 p8 = 5 := by rw [e_τ26]; exact t_p8_τ25
  have t_s8_τ26 : xt τ26 s8 = 20 := by rw [e_τ26]; exact t_s8_τ25
  have t_n8_τ26 : xt τ26 n8 = 20 := by rw [e_τ26]; exact t_n8_τ25
  have r208_L_τ26 : xr τ26 208 L = some p1 := by rw [e_τ26]; exact fg_srX r208_L_τ25 (fun h => absurd h.1 (by decide))
  have r209_L_τ26 : xr τ26 209 L = some p2 := by rw [e_τ26]; exact fg_srX r209_L_τ25 (fun h => absurd h.1 (by decide))
  have r210_L_τ26 : xr τ26 210 L = some p3 := by rw [e_τ26]; exact fg_srX r210_L_τ25 (fun h => absurd h.1 (by decide))
  have r211_L_τ26 : xr τ26 211 L = some p4 := by rw [e_τ26]; exact fg_srX r211_L_τ25 (fun h => absurd h.1 (by decide))
  have r212_L_τ26 : xr τ26 212 L = some p5 := by rw [e_τ26]; exact fg_srX r212_L_τ25 (fun h => absurd h.1 (by decide))
  have r176_p6_τ26 : xr τ26 176 p6 = some q6 := by rw [e_τ26]; exact fg_srX r176_p6_τ25 (fun h => absurd h.1 (by decide))
  have r213_L_τ26 : xr τ26 213 L = some p6 := by rw [e_τ26]; exact fg_srX r213_L_τ25 (fun h => absurd h.1 (by decide))
  have r192_q7_τ26 : xr τ26 192 q7 = some p6 := by rw [e_τ26]; exact fg_srX r192_q7_τ25 (fun h => absurd h.1 (by decide))
  have r112_p7_τ26 : xr τ26 112 p7 = some q7 := by rw [e_τ26]; exact fg_srX r112_p7_τ25 (fun h => absurd h.1 (by decide))
  have r113_p7_τ26 : xr τ26 113 p7 = some c7 := by rw [e_τ26]; exact fg_srX r113_p7_τ25 (fun h => absurd h.1 (by decide))
  have r214_L_τ26 : xr τ26 214 L = some p7 := by rw [e_τ26]; exact fg_srX r214_L_τ25 (fun h => absurd h.1 (by decide))
  have r80_p8_τ26 : xr τ26 80 p8 = some s8 := by rw [e_τ26]; exact fg_srX r80_p8_τ25 (fun h => absurd h.1 (by decide))
  have n_q6_τ26 : xn τ26 q6 = 500 := by rw [e_τ26]; exact n_q6_τ25
  have n_c7_τ26 : xn τ26 c7 = 500 := by rw [e_τ26]; exact n_c7_τ25
  have n_s8_τ26 : xn τ26 s8 = 33 := by rw [e_τ26]; exact n_s8_τ25
  have n_n8_τ26 : xn τ26 n8 = 7 := by rw [e_τ26]; exact n_n8_τ25
  have r81_p8_τ26 : xr τ26 81 p8 = some n8 := by rw [e_τ26]; exact va_up_self _ _ _
  have C_τ26 : yo0 [(n8, 20), (s8, 20), (p8, 5), (c7, 20), (q7, 12), (p7, 7), (q6, 20), (p6, 11), (p5, 1), (p4, 1), (p3, 1), (p2, 1), (p1, 1), (L, 13)] τ26 := by rw [e_τ26]; exact C_τ25
  have LL_τ26 : ∀ g, yL_ g (va_up (va_up (va_up (va_up (va_up (fun _ => 8) p1 10) p2 8) p3 6) p4 4) p5 9) 14 5 τ26 := by rw [e_τ26]; exact LL_τ25
  clear e_τ26
  refine ⟨t_L_τ26, fun τ27 e_τ27 => ?_⟩
  have t_L_τ27 : xt τ27 L = 13 := by rw [e_τ27]; exact t_L_τ26
  have t_p1_τ27 : xt τ27 p1 = 1 := by rw [e_τ27]; exact t_p1_τ26
  have t_p2_τ27 : xt τ27 p2 = 1 := by rw [e_τ27]; exact t_p2_τ26
  have t_p3_τ27 : xt τ27 p3 = 1 := by rw [e_τ27]; exact t_p3_τ26
  have t_p4_τ27 : xt τ27 p4 = 1 := by rw [e_τ27]; exact t_p4_τ26
  have t_p5_τ27 : xt τ27 p5 = 1 := by rw [e_τ27]; exact t_p5_τ26
  have t_p6_τ27 : xt τ27 p6 = 11 := by rw [e_τ27]; exact t_p6_τ26
  have t_q6_τ27 : xt τ27 q6 = 20 := by rw [e_τ27]; exact t_q6_τ26
  have t_p7_τ27 : xt τ27 p7 = 7 := by rw [e_τ27]; exact t_p7_τ26
  have t_q7_τ27 : xt τ27 q7 = 12 := by rw [e_τ27]; exact t_q7_τ26
  have t_c7_τ27 : xt τ27 c7 = 20 := by rw [e_τ27]; exact t_c7_τ26
  have t_p8_τ27 : xt τ27 p8 = 5 := by rw [e_τ27]; exact t_p8_τ26
  have t_s8_τ27 : xt τ27 s8 = 20 := by rw [e_τ27]; exact t_s8_τ26
  have t_n8_τ27 : xt τ27 n8 = 20 := by rw [e_τ27]; exact t_n8_τ26
  have r208_L_τ27 : xr τ27 208 L = some p1 := by rw [e_τ27]; exact fg_srX r208_L_τ26 (fun h => absurd h.1 (by decide))
  have r209_L_τ27 : xr τ27 209 L = some p2 := by rw [e_τ27]; exact fg_srX r209_L_τ26 (fun h => absurd h.1 (by decide))
  have r210_L_τ27 : xr τ27 210 L = some p3 := by rw [e_τ27]; exact fg_srX r210_L_τ26 (fun h => absurd h.1 (by decide))
  have r211_L_τ27 : xr τ27 211 L = some p4 := by rw [e_τ27]; exact fg_srX r211_L_τ26 (fun h => absurd h.1 (by decide))
  have r212_L_τ27 : xr τ27 212 L = some p5 := by rw [e_τ27]; exact fg_srX r212_L_τ26 (fun h => absurd h.1 (by decide))
  have r176_p6_τ27 : xr τ27 176 p6 = some q6 := by rw [e_τ27]; exact fg_srX r176_p6_τ26 (fun h => absurd h.1 (by decide))
  have r213_L_τ27 : xr τ27 213 L = some p6 := by rw [e_τ27]; exact fg_srX r213_L_τ26 (fun h => absurd h.1 (by decide))
  have r192_q7_τ27 : xr τ27 192 q7 = some p6 := by rw [e_τ27]; exact fg_srX r192_q7_τ26 (fun h => absurd h.1 (by decide))
  have r112_p7_τ27 : xr τ27 112 p7 = some q7 := by rw [e_τ27]; exact fg_srX r112_p7_τ26 (fun h => absurd h.1 (by decide))
  have r113_p7_τ27 : xr τ27 113 p7 = some c7 := by rw [e_τ27]; exact fg_srX r113_p7_τ26 (fun h => absurd h.1 (by decide))
  have r214_L_τ27 : xr τ27 214 L = some p7 := by rw [e_τ27]; exact fg_srX r214_L_τ26 (fun h => absurd h.1 (by decide))
  have r80_p8_τ27 : xr τ27 80 p8 = some s8 := by rw [e_τ27]; exact fg_srX r80_p8_τ26 (fun h => absurd h.1 (by decide))
  have r81_p8_τ27 : xr τ27 81 p8 = some n8 := by rw [e_τ27]; exact fg_srX r81_p8_τ26 (fun h => absurd h.1 (by decide))
  have n_q6_τ27 : xn τ27 q6 = 500 := by rw [e_τ27]; exact n_q6_τ26
  have n_c7_τ27 : xn τ27 c7 = 500 := by rw [e_τ27]; exact n_c7_τ26
  have n_s8_τ27 : xn τ27 s8 = 33 := by rw [e_τ27]; exact n_s8_τ26
  have n_n8_τ27 : xn τ27 n8 = 7 := by rw [e_τ27]; exact n_n8_τ26
  have r215_L_τ27 : xr τ27 215 L = some p8 := by rw [e_τ27]; exact va_up_self _ _ _
  have C_τ27 : yo0 [(n8, 20), (s8, 20), (p8, 5), (c7, 20), (q7, 12), (p7, 7), (q6, 20), (p6, 11), (p5, 1), (p4, 1), (p3, 1), (p2, 1), (p1, 1), (L, 13)] τ27 := by rw [e_τ27]; exact C_τ26
  have LL_τ27 : ∀ g, yL_ g (va_up (va_up (va_up (va_up (va_up (fun _ => 8) p1 10) p2 8) p3 6) p4 4) p5 9) 14 5 τ27 := by rw [e_τ27]; exact LL_τ26
  clear e_τ27
  refine ⟨ry_room (LL_τ27 (fun _ => 0)) (by decide) (by decide), by decide, by decide, fun p9 h_p9 z_p9 τ28 e_τ28 => ?_⟩
  have ne_L_p9 : L ≠ p9 := fun e => by have h := t_L_τ27; rw [e, h_p9] at h; omega
  have ne_p1_p9 : p1 ≠ p9 := fun e => by have h := t_p1_τ27; rw [e, h_p9] at h; omega
  have ne_p2_p9 : p2 ≠ p9 := fun e => by have h := t_p2_τ27; rw [e, h_p9] at h; omega
  have ne_p3_p9 : p3 ≠ p9 := fun e => by have h := t_p3_τ27; rw [e, h_p9] at h; omega
  have ne_p4_p9 : p4 ≠ p9 := fun e => by have h := t_p4_τ27; rw [e, h_p9] at h; omega
  have ne_p5_p9 : p5 ≠ p9 := fun e => by have h := t_p5_τ27; rw [e, h_p9] at h; omega
  have ne_p6_p9 : p6 ≠ p9 := fun e => by have h := t_p6_τ27; rw [e, h_p9] at h; omega
  have ne_q6_p9 : q6 ≠ p9 := fun e => by have h := t_q6_τ27; rw [e, h_p9] at h; omega
  have ne_p7_p9 : p7 ≠ p9 := fun e => by have h := t_p7_τ27; rw [e, h_p9] at h; omega
  have ne_q7_p9 : q7 ≠ p9 := fun e => by have h := t_q7_τ27; rw [e, h_p9] at h; omega
  have ne_c7_p9 : c7 ≠ p9 := fun e => by have h := t_c7_τ27; rw [e, h_p9] at h; omega
  have ne_p8_p9 : p8 ≠ p9 := fun e => by have h := t_p8_τ27; rw [e, h_p9] at h; omega
  have ne_s8_p9 : s8 ≠ p9 := fun e => by have h := t_s8_τ27; rw [e, h_p9] at h; omega
  have ne_n8_p9 : n8 ≠ p9 := fun e => by have h := t_n8_τ27; rw [e, h_p9] at h; omega
  have F_τ28 : fg_ τ27 τ28 := by rw [e_τ28]; exact fg_newA h_p9
  have t_L_τ28 : xt τ28 L = 13 := fg_tag F_τ28 t_L_τ27 (by decide)
  have t_p1_τ28 : xt τ28 p1 = 1 := fg_tag F_τ28 t_p1_τ27 (by decide)
  have t_p2_τ28 : xt τ28 p2 = 1 := fg_tag F_τ28 t_p2_τ27 (by decide)
  have t_p3_τ28 : xt τ28 p3 = 1 := fg_tag F_τ28 t_p3_τ27 (by decide)
  have t_p4_τ28 : xt τ28 p4 = 1 := fg_tag F_τ28 t_p4_τ27 (by decide)
  have t_p5_τ28 : xt τ28 p5 = 1 := fg_tag F_τ28 t_p5_τ27 (by decide)
  have t_p6_τ28 : xt τ28 p6 = 11 := fg_tag F_τ28 t_p6_τ27 (by decide)
  have t_q6_τ28 : xt τ28 q6 = 20 := fg_tag F_τ28 t_q6_τ27 (by decide)
  have t_p7_τ28 : xt τ28 p7 = 7 := fg_tag F_τ28 t_p7_τ27 (by decide)
  have t_q7_τ28 : xt τ28 q7 = 12 := fg_tag F_τ28 t_q7_τ27 (by decide)
  have t_c7_τ28 : xt τ28 c7 = 20 := fg_tag F_τ28 t_c7_τ27 (by decide)
  have t_p8_τ28 : xt τ28 p8 = 5 := fg_tag F_τ28 t_p8_τ27 (by decide)
  have t_s8_τ28 : xt τ28 s8 = 20 := fg_tag F_τ28 t_s8_τ27 (by decide)
  have t_n8_τ28 : xt τ28 n8 = 20 := fg_tag F_τ28 t_n8_τ27 (by decide)
  have r208_L_τ28 : xr τ28 208 L = some p1 := fg_ref F_τ28 t_L_τ27 (by decide) (by decide) r208_L_τ27
  have r209_L_τ28 : xr τ28 209 L = some p2 := fg_ref F_τ28 t_L_τ27 (by decide) (by decide) r209_L_τ27
  have r210_L_τ28 : xr τ28 210 L = some p3 := fg_ref F_τ28 t_L_τ27 (by decide) (by decide) r210_L_τ27
  have r211_L_τ28 : xr τ28 211 L = some p4 := fg_ref F_τ28 t_L_τ27 (by decide) (by decide) r211_L_τ27
  have r212_L_τ28 : xr τ28 212 L = some p5 := fg_ref F_τ28 t_L_τ27 (by decide) (by decide) r212_L_τ27
  have r176_p6_τ28 : xr τ28 176 p6 = some q6 := fg_ref F_τ28 t_p6_τ27 (by decide) (by decide) r176_p6_τ27
  have r213_L_τ28 : xr τ28 213 L = some p6 := fg_ref F_τ28 t_L_τ27 (by decide) (by decide) r213_L_τ27
  have r192_q7_τ28 : xr τ28 192 q7 = some p6 := fg_ref F_τ28 t_q7_τ27 (by decide) (by decide) r192_q7_τ27
  have r112_p7_τ28 : xr τ28 112 p7 = some q7 := fg_ref F_τ28 t_p7_τ27 (by decide) (by decide) r112_p7_τ27
  have r113_p7_τ28 : xr τ28 113 p7 = some c7 := fg_ref F_τ28 t_p7_τ27 (by decide) (by decide) r113_p7_τ27
  have r214_L_τ28 : xr τ28 214 L = some p7 := fg_ref F_τ28 t_L_τ27 (by decide) (by decide) r214_L_τ27
  have r80_p8_τ28 : xr τ28 80 p8 = some s8 := fg_ref F_τ28 t_p8_τ27 (by decide) (by decide) r80_p8_τ27
  have r81_p8_τ28 : xr τ28 81 p8 = some n8 := fg_ref F_τ28 t_p8_τ27 (by decide) (by decide) r81_p8_τ27
  have r215_L_τ28 : xr τ28 215 L = some p8 := fg_ref F_τ28 t_L_τ27 (by decide) (by decide) r215_L_τ27
  have n_q6_τ28 : xn τ28 q6 = 500 := (F_τ28.2.2.1 q6 (by rw [t_q6_τ27]; decide)).trans n_q6_τ27
  have n_c7_τ28 : xn τ28 c7 = 500 := (F_τ28.2.2.1 c7 (by rw [t_c7_τ27]; decide)).trans n_c7_τ27
  have n_s8_τ28 : xn τ28 s8 = 33 := (F_τ28.2.2.1 s8 (by rw [t_s8_τ27]; decide)).trans n_s8_τ27
  have n_n8_τ28 : xn τ28 n8 = 7 := (F_τ28.2.2.1 n8 (by rw [t_n8_τ27]; decide)).trans n_n8_τ27
  have t_p9_τ28 : xt τ28 p9 = 21 := by rw [e_τ28]; exact va_up_self _ _ _
  have n_p9_τ28 : xn τ28 p9 = 16 := by rw [e_τ28]; exact va_up_self _ _ _
  have C_τ28 : yo0 [(p9, 21), (n8, 20), (s8, 20), (p8, 5), (c7, 20), (q7, 12), (p7, 7), (q6, 20), (p6, 11), (p5, 1), (p4, 1), (p3, 1), (p2, 1), (p1, 1), (L, 13)] τ28 := by rw [e_τ28]; exact yo0_newA C_τ27 (by decide)
  have LL_τ28 : ∀ g, yL_ g (va_up (va_up (va_up (va_up (va_up (fun _ => 8) p1 10) p2 8) p3 6) p4 4) p5 9) 15 5 τ28 := fun g => by rw [e_τ28]; exact yL_other (LL_τ27 g) h_p9 z_p9 (by decide) rfl (fun a _ => rfl) (fun a _ => rfl) (fun a q => va_up_ne _ _ q) (fun a q => va_up_ne _ _ q) rfl rfl
  clear e_τ28
  refine ⟨t_L_τ28, fun τ29 e_τ29 => ?_⟩
  have t_L_τ29 : xt τ29 L = 13 := by rw [e_τ29]; exact t_L_τ28
  have t_p1_τ29 : xt τ29 p1 = 1 := by rw [e_τ29]; exact t_p1_τ28
  have t_p2_τ29 : xt τ29 p2 = 1 := by rw [e_τ29]; exact t_p2_τ28
  have t_p3_τ29 : xt τ29 p3 = 1 := by rw [e_τ29]; exact t_p3_τ28
  have t_p4_τ29 : xt τ29 p4 = 1 := by rw [e_τ29]; exact t_p4_τ28
  have t_p5_τ29 : xt τ29 p5 = 1 := by rw [e_τ29]; exact t_p5_τ28
  have t_p6_τ29 : xt τ29 p6 = 11 := by rw [e_τ29]; exact t_p6_τ28
  have t_q6_τ29 : xt τ29 q6 = 20 := by rw [e_τ29]; exact t_q6_τ28
  have t_p7_τ29 : xt τ29 p7 = 7 := by rw [e_τ29]; exact t_p7_τ28
  have t_q7_τ29 : xt τ29 q7 = 12 := by rw [e_τ29]; exact t_q7_τ28
  have t_c7_τ29 : xt τ29 c7 = 20 := by rw [e_τ29]; exact t_c7_τ28
  have t_p8_τ29 : xt τ29 p8 = 5 := by rw [e_τ29]; exact t_p8_τ28
  have t_s8_τ29 : xt τ29 s8 = 20 := by rw [e_τ29]; exact t_s8_τ28
  have t_n8_τ29 : xt τ29 n8 = 20 := by rw [e_τ29]; exact t_n8_τ28
  have t_p9_τ29 : xt τ29 p9 = 21 := by rw [e_τ29]; exact t_p9_τ28
  have r208_L_τ29 : xr τ29 208 L = some p1 := by rw [e_τ29]; exact fg_srX r208_L_τ28 (fun h => absurd h.1 (by decide))
  have r209_L_τ29 : xr τ29 209 L = some p2 := by rw [e_τ29]; exact fg_srX r209_L_τ28 (fun h => absurd h.1 (by decide))
  have r210_L_τ29 : xr τ29 210 L = some p3 := by rw [e_τ29]; exact fg_srX r210_L_τ28 (fun h => absurd h.1 (by decide))
  have r211_L_τ29 : xr τ29 211 L = some p4 := by rw [e_τ29]; exact fg_srX r211_L_τ28 (fun h => absurd h.1 (by decide))
  have r212_L_τ29 : xr τ29 212 L = some p5 := by rw [e_τ29]; exact fg_srX r212_L_τ28 (fun h => absurd h.1 (by decide))
  have r176_p6_τ29 : xr τ29 176 p6 = some q6 := by rw [e_τ29]; exact fg_srX r176_p6_τ28 (fun h => absurd h.1 (by decide))
  have r213_L_τ29 : xr τ29 213 L = some p6 := by rw [e_τ29]; exact fg_srX r213_L_τ28 (fun h => absurd h.1 (by decide))
  have r192_q7_τ29 : xr τ29 192 q7 = some p6 := by rw [e_τ29]; exact fg_srX r192_q7_τ28 (fun h => absurd h.1 (by decide))
  have r112_p7_τ29 : xr τ29 112 p7 = some q7 := by rw [e_τ29]; exact fg_srX r112_p7_τ28 (fun h => absurd h.1 (by decide))
  have r113_p7_τ29 : xr τ29 113 p7 = some c7 := by rw [e_τ29]; exact fg_srX r113_p7_τ28 (fun h => absurd h.1 (by decide))
  have r214_L_τ29 : xr τ29 214 L = some p7 := by rw [e_τ29]; exact fg_srX r214_L_τ28 (fun h => absurd h.1 (by decide))
  have r80_p8_τ29 : xr τ29 80 p8 = some s8 := by rw [e_τ29]; exact fg_srX r80_p8_τ28 (fun h => absurd h.1 (by decide))
  have r81_p8_τ29 : xr τ29 81 p8 = some n8 := by rw [e_τ29]; exact fg_srX r81_p8_τ28 (fun h => absurd h.1 (by decide))
  have r215_L_τ29 : xr τ29 215 L = some p8 := by rw [e_τ29]; exact fg_srX r215_L_τ28 (fun h => absurd h.1 (by decide))
  have n_q6_τ29 : xn τ29 q6 = 500 := by rw [e_τ29]; exact n_q6_τ28
  have n_c7_τ29 : xn τ29 c7 = 500 := by rw [e_τ29]; exact n_c7_τ28
  have n_s8_τ29 : xn τ29 s8 = 33 := by rw [e_τ29]; exact n_s8_τ28
  have n_n8_τ29 : xn τ29 n8 = 7 := by rw [e_τ29]; exact n_n8_τ28
  have n_p9_τ29 : xn τ29 p9 = 16 := by rw [e_τ29]; exact n_p9_τ28
  have r216_L_τ29 : xr τ29 216 L = some p9 := by rw [e_τ29]; exact va_up_self _ _ _
  have C_τ29 : yo0 [(p9, 21), (n8, 20), (s8, 20), (p8, 5), (c7, 20), (q7, 12), (p7, 7), (q6, 20), (p6, 11), (p5, 1), (p4, 1), (p3, 1), (p2, 1), (p1, 1), (L, 13)] τ29 := by rw [e_τ29]; exact C_τ28
  have LL_τ29 : ∀ g, yL_ g (va_up (va_up (va_up (va_up (va_up (fun _ => 8) p1 10) p2 8) p3 6) p4 4) p5 9) 15 5 τ29 := by rw [e_τ29]; exact LL_τ28
  clear e_τ29
  intro τ30 e_τ30
  have t_L_τ30 : xt τ30 L = 13 := by rw [e_τ30]; exact t_L_τ29
  have t_p1_τ30 : xt τ30 p1 = 1 := by rw [e_τ30]; exact t_p1_τ29
  have t_p2_τ30 : xt τ30 p2 = 1 := by rw [e_τ30]; exact t_p2_τ29
  have t_p3_τ30 : xt τ30 p3 = 1 := by rw [e_τ30]; exact t_p3_τ29
  have t_p4_τ30 : xt τ30 p4 = 1 := by rw [e_τ30]; exact t_p4_τ29
  have t_p5_τ30 : xt τ30 p5 = 1 := by rw [e_τ30]; exact t_p5_τ29
  have t_p6_τ30 : xt τ30 p6 = 11 := by rw [e_τ30]; exact t_p6_τ29
  have t_q6_τ30 : xt τ30 q6 = 20 := by rw [e_τ30]; exact t_q6_τ29
  have t_p7_τ30 : xt τ30 p7 = 7 := by rw [e_τ30]; exact t_p7_τ29
  have t_q7_τ30 : xt τ30 q7 = 12 := by rw [e_τ30]; exact t_q7_τ29
  have t_c7_τ30 : xt τ30 c7 = 20 := by rw [e_τ30]; exact t_c7_τ29
  have t_p8_τ30 : xt τ30 p8 = 5 := by rw [e_τ30]; exact t_p8_τ29
  have t_s8_τ30 : xt τ30 s8 = 20 := by rw [e_τ30]; exact t_s8_τ29
  have t_n8_τ30 : xt τ30 n8 = 20 := by rw [e_τ30]; exact t_n8_τ29
  have t_p9_τ30 : xt τ30 p9 = 21 := by rw [e_τ30]; exact t_p9_τ29
  have r208_L_τ30 : xr τ30 208 L = some p1 := by rw [e_τ30]; exact r208_L_τ29
  have r209_L_τ30 : xr τ30 209 L = some p2 := by rw [e_τ30]; exact r209_L_τ29
  have r210_L_τ30 : xr τ30 210 L = some p3 := by rw [e_τ30]; exact r210_L_τ29
  have r211_L_τ30 : xr τ30 211 L = some p4 := by rw [e_τ30]; exact r211_L_τ29
  have r212_L_τ30 : xr τ30 212 L = some p5 := by rw [e_τ30]; exact r212_L_τ29
  have r176_p6_τ30 : xr τ30 176 p6 = some q6 := by rw [e_τ30]; exact r176_p6_τ29
  have r213_L_τ30 : xr τ30 213 L = some p6 := by rw [e_τ30]; exact r213_L_τ29
  have r192_q7_τ30 : xr τ30 192 q7 = some p6 := by rw [e_τ30]; exact r192_q7_τ29
  have r112_p7_τ30 : xr τ30 112 p7 = some q7 := by rw [e_τ30]; exact r112_p7_τ29
  have r113_p7_τ30 : xr τ30 113 p7 = some c7 := by rw [e_τ30]; exact r113_p7_τ29
  have r214_L_τ30 : xr τ30 214 L = some p7 := by rw [e_τ30]; exact r214_L_τ29
  have r80_p8_τ30 : xr τ30 80 p8 = some s8 := by rw [e_τ30]; exact r80_p8_τ29
  have r81_p8_τ30 : xr τ30 81 p8 = some n8 := by rw [e_τ30]; exact r81_p8_τ29
  have r215_L_τ30 : xr τ30 215 L = some p8 := by rw [e_τ30]; exact r215_L_τ29
  have r216_L_τ30 : xr τ30 216 L = some p9 := by rw [e_τ30]; exact r216_L_τ29
  have n_q6_τ30 : xn τ30 q6 = 500 := by rw [e_τ30]; exact n_q6_τ29
  have n_c7_τ30 : xn τ30 c7 = 500 := by rw [e_τ30]; exact n_c7_τ29
  have n_s8_τ30 : xn τ30 s8 = 33 := by rw [e_τ30]; exact n_s8_τ29
  have n_n8_τ30 : xn τ30 n8 = 7 := by rw [e_τ30]; exact n_n8_τ29
  have n_p9_τ30 : xn τ30 p9 = 16 := by rw [e_τ30]; exact n_p9_τ29
  have C_τ30 : yo0 [(p9, 21), (n8, 20), (s8, 20), (p8, 5), (c7, 20), (q7, 12), (p7, 7), (q6, 20), (p6, 11), (p5, 1), (p4, 1), (p3, 1), (p2, 1), (p1, 1), (L, 13)] τ30 := by rw [e_τ30]; exact yo0_219 C_τ29
  have LL_τ30 : ∀ g, yL_ g (va_up (va_up (va_up (va_up (va_up (fun _ => 8) p1 10) p2 8) p3 6) p4 4) p5 9) 15 5 τ30 := by rw [e_τ30]; exact LL_τ29
  obtain ⟨g, eg⟩ : ∃ g : Nat → Nat, g = fun i => match i with | 0 => L | 1 => p1 | 2 => p2 | 3 => p3 | 4 => p4 | 5 => p5 | 6 => p6 | 7 => p7 | 8 => p8 | _ => p9 := ⟨_, rfl⟩
  have g10 : g 10 = p9 := congrFun eg 10
  have g0 : g 0 = L := congrFun eg 0
  have g1 : g 1 = p1 := congrFun eg 1
  have g2 : g 2 = p2 := congrFun eg 2
  have g3 : g 3 = p3 := congrFun eg 3
  have g4 : g 4 = p4 := congrFun eg 4
  have g5 : g 5 = p5 := congrFun eg 5
  have g6 : g 6 = p6 := congrFun eg 6
  have g7 : g 7 = p7 := congrFun eg 7
  have g8 : g 8 = p8 := congrFun eg 8
  have g9 : g 9 = p9 := congrFun eg 9
  clear eg
  have z : ∀ a t, xt τ30 a = t → t ≠ 0 → t ≠ 20 → t ≠ 21 → ∀ f, f ≠ 219 → xi τ30 f a = 0 := fun a t h h0 h1 h2 f hf => C_τ30.2 a (by rw [h]; exact h0) (by rw [h]; exact h1) (by rw [h]; exact h2) f hf
  have only : ∀ a t, xt τ30 a = t → t ≠ 0 → (a, t) ∈ [(p9, 21), (n8, 20), (s8, 20), (p8, 5), (c7, 20), (q7, 12), (p7, 7), (q6, 20), (p6, 11), (p5, 1), (p4, 1), (p3, 1), (p2, 1), (p1, 1), (L, 13)] := fun a t h h0 => by have q := C_τ30.1 a (by rw [h]; exact h0); rw [h] at q; exact q
  have no : ∀ a t, xt τ30 a = t → t = 2 ∨ t = 3 ∨ t = 4 ∨ t = 6 ∨ t = 8 ∨ t = 9 ∨ t = 10 → False := fun a t h ht => by
    have q := only a t h (by omega)
    simp only [List.mem_cons, Prod.mk.injEq, List.not_mem_nil, or_false] at q
    omega
  have u5 : ∀ a, xt τ30 a = 5 → a = p8 := fun a h => by
    have q := only a 5 h (by decide)
    simp only [List.mem_cons, Prod.mk.injEq, List.not_mem_nil, or_false] at q
    omega
  have u7 : ∀ a, xt τ30 a = 7 → a = p7 := fun a h => by
    have q := only a 7 h (by decide)
    simp only [List.mem_cons, Prod.mk.injEq, List.not_mem_nil, or_false] at q
    omega
  have u11 : ∀ a, xt τ30 a = 11 → a = p6 := fun a h => by
    have q := only a 11 h (by decide)
    simp only [List.mem_cons, Prod.mk.injEq, List.not_mem_nil, or_false] at q
    omega
  have u12 : ∀ a, xt τ30 a = 12 → a = q7 := fun a h => by
    have q := only a 12 h (by decide)
    simp only [List.mem_cons, Prod.mk.injEq, List.not_mem_nil, or_false] at q
    omega
  have k1 : (va_up (va_up (va_up (va_up (va_up (fun _ => 8) p1 10) p2 8) p3 6) p4 4) p5 9) p1 = 10 := by rw [va_up_ne _ _ ne_p1_p5, va_up_ne _ _ ne_p1_p4, va_up_ne _ _ ne_p1_p3, va_up_ne _ _ ne_p1_p2, va_up_self]
  have k2 : (va_up (va_up (va_up (va_up (va_up (fun _ => 8) p1 10) p2 8) p3 6) p4 4) p5 9) p2 = 8 := by rw [va_up_ne _ _ ne_p2_p5, va_up_ne _ _ ne_p2_p4, va_up_ne _ _ ne_p2_p3, va_up_self]
  have k3 : (va_up (va_up (va_up (va_up (va_up (fun _ => 8) p1 10) p2 8) p3 6) p4 4) p5 9) p3 = 6 := by rw [va_up_ne _ _ ne_p3_p5, va_up_ne _ _ ne_p3_p4, va_up_self]
  have k4 : (va_up (va_up (va_up (va_up (va_up (fun _ => 8) p1 10) p2 8) p3 6) p4 4) p5 9) p4 = 4 := by rw [va_up_ne _ _ ne_p4_p5, va_up_self]
  have k5 : (va_up (va_up (va_up (va_up (va_up (fun _ => 8) p1 10) p2 8) p3 6) p4 4) p5 9) p5 = 9 := by rw [va_up_self]
  have i1 : xi τ30 18 p1 = 0 := z p1 1 t_p1_τ30 (by decide) (by decide) (by decide) 18 (by decide)
  have i2 : xi τ30 18 p2 = 0 := z p2 1 t_p2_τ30 (by decide) (by decide) (by decide) 18 (by decide)
  have i3 : xi τ30 18 p3 = 0 := z p3 1 t_p3_τ30 (by decide) (by decide) (by decide) 18 (by decide)
  have i4 : xi τ30 18 p4 = 0 := z p4 1 t_p4_τ30 (by decide) (by decide) (by decide) 18 (by decide)
  have i5 : xi τ30 18 p5 = 0 := z p5 1 t_p5_τ30 (by decide) (by decide) (by decide) 18 (by decide)
  have i6 : xi τ30 177 p6 = 0 := z p6 11 t_p6_τ30 (by decide) (by decide) (by decide) 177 (by decide)
  have i0 : xi τ30 217 L = 0 := z L 13 t_L_τ30 (by decide) (by decide) (by decide) 217 (by decide)
  refine ⟨p9, g, (va_up (va_up (va_up (va_up (va_up (fun _ => 8) p1 10) p2 8) p3 6) p4 4) p5 9), 15, 5, g0, g10, ⟨LL_τ30 g, fun a _ => ?_, ?_, fun a => ?_, ?_, fun r hr => ?_, fun r _ => ⟨rfl, rfl, rfl, rfl, rfl⟩, ?_⟩, by decide, by decide⟩
  · refine ⟨fun h => (no a 2 h (by decide)).elim, fun h => (no a 3 h (by decide)).elim, fun h => (no a 4 h (by decide)).elim, fun h => ?_, fun h => (no a 6 h (by decide)).elim, fun h => ?_, fun h => (no a 10 h (by decide)).elim, fun h => ?_, fun h => ?_⟩
    · rw [u5 a h]; exact ⟨⟨s8, r80_p8_τ30, t_s8_τ30, n_s8_τ30⟩, n8, r81_p8_τ30, t_n8_τ30, n_n8_τ30⟩
    · rw [u7 a h]; exact ⟨⟨q7, r112_p7_τ30, t_q7_τ30⟩, c7, r113_p7_τ30, t_c7_τ30, n_c7_τ30⟩
    · rw [u11 a h]; exact ⟨q6, r176_p6_τ30, t_q6_τ30, n_q6_τ30⟩
    · rw [u12 a h]; exact ⟨p6, r192_q7_τ30, t_p6_τ30⟩
  · unfold yG_
    rw [g0, g1, g2, g3, g4, g5, g6, g7, g8, g9, g10]
    exact ⟨t_L_τ30, ⟨r208_L_τ30, t_p1_τ30, k1⟩, ⟨r209_L_τ30, t_p2_τ30, k2⟩, ⟨r210_L_τ30, t_p3_τ30, k3⟩, ⟨r211_L_τ30, t_p4_τ30, k4⟩, ⟨r212_L_τ30, t_p5_τ30, k5⟩, ⟨r213_L_τ30, t_p6_τ30⟩, ⟨r214_L_τ30, t_p7_τ30⟩, ⟨r215_L_τ30, t_p8_τ30⟩, ⟨r216_L_τ30, t_p9_τ30, n_p9_τ30⟩, ⟨t_p9_τ30, by rw [n_p9_τ30]; decide⟩⟩
  · refine ⟨fun h => (no a 2 h (by decide)).elim, fun h => (no a 3 h (by decide)).elim, fun h => ?_, fun h => ?_, fun h => (no a 8 h (by decide)).elim, fun h => (no a 10 h (by decide)).elim, fun h => ?_, fun h _ => ?_⟩
    · rw [z a 5 h (by decide) (by decide) (by decide) 82 (by decide), z a 5 h (by decide) (by decide) (by decide) 83 (by decide)]; decide
    · rw [z a 7 h (by decide) (by decide) (by decide) 114 (by decide)]; decide
    · rw [z a 11 h (by decide) (by decide) (by decide) 177 (by decide)]; decide
    · rw [z a 1 h (by decide) (by decide) (by decide) 18 (by decide), g5, i5]; decide
  · rw [g1, g2, g4, g5, g6, g0, i1, i2, i4, i5, i6, i0]; rfl
  · rw [g1, i1, ki_z0] at hr; omega
  · rw [g1, g3, g4, g5, i1, i3, i4, i5]; decide
