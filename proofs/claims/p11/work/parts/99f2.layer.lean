/-! the full relation at the start -/
theorem fC_hx {k L O : Nat} {s : sz_T} {A : fu_T} {σ u : kx_S} (hk : k < 600) (Z : yZ_ k s L O σ) (VC : fC_ s.1 A L σ) (F : hx_ (fun _ => False) [] σ u) (hV : Yw_ (jn1_ s.1) A.2.1 L u) : fC_ s.1 A L u := by
  obtain ⟨g, κ, B, n, T, N, st, na, tk, ca, tb, eg, J, hBn, n22, hE, hT, _⟩ := fC_open hk Z VC
  subst eg
  obtain ⟨h0, h1, h2, h3, h4, h7, hj, h6, hb, h5⟩ := hE
  have nn : ∀ f ∈ ([] : List Nat), ∀ L : List Nat, f ∉ L := fun f hf => absurd hf (List.not_mem_nil)
  have r1 := q1_hx h1 F (yg1 J).2.1 (fun x => x) (fun r hr x => x) (fun f hf => nn f hf _)
  have r2 := q2_hx h2 h1 F (fun f hf => nn f hf _)
  have r3 := q3_hx h3 F (fun k hk x => x)
  have r4 := q4_hx h4 F (yg2 J).2.1 (fun x => x) (fun f hf => nn f hf _)
  have r5 := q5_hx h5 F (yg4 J).2.1 (fun x => x) (List.not_mem_nil)
  have r6 := q6_hx h6 F (yg5 J).2.1 (fun x => x) (fun r hr hb x => x) (fun f hf => nn f hf _)
  have r7 := q7_hx h7 F (yg3 J).2.1 (fun x => x) (List.not_mem_nil)
  have rj := qj_hx hj F
  have rb : xi u 218 (g 0) = A.1.1 6 0 := by rw [F.2.1 218 _ (List.not_mem_nil) (by decide) (by decide) (by rw [yg0 J]; decide)]; exact hb
  exact ⟨g, T, N, st, na, tk, ca, tb, gG_fg J F.1, n22, ⟨h0, r1, r2, r3, r4, r7, rj, r6, rb, r5⟩, fT_hx hT F (by rw [yg0 J]; decide) (by rw [(yg6 J).2]; decide) (by rw [(yg7 J).2]; decide) (List.not_mem_nil), hV⟩
theorem hx_newO {X : Nat → Prop} {W : List Nat} {σ : kx_S} {p B0 n0 : Nat} {g κ : Nat → Nat} (Ly : yL_ g κ B0 n0 σ) (hp : xt σ p = 0) : hx_ X W σ (xnewO σ p) := by
  have h : hx_ X W σ (xnewA σ p 21 1) := hx_newA hx_refl Ly hp
  exact ⟨h.1, h.2.1, h.2.2.1, h.2.2.2.1, h.2.2.2.2⟩
theorem R0_ : fR_ (A0w_ (wm_ mi_0)) mi_0 := by
  have n : ∀ r : Nat, ¬ r < 0 := Nat.not_lt_zero
  have la0 : ∀ b : Nat, la_ (fun _ => 0) b 0 [] := fun b => ⟨rfl, fun i x hx => by rw [List.getElem?_nil] at hx; cases hx⟩
  exact ⟨⟨⟨fun f _ => rfl, fun k _ => la0 _, fun r _ => la0 _, rfl⟩, ⟨fun x hx => absurd hx (n x), by decide, fun b hb => absurd hb (by show ¬ (b : Int) < 0; omega), fun x hx => absurd hx (n x)⟩⟩, rfl, ⟨rfl, fun i hi => absurd hi (n i), fun l hl => absurd hl (n l)⟩, fun i _ => rfl, rfl⟩
theorem nu_0 : nu_ s0_.1 0 0 0 0 0 := ⟨by decide, by decide, by decide, by decide, rfl⟩
theorem LV_init {q e0 : Nat} : wX11_init q (lz_s q e0) (fun τ => (∃ O, yZ_ 0 s0_ q O τ) ∧ LV_ q τ mi_0) := by
  have hq : xt (lz_s q e0) q ≠ 0 := by rw [lz_s13]; decide
  have V : Yw_ (nr_ mi_0) (wm_ mi_0) q (lz_s q e0) := by
    refine ⟨fun _ => 0, ⟨fun R hR => ?_, fun r hr => absurd hr (Nat.not_lt_zero r)⟩, fun r hr => absurd hr (Nat.not_lt_zero r), rfl, rfl⟩
    have e := lz_st (show xt (lz_s q e0) R ≠ 0 by rw [hR]; decide)
    rw [e, lz_s13] at hR
    exact absurd hR (by decide)
  have w0 : w_ok 0 (wm_ mi_0) := ⟨fun r hr => absurd hr (Nat.not_lt_zero r), fun r _ => ⟨rfl, rfl, rfl, rfl⟩⟩
  have h1 := jcX11_init (Q' := fun u => wf_ q (lz_s q e0) u) (fun u a b => And.intro a b) _ _ (rx_init lz_s13 lz_yo lz_yL) (jfX11_init (I := wf_ q (lz_s q e0)) (wf_fw hq (by decide)) (fun _ i => i) _ _ wf_refl)
  have h2 := jcX11_init (Q' := fun u => z0_ u) (fun u a b => And.intro a b) _ _ h1 (jfX11_init (I := z0_) (z0_fw (by decide)) (fun _ i => i) _ _ ⟨fun _ => rfl, fun _ => rfl, fun _ _ => rfl⟩)
  refine jcX11_init (fun u a b => ?_) _ _ h2 vq_init0
  obtain ⟨⟨⟨O, Z⟩, wf⟩, z⟩ := a
  exact ⟨⟨O, Z⟩, A0w_ (wm_ mi_0), fK_of nu_0 (K0_ w0), fC_of nu_0 (C0_ Z b z (Yw_wf V wf)), R0_⟩
theorem LV_newO {q O o : Nat} {σ : kx_S} (Z : yZ_ 0 s0_ q O σ) (V : LV_ q σ mi_0) (h0 : xt σ o = 0) : LV_ q (xnewO σ o) mi_0 := by
  obtain ⟨A, K, VC, VR⟩ := V
  have Z' := Z
  obtain ⟨g, κ, B, n, eg, eO, J, hn, hB⟩ := Z'
  have hV := (lv_of K VC VR).2
  have eA := VR.2.1
  refine ⟨A, K, ?_, VR⟩
  refine fC_hx (s := s0_) (by decide) Z VC (hx_newO J.1 h0) ?_
  rw [← eA]
  refine Yw_wf hV ⟨fun a ha => ?_, fun a ha => ?_, fun a ha => ⟨rfl, rfl, rfl, rfl, rfl, rfl⟩, rfl, rfl⟩
  · exact va_up_ne _ _ (fun e => ha (by rw [e]; exact h0))
  · have ha : va_up (xt σ) o 21 a = 10 := ha
    by_cases c : a = o
    · rw [c, va_up_self] at ha
      exact absurd ha (by decide)
    · rwa [va_up_ne _ _ c] at ha
