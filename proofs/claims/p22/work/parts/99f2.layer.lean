/-! the water layer at the start -/
theorem lv_init {q e0 : Nat} : wX11_init q (lz_s q e0) (fun τ => (∃ O, yZ_ 0 s0_ q O τ) ∧ lv_ q τ mi_0) := by
  have hq : xt (lz_s q e0) q ≠ 0 := by rw [lz_s13]; decide
  have V : Yw_ (nr_ mi_0) (wm_ mi_0) q (lz_s q e0) := by
    refine ⟨fun _ => 0, ⟨fun R hR => ?_, fun r hr => absurd hr (Nat.not_lt_zero r)⟩, fun r hr => absurd hr (Nat.not_lt_zero r), rfl, rfl⟩
    have e := lz_st (show xt (lz_s q e0) R ≠ 0 by rw [hR]; decide)
    rw [e, lz_s13] at hR
    exact absurd hR (by decide)
  refine jcX11_init (Q' := fun u => wf_ q (lz_s q e0) u) (fun u a b => ⟨a, ⟨fun r hr => absurd hr (Nat.not_lt_zero r), fun r _ => ⟨rfl, rfl, rfl, rfl⟩⟩, Yw_wf V b⟩) _ _ (rx_init lz_s13 lz_yo lz_yL) (jfX11_init (I := wf_ q (lz_s q e0)) (wf_fw hq (by decide)) (fun _ i => i) _ _ wf_refl)
theorem lv_newO {q o : Nat} {σ : kx_S} (V : lv_ q σ mi_0) (h0 : xt σ o = 0) (hq : xt σ q ≠ 0) : lv_ q (xnewO σ o) mi_0 := by
  refine ⟨V.1, Yw_wf V.2 ⟨fun a ha => ?_, fun a ha => ?_, fun a ha => ⟨rfl, rfl, rfl, rfl, rfl, rfl⟩, rfl, rfl⟩⟩
  · exact va_up_ne _ _ (fun e => ha (by rw [e]; exact h0))
  · have ha : va_up (xt σ) o 21 a = 10 := ha
    by_cases c : a = o
    · rw [c, va_up_self] at ha
      exact absurd ha (by decide)
    · rwa [va_up_ne _ _ c] at ha
