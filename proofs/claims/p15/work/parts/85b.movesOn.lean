theorem rx_movesOn {s : sz_T} {g κ : Nat → Nat} {B n : Nat} {σ : kx_S} {R y : Nat} {c sp : Int32} {Q : Int32 → kx_S → Prop} (J : yJ_ s g κ B n σ) (hB : B ≤ 3000) (hn : n ≤ 200) (hR : xt σ R = 10) (hy : xt σ y = 8) (hs : sp.toInt ≤ 6) (kk : ∀ r τ, yK_ s g κ B n σ τ → Q r τ) : wX11_movesOn (g 0) y R c sp σ Q := by
  have N64 : ∀ (t : Int32) (τ : kx_S), yK_ s g κ B n σ τ → wX11_movesOn_64 Q y R c t τ := fun t τ K => ⟨fun _ => kk 0 τ K, fun _ => ⟨yK_tag K hR (by decide), rx_takes K.1 hB hn (yK_tag K hR (by decide)) (yK_tag K hy (by decide)) (fun r τ2 _ K2 => ⟨fun _ => kk 0 τ2 (yK_trans K K2), fun _ => kk 1 τ2 (yK_trans K K2)⟩)⟩⟩
  obtain ⟨_, ⟨l, l1, l2, l3⟩, _⟩ := yp10 J hR
  have N32 : ∀ t u : Int32, wX11_movesOn_32 Q (g 0) y R c t u σ := fun t u => ⟨fun _ => N64 t σ (yK_refl J), fun _ => ⟨hR, l, l1, l2, l2, fun _ => N64 t σ (yK_refl J), fun _ => ⟨yg0 J, rx_leaves J hB hn hR hy (fun r τ K => ⟨fun _ => N64 t τ K, fun _ => kk 1 τ K⟩)⟩⟩⟩
  have L : ∀ (m : Nat) (t u : Int32), u.toInt ≤ 6 → u.toInt < (m : Int) → 0 < m → wX11_movesOn_7 (wX11_movesOn_32 Q) Q m (g 0) y R c t u σ := by
    intro m
    induction m with
    | zero => intro t u h1 h2 h3; omega
    | succ m ih =>
      intro t u h1 h2 h3
      have k0 : ∀ X : Prop, (((0 : Int32) = 0 → wX11_movesOn_32 Q (g 0) y R c t u σ) ∧ (¬ (0 : Int32) = 0 → X)) := fun X => ⟨fun _ => N32 t u, fun x => absurd rfl x⟩
      refine ⟨fun _ => N32 t u, fun q => ⟨hR, ?_⟩⟩
      rw [ki_le, ki_z0] at q
      have dd := ki_dec (a := u) (by omega)
      have nx : ∀ v, wX11_movesOn_7 (wX11_movesOn_32 Q) Q m (g 0) y R c v (u + -1) σ := fun v => ih v (u + -1) (by omega) (by omega) (by omega)
      refine rx_canTake J hR (k0 _) (fun _ _ _ _ _ _ _ _ _ _ _ _ _ _ _ => ⟨fun x => absurd x (by decide), fun _ v _ w ew => ?_⟩)
      rw [ew]
      exact nx v
  have fin := L 7 c sp hs (by omega) (by decide)
  exact ⟨7, fin⟩
