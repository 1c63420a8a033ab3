theorem rx_moveLogs {s : sz_T} {g κ : Nat → Nat} {B n : Nat} {σ : kx_S} {Q : kx_S → Prop} (J : yJ_ s g κ B n σ) (hB : B ≤ 3000) (hn : n ≤ 200) (kk : ∀ τ, yJ_ s g κ B n τ → fh_ g κ σ τ → Q τ) : wX11_moveLogs (g 0) σ Q := by
  have z6 : (6 : Int32).toInt = 6 := by decide
  have L2 : ∀ (m : Nat) (r : Int32) (τ : kx_S), 0 ≤ r.toInt → r.toInt ≤ 400 → 400 - r.toInt < (m : Int) → yJ_ s g κ B n τ → fh_ g κ σ τ → wX11_moveLogs_2 Q m (g 0) r τ := by
    intro m
    induction m with
    | zero => intro r τ h1 h2 h3; omega
    | succ m ih =>
      intro r τ h1 h2 h3 J1 F1
      have sz := ry_size J1.1 (yg1 J1).2.1
      refine ⟨yg0 J1, g 1, (yg1 J1).1, (yg1 J1).2.1, (yg1 J1).2.1, fun _ => kk τ J1 F1, fun c => ⟨yg0 J1, g 1, (yg1 J1).1, (yg1 J1).2.1, ?_⟩⟩
      rw [ki_le] at c
      obtain ⟨r', er, ii⟩ := ki_incE (a := r) (by omega) (by omega)
      have a1 : 0 ≤ r'.toInt := by omega
      have a2 : r'.toInt ≤ 400 := by omega
      have a3 : 400 - r'.toInt < (m : Int) := by omega
      refine ry_get J1.1 (yg1 J1).2.1 h1 (by omega) (fun R _ tR => ?_)
      rw [(yg1 J1).2.2] at tR
      obtain ⟨_, ⟨l, l1, l2, l3⟩, _⟩ := yp10 J1 tR
      refine ⟨R, rfl, tR, fun sp esp => ⟨l, l1, l2, l2, fun v ev => ⟨402, ?_⟩⟩⟩
      have hs : sp.toInt ≤ 6 := by
        rw [esp]
        split
        · rw [z6]; omega
        · rename_i q; rw [ki_lt, z6] at q; omega
      have szl := ry_size J1.1 l2
      have L55 : ∀ (k : Nat) (c : Int32) (τ2 : kx_S), -1 ≤ c.toInt → c.toInt < (xi τ 18 l).toInt → c.toInt + 1 < (k : Int) → yJ_ s g κ B n τ2 → fh_ g κ τ τ2 → wX11_moveLogs_55 (wX11_moveLogs_78 (wX11_moveLogs_2 Q m) Q) Q k (g 0) r R sp c τ2 := by
        intro k
        induction k with
        | zero => intro c τ2 g1 g2 g3; omega
        | succ k ihk =>
          intro c τ2 g1 g2 g3 J2 F2
          have N : wX11_moveLogs_78 (wX11_moveLogs_2 Q m) Q (g 0) r τ2 := fun w ew => by
            rw [ew, ← er]
            exact ih r' τ2 a1 a2 a3 J2 (fh_trans F1 F2)
          refine ⟨fun _ => N, fun q => ⟨fun _ => N, fun _ => ⟨yg0 J2, ?_⟩⟩⟩
          rw [ki_lt, ki_z0] at q
          obtain ⟨c', ec, dd⟩ := ki_decE (a := c) (by omega)
          have b1 : -1 ≤ c'.toInt := by omega
          have b2 : c'.toInt < (xi τ 18 l).toInt := by omega
          have b3 : c'.toInt + 1 < (k : Int) := by omega
          have b4 : 0 ≤ c.toInt := by omega
          have e2 : xr τ2 163 R = some l := fg_ref F2.1 tR (by decide) (by decide) l1
          have s2 : xi τ2 18 l = xi τ 18 l := F2.2 l l2 (.inl (by rw [l3]; decide))
          refine rx_moveCell J2 hB hn (fg_tag F2.1 tR (by decide)) hs b4 (fun l' el => ?_) (fun τ3 J3 F3 w ew => ?_)
          · rw [e2] at el
            rw [← Option.some.inj el, s2]
            exact g2
          · rw [ew, ← ec]
            exact ihk c' τ3 b1 b2 b3 J3 (fh_trans F2 F3)
      obtain ⟨u, eu, dd⟩ := ki_dec2E (a := xi τ 18 l) (by omega)
      rw [ev, ← eu]
      exact L55 402 u τ (by omega) (by omega) (by omega) J1 fh_refl
  exact ⟨401, L2 401 0 σ (by decide) (by decide) (by decide) J fh_refl⟩
