theorem ki_decE {a : Int32} (h1 : -2147483648 < a.toInt) : ∃ b, b = a + -1 ∧ b.toInt = a.toInt - 1 := ⟨_, rfl, ki_dec h1⟩
theorem ki_incE {a : Int32} (h1 : -2147483649 ≤ a.toInt) (h2 : a.toInt < 2147483647) : ∃ b, b = a + 1 ∧ b.toInt = a.toInt + 1 := ⟨_, rfl, ki_inc h1 h2⟩
theorem ki_dec2E {a : Int32} (h1 : -2147483648 < a.toInt) : ∃ b, b = a - 1 ∧ b.toInt = a.toInt - 1 := ⟨_, rfl, ki_dec2 h1⟩
theorem rx_moveCell {s : sz_T} {g κ : Nat → Nat} {B n : Nat} {σ : kx_S} {R : Nat} {c sp : Int32} {Q : kx_S → Prop} (J : yJ_ s g κ B n σ) (hB : B ≤ 3000) (hn : n ≤ 200) (hR : xt σ R = 10) (hs : sp.toInt ≤ 6) (hc0 : 0 ≤ c.toInt) (hc : ∀ l, xr σ 163 R = some l → c.toInt < (xi σ 18 l).toInt) (kk : ∀ τ, yJ_ s g κ B n τ → fh_ g κ σ τ → Q τ) : wX11_moveLogsOfCell (g 0) R c sp σ Q := by
  obtain ⟨_, ⟨l, l1, l2, l3⟩, _⟩ := yp10 J hR
  refine ⟨hR, l, l1, l2, ?_⟩
  refine ry_get J.1 l2 hc0 (hc l l1) (fun C _ tC => ?_)
  rw [l3] at tC
  obtain ⟨y, y1, y2, y3, y4⟩ := yp3 J tC
  refine ⟨C, rfl, tC, fun _ => ⟨y, y1, y2, y2, ?_⟩, fun _ => kk σ J fh_refl⟩
  have sz := ry_size J.1 y2
  have L : ∀ (m : Nat) (st k : Int32) (τ : kx_S), 0 ≤ st.toInt → st.toInt + k.toInt ≤ 400 → k.toInt < (m : Int) → 0 < m → yJ_ s g κ B n τ → fh_ g κ σ τ → wX11_moveLogsOfCell_39 Q m (g 0) R c sp C st k τ := by
    intro m
    induction m with
    | zero => intro st k τ h1 h2 h3 h4; omega
    | succ m ih =>
      intro st k τ h1 h2 h3 h4 J1 F1
      have tC1 := fg_tag F1.1 tC (by decide)
      have e1 : xr τ 49 C = some y := fg_ref F1.1 tC (by decide) (by decide) y1
      have t1 : xt τ y = 1 := fg_tag F1.1 y2 (by decide)
      refine ⟨fun _ => kk τ J1 F1, fun q => ⟨tC1, y, e1, t1, t1, fun _ => kk τ J1 F1, fun q2 => ⟨tC1, y, e1, t1, ?_⟩⟩⟩
      rw [ki_le, ki_z0] at q
      rw [ki_le] at q2
      obtain ⟨k', ek, dd⟩ := ki_decE (a := k) (by omega)
      obtain ⟨st', est, ii⟩ := ki_incE (a := st) (by omega) (by omega)
      have b0 : 0 ≤ st'.toInt := by omega
      have b1 : st'.toInt + k'.toInt ≤ 400 := by omega
      have b2 : st.toInt + k'.toInt ≤ 400 := by omega
      have b3 : k'.toInt < (m : Int) := by omega
      have b4 : 0 < m := by omega
      have b5 : st.toInt < (xi τ 18 y).toInt := by omega
      refine ry_get J1.1 t1 h1 b5 (fun z _ tz => ?_)
      rw [y3] at tz
      refine ⟨z, rfl, tz, yg0 J1, ?_⟩
      refine rx_movesOn J1 hB hn (fg_tag F1.1 hR (by decide)) tz hs (fun r τ2 K2 => ?_)
      have F2 := fh_trans F1 K2.2.1
      refine ⟨fun _ v ev w ew => ?_, fun _ => ?_⟩
      · rw [ev, ew, ← ek, ← est]
        exact ih st' k' τ2 b0 b1 b3 b4 K2.1 F2
      · have mono := K2.2.2 y t1
        refine ⟨fg_tag F2.1 tC (by decide), y, fg_ref F2.1 tC (by decide) (by decide) y1, fg_tag F2.1 y2 (by decide), ?_⟩
        refine ry_removelog K2.1 (fg_tag F2.1 y2 (by decide)) y3 y4 h1 (Int.lt_of_lt_of_le b5 mono) (fun q3 τ3 J3 F3 _ _ _ w ew => ?_)
        rw [ew, ← ek]
        exact ih st k' τ3 h1 b2 b3 b4 J3 (fh_trans F2 F3)
  have c1 : (0 : Int32).toInt + (xi σ 18 y).toInt ≤ 400 := by rw [ki_z0]; have := sz.2; omega
  have c2 : (xi σ 18 y).toInt < ((402 : Nat) : Int) := by have := sz.2; omega
  have fin := L 402 0 (xi σ 18 y) σ (by decide) c1 c2 (by decide) J fh_refl
  exact ⟨402, fin⟩
