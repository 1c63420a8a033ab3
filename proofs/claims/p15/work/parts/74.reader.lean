/-! the reader, level by level -/
abbrev rt_ : Type := Int32 → km_S → (km_S → Prop) → Prop
theorem rs_part {re : rt_} {l : Int32} {h : Nat} (h1 : 1 ≤ h) (hre : rs_ h (re (l + 1))) : rs_ h (wX12_readPart re l) := by
  intro M Q T IC kk
  have R200 : ∀ M2, iq_ 65 h M M2 → wX12_readPart_200 re Q M2 := fun M2 R => ⟨fun b => kk M2 (iq_bad R b), fun _ => rz_next R kk⟩
  have B200 : ∀ M2, ke_ [66, 67] [] M M2 → km_i M2 66 ≠ 0 → wX12_readPart_200 re Q M2 := fun M2 K b => R200 M2 (iq_wrong K rfl T b)
  obtain ⟨t1, t2, t3, t4, t5, t6, t7⟩ := id T
  refine ⟨fun b0 => ⟨fun k2 => ⟨fun k1 => ?_, fun k1 => ?_⟩, fun k2 => ?_⟩, fun b0 => kk M (iq_self T b0)⟩
  · have W : ∀ M2, it_ M2 → ke_ iI [56] M M2 → (km_i M 64).toInt ≤ (km_i M2 64).toInt → (∀ y : Nat, y < 900 * (km_i M 5).toNatClampNeg → km_a M2 56 y = km_a M 56 y) → wX12_wrong 1 M2 (fun μ27 => wX12_readPart_200 re Q μ27) := fun M2 T2 K2 l2 s2 => rz_wrong2 (by decide) (fun M3 K3 b3 => R200 M3 (iq_then (p := 65) (h := 0) K2 l2 s2 (iq_wrong K3 rfl T2 b3) b3))
    refine rz_isSign ⟨fun _ => W M T ke_refl (Int.le_refl _) (fun _ _ => rfl), fun x => absurd rfl x⟩ (fun k3 => ⟨fun x => absurd x (by decide), fun _ => ?_⟩)
    refine rz_step2 T (fun M1 K1 T1 l1 => ?_)
    have K1' : ke_ iI [56] M M1 := ke_mono (by decide) (by decide) K1
    have e59 : km_i M1 59 = km_i M 59 := K1.1 59 (by decide)
    have tl := t6 (by rw [k3]; decide)
    have s1 : ir_ M1 = ir_ M := by unfold ir_; rw [K1.1 5 (by decide), K1.2 56 (by decide)]
    have s2 : ∀ y : Nat, y < 900 * (km_i M 5).toNatClampNeg → km_a M1 56 y = km_a M 56 y := fun y _ => by rw [K1.2 56 (by decide)]
    refine hre M1 _ T1 (fun _ => by rw [e59]; have := IC b0; omega) (fun M2 R2 => ?_)
    have l2 := R2.2.2.1
    have u2 := R2.2.1.2.1
    have s3 : ∀ y : Nat, y < 900 * (km_i M 5).toNatClampNeg → km_a M2 56 y = km_a M 56 y := fun y hy => by rw [R2.2.2.2.1 y (by rw [K1.1 5 (by decide)]; exact hy)]; exact s2 y hy
    have G : iq_ 65 h M M2 := ⟨ke_trans K1' R2.1, R2.2.1, by omega, s3, fun b => by
      have o := R2.2.2.2.2 b
      rw [e59, s1] at o
      exact ⟨b0, o.2.1, by omega, o.2.2.2.1, o.2.2.2.2⟩⟩
    refine ⟨fun _ => R200 M2 G, fun b2 => rz_isSign ⟨fun x => absurd rfl x, fun _ => W M2 G.2.1 G.1 G.2.2.1 G.2.2.2.1⟩ (fun _ => ⟨fun _ => R200 M2 G, fun x => absurd x (by decide)⟩)⟩
  · have L : ∀ (n : Nat) (v i : Int32), (v = -1 ∨ (0 ≤ v.toInt ∧ v.toInt < 7)) → 0 ≤ i.toInt → i.toInt ≤ 7 → 7 - i.toInt < (n : Int) → wX12_readPart_103 re (wX12_readPart_130 re (wX12_readPart_200 re Q) Q) Q n v i M := by
      intro n
      induction n with
      | zero => intro v i hv g1 g2 g3; omega
      | succ n ih =>
        intro v i hv g1 g2 g3
        have z7 : (7 : Int32).toInt = 7 := by decide
        have z20 : (20 : Int32).toInt = 20 := by decide
        refine ⟨fun c => ⟨fun d => ?_, fun d => ?_⟩, fun c => ?_⟩
        · have hv7 : 0 ≤ v.toInt ∧ v.toInt < 7 := hv.elim (fun x => absurd x d) id
          have ic := IC b0
          have tl := t6 (by rw [k1]; decide)
          have va := ki_add (a := 20) (b := v) (by omega) (by omega)
          refine rz_emit2 T (fun _ => by omega) (fun b => absurd b0 b) (fun _ M2 K2 i2 a2 => R200 M2 ?_)
          have ii := ki_inc (a := km_i M 59) (by omega) (by omega)
          obtain ⟨n0, en0⟩ : ∃ n, n = (km_i M 59).toNatClampNeg := ⟨_, rfl⟩
          have hn0 : (n0 : Int) = (km_i M 59).toInt := by rw [en0, ki_nat]; omega
          have x2 : ∀ i : Nat, ir_ M2 i = if i = n0 then 20 + v else ir_ M i := by
            intro i
            show km_a M2 56 _ = if i = n0 then 20 + v else km_a M 56 _
            rw [a2, K2.1 5 (by decide), ← en0]
            by_cases q : i = n0
            · rw [q, if_pos rfl, ku_self]
            · rw [if_neg q, ku_ne (by omega)]
          refine ⟨ke_mono (by decide) (by decide) K2, it_ke (by decide) K2 T, by rw [K2.1 64 (by decide)]; omega, fun y hy => by rw [a2, ku_ne (by omega)], fun b => ⟨b0, by rw [i2]; omega, by rw [i2, K2.1 65 (by decide)]; omega, fun i hi => by rw [x2 i, if_neg (by omega)], ?_⟩⟩
          have i2n : (km_i M2 59).toNatClampNeg = n0 + 1 := by rw [i2, ki_nat]; omega
          have z27 : (27 : Int32).toInt = 27 := by decide
          rw [i2n, ← en0]
          exact ip_le (ip_name (by rw [x2, if_pos rfl, ki_le]; omega) (by rw [x2, if_pos rfl, ki_lt]; omega)) h1
        · exact rz_wrong2 (by decide) (fun M2 K2 b2 => rz_emit2 (it_ke (by decide) K2 T) (fun x => absurd x b2) (fun _ => B200 M2 K2 b2) (fun x => absurd x b2))
        · rw [ki_le, z7] at c
          have ii := ki_inc (a := i) (by omega) (by omega)
          refine ⟨by rw [ki_in]; omega, rz_isWord2 (by rw [ki_nat]; omega) T ⟨fun _ w ew => ?_, fun x => absurd rfl x⟩ (fun _ => ⟨fun x => absurd x (by decide), fun _ w ew => ?_⟩)⟩
          · rw [ew]; exact ih v (i + 1) hv (by omega) (by omega) (by omega)
          · rw [ew]; exact ih i (i + 1) (.inr ⟨by omega, by omega⟩) (by omega) (by omega) (by omega)
    exact ⟨8, L 8 (-1) 0 (.inl rfl) (by decide) (by decide) (by decide)⟩
  · have tl := t6 (by rw [k2]; decide)
    refine ⟨fun _ v ev => ⟨501, ?_⟩, fun _ => rz_wrong2 (by decide) (fun M2 K2 b2 v ev => ⟨1, ?_⟩)⟩
    · have ic := IC b0
      have L : ∀ (n : Nat) (w i : Int32), 0 ≤ i.toInt → i.toInt ≤ 500 → 500 - i.toInt < (n : Int) → wX12_readPart_42 re (wX12_readPart_78 re (wX12_readPart_200 re Q) Q) Q n w i M := by
        intro n
        induction n with
        | zero => intro w i g1 g2 g3; omega
        | succ n ih =>
          intro w i g1 g2 g3
          have E : wX12_readPart_78 re (wX12_readPart_200 re Q) Q w M := by
            refine rz_emit2 T (fun _ => by omega) (fun b => absurd b0 b) (fun _ M2 K2 i2 a2 => ?_)
            have ii := ki_inc (a := km_i M 59) (by omega) (by omega)
            have b2 : km_i M2 66 = 0 := (K2.1 66 (by decide)).trans b0
            have T2 := it_ke (by decide) K2 T
            refine rz_emit2 T2 (fun _ => by rw [i2]; omega) (fun b => absurd b2 b) (fun _ M3 K3 i3 a3 => R200 M3 ?_)
            have ii2 := ki_inc (a := km_i M2 59) (by rw [i2]; omega) (by rw [i2]; omega)
            obtain ⟨n0, en0⟩ : ∃ n, n = (km_i M 59).toNatClampNeg := ⟨_, rfl⟩
            have hn0 : (n0 : Int) = (km_i M 59).toInt := by rw [en0, ki_nat]; omega
            have i2n : (km_i M2 59).toNatClampNeg = n0 + 1 := by rw [i2, ki_nat]; omega
            have i3n : (km_i M3 59).toNatClampNeg = n0 + 2 := by rw [i3, ki_nat, ii2, i2]; omega
            rw [K2.1 5 (by decide), i2n] at a3
            rw [← en0] at a2
            have x3 : ∀ i : Nat, ir_ M3 i = if i = n0 + 1 then w else if i = n0 then 0 else ir_ M i := by
              intro i
              show km_a M3 56 _ = if i = n0 + 1 then w else if i = n0 then 0 else km_a M 56 _
              rw [a3, K3.1 5 (by decide), K2.1 5 (by decide)]
              by_cases q : i = n0 + 1
              · rw [q, if_pos rfl, ku_self]
              · rw [if_neg q, ku_ne (by omega), a2]
                by_cases q2 : i = n0
                · rw [q2, if_pos rfl, ku_self]
                · rw [if_neg q2, ku_ne (by omega)]
            refine ⟨ke_trans (ke_mono (by decide) (by decide) K2) (ke_mono (by decide) (by decide) K3), it_ke (by decide) K3 T2, by rw [K3.1 64 (by decide), K2.1 64 (by decide)]; omega, fun y hy => by rw [a3, ku_ne (by omega), a2, ku_ne (by omega)], fun b => ⟨b0, by rw [i3, ii2, i2]; omega, by rw [i3, ii2, i2, K3.1 65 (by decide), K2.1 65 (by decide)]; omega, fun i hi => by rw [x3 i, if_neg (by omega), if_neg (by omega)], ?_⟩⟩
            rw [i3n, ← en0]
            exact ip_le (ip_num (by rw [x3, if_neg (by omega), if_pos rfl])) h1
          refine ⟨fun _ => E, fun c => ⟨fun b => absurd b0 b, fun _ => ?_⟩⟩
          rw [ki_le] at c
          have ii := ki_inc (a := i) (by omega) (by omega)
          refine ⟨by rw [ki_in]; omega, fun v17 _ v18 e18 => ?_⟩
          rw [e18]
          exact ih v17 (i + 1) (by omega) (by omega) (by omega)
      rw [ev]
      exact L 501 0 (km_i M 64) (by omega) (by omega) (by omega)
    · have T2 := it_ke (by decide) K2 T
      have E : wX12_readPart_78 re (wX12_readPart_200 re Q) Q 0 M2 := rz_emit2 T2 (fun x => absurd x b2) (fun _ => rz_emit2 T2 (fun x => absurd x b2) (fun _ => B200 M2 K2 b2) (fun x => absurd x b2)) (fun x => absurd x b2)
      exact ⟨fun _ => E, fun _ => ⟨fun _ => E, fun x => absurd x b2⟩⟩
theorem rs_readTerm {re : rt_} {l : Int32} {h : Nat} (hp : rs_ h (wX12_readPart re l)) : rs_ (h + 1) (wX12_readTerm re l) := by
  intro M Q T IC kk
  refine hp M _ T IC (fun M1 R1 => ⟨502, ?_⟩)
  have L : ∀ (n : Nat) (M2 : km_S), iq_ 64 (h + 1) M M2 → 500 - (km_i M2 64).toInt < (n : Int) → wX12_readTerm_5 re Q n l M2 := by
    intro n
    induction n with
    | zero =>
      intro M2 R g
      obtain ⟨t1, t2, t3, t4, t5, t6, t7⟩ := R.2.1
      omega
    | succ n ih =>
      intro M2 R g
      refine ⟨fun _ => kk M2 R, fun b => ?_⟩
      have O : ∀ c : Int32, c ≠ 0 → ¬ 20 ≤ c → c ≠ 9 → km_i M2 62 = 3 → wX12_readTerm_44 re (wX12_readTerm_5 re Q n) Q l c M2 := fun c c1 c2 c3 k => rz_op hp (Nat.le_refl _) (Nat.le_refl _) c1 c2 c3 IC R b (by rw [k]; decide) (fun M5 R5 g5 => ih M5 R5 (by omega))
      have P : km_i M2 62 = 3 → wX12_readTerm_30 re (wX12_readTerm_5 re Q n) Q l M2 := fun k => rz_isSign ⟨fun _ => O 4 (by decide) (by decide) (by decide) k, fun x => absurd rfl x⟩ (fun k' => ⟨fun x => absurd x (by decide), fun _ => O 3 (by decide) (by decide) (by decide) k'⟩)
      exact rz_isSign ⟨fun x => absurd rfl x, fun _ => rz_isSign ⟨fun _ => kk M2 R, fun x => absurd rfl x⟩ (fun k => ⟨fun x => absurd x (by decide), fun _ => P k⟩)⟩ (fun k => ⟨fun _ => P k, fun x => absurd x (by decide)⟩)
  have t1 := R1.2.1.1
  exact L 502 M1 (iq_le R1 (by omega)) (by omega)
theorem rs_readSum {re : rt_} {l : Int32} {h : Nat} (hp : rs_ h (wX12_readTerm re l)) : rs_ (h + 1) (wX12_readSum re l) := by
  intro M Q T IC kk
  refine hp M _ T IC (fun M1 R1 => ⟨502, ?_⟩)
  have L : ∀ (n : Nat) (M2 : km_S), iq_ 64 (h + 1) M M2 → 500 - (km_i M2 64).toInt < (n : Int) → wX12_readSum_5 re Q n l M2 := by
    intro n
    induction n with
    | zero =>
      intro M2 R g
      obtain ⟨t1, t2, t3, t4, t5, t6, t7⟩ := R.2.1
      omega
    | succ n ih =>
      intro M2 R g
      refine ⟨fun _ => kk M2 R, fun b => ?_⟩
      have O : ∀ c : Int32, c ≠ 0 → ¬ 20 ≤ c → c ≠ 9 → km_i M2 62 = 3 → wX12_readSum_44 re (wX12_readSum_5 re Q n) Q l c M2 := fun c c1 c2 c3 k => rz_op hp (Nat.le_refl _) (Nat.le_refl _) c1 c2 c3 IC R b (by rw [k]; decide) (fun M5 R5 g5 => ih M5 R5 (by omega))
      have P : km_i M2 62 = 3 → wX12_readSum_30 re (wX12_readSum_5 re Q n) Q l M2 := fun k => rz_isSign ⟨fun _ => O 2 (by decide) (by decide) (by decide) k, fun x => absurd rfl x⟩ (fun k' => ⟨fun x => absurd x (by decide), fun _ => O 1 (by decide) (by decide) (by decide) k'⟩)
      exact rz_isSign ⟨fun x => absurd rfl x, fun _ => rz_isSign ⟨fun _ => kk M2 R, fun x => absurd rfl x⟩ (fun k => ⟨fun x => absurd x (by decide), fun _ => P k⟩)⟩ (fun k => ⟨fun _ => P k, fun x => absurd x (by decide)⟩)
  have t1 := R1.2.1.1
  exact L 502 M1 (iq_le R1 (by omega)) (by omega)
theorem rs_test {re : rt_} {l : Int32} {h : Nat} (hp : rs_ h (wX12_readSum re l)) : rs_ (h + 1) (wX12_readTest re l) := by
  intro M Q T IC kk
  have S : ∀ (N : Int32) (M1 : km_S), it_ M1 → ic_ M1 → (∀ M2, iq_ 64 (h + 1) M1 M2 → wX12_readTest_76 re Q N M2) → wX12_readTest_16 re Q l N M1 := by
    intro N M1 T1 IC1 k76
    refine hp M1 _ T1 IC1 (fun M9 R9 => ⟨fun b => k76 M9 (iq_le R9 (by omega)), fun b => ?_⟩)
    have O : ∀ c : Int32, c ≠ 0 → ¬ 20 ≤ c → c ≠ 9 → km_i M9 62 = 3 → wX12_readTest_61 re (wX12_readTest_76 re Q) Q l N c M9 := fun c c1 c2 c3 k => rz_op hp (Nat.le_succ _) (Nat.le_refl _) c1 c2 c3 IC1 R9 b (by rw [k]; decide) (fun M5 R5 _ => k76 M5 R5)
    have P : km_i M9 62 = 3 → wX12_readTest_46 re (wX12_readTest_76 re Q) Q l N M9 := fun k => rz_isSign ⟨fun _ => O 6 (by decide) (by decide) (by decide) k, fun x => absurd rfl x⟩ (fun k' => ⟨fun x => absurd x (by decide), fun _ => O 5 (by decide) (by decide) (by decide) k'⟩)
    exact rz_isSign ⟨fun x => absurd rfl x, fun _ => rz_isSign ⟨fun _ => k76 M9 (iq_le R9 (by omega)), fun x => absurd rfl x⟩ (fun k => ⟨fun x => absurd x (by decide), fun _ => P k⟩)⟩ (fun k => ⟨fun _ => P k, fun x => absurd x (by decide)⟩)
  refine rz_isWord2 (by decide) T ⟨fun _ => S 0 M T IC (fun M2 R2 => ⟨fun _ => kk M2 R2, fun x => absurd rfl x⟩), fun x => absurd rfl x⟩ (fun kw => ⟨fun x => absurd x (by decide), fun _ => ?_⟩)
  obtain ⟨t1, t2, t3, t4, t5, t6, t7⟩ := id T
  have tl := t6 (by rw [kw]; decide)
  refine rz_step2 T (fun M1 K1 T1 l1 => ?_)
  have e59 : km_i M1 59 = km_i M 59 := K1.1 59 (by decide)
  have e66 : km_i M1 66 = km_i M 66 := K1.1 66 (by decide)
  have s1 : ir_ M1 = ir_ M := by unfold ir_; rw [K1.1 5 (by decide), K1.2 56 (by decide)]
  have K1' : ke_ iI [56] M M1 := ke_mono (by decide) (by decide) K1
  have s2 : ∀ y : Nat, y < 900 * (km_i M 5).toNatClampNeg → km_a M1 56 y = km_a M 56 y := fun y _ => by rw [K1.2 56 (by decide)]
  refine S 1 M1 T1 (fun b => by rw [e66] at b; have := IC b; rw [e59]; omega) (fun M2 R2 => ⟨fun x => absurd x (by decide), fun _ => ?_⟩)
  have l2 := R2.2.2.1
  obtain ⟨u1, u2, u3, u4, u5, u6, u7⟩ := id R2.2.1
  refine rz_emit2 R2.2.1 (fun b => ?_) (fun b => kk M2 (iq_then K1' (by omega) s2 R2 b)) (fun b M3 K3 i3 a3 => kk M3 ?_)
  · have o := R2.2.2.2.2 b
    have ic := IC (by rw [← e66]; exact o.1)
    rw [e59] at o
    omega
  · have o := R2.2.2.2.2 b
    have b0 : km_i M 66 = 0 := by rw [← e66]; exact o.1
    have ic := IC b0
    rw [e59, s1] at o
    have ii := ki_inc (a := km_i M2 59) (by omega) (by omega)
    have f5 : km_i M2 5 = km_i M 5 := (R2.1.1 5 (by decide)).trans (K1.1 5 (by decide))
    obtain ⟨n2, en2⟩ : ∃ n, n = (km_i M2 59).toNatClampNeg := ⟨_, rfl⟩
    have hn2 : (n2 : Int) = (km_i M2 59).toInt := by rw [en2, ki_nat]; omega
    have x3 : ∀ i : Nat, ir_ M3 i = if i = n2 then 9 else ir_ M2 i := by
      intro i
      show km_a M3 56 _ = if i = n2 then 9 else km_a M2 56 _
      rw [a3, K3.1 5 (by decide), ← en2]
      by_cases q : i = n2
      · rw [q, if_pos rfl, ku_self]
      · rw [if_neg q, ku_ne (by omega)]
    have i3n : (km_i M3 59).toNatClampNeg = n2 + 1 := by rw [i3, ki_nat]; omega
    refine ⟨ke_trans K1' (ke_trans R2.1 (ke_mono (by decide) (by decide) K3)), it_ke (by decide) K3 R2.2.1, by rw [K3.1 64 (by decide)]; omega, fun y hy => ?_, fun _ => ⟨b0, by rw [i3]; omega, by rw [i3, K3.1 64 (by decide)]; omega, fun i hi => ?_, ?_⟩⟩
    · rw [a3, ku_ne (by rw [f5]; omega), R2.2.2.2.1 y (by rw [K1.1 5 (by decide)]; exact hy)]
      exact s2 y hy
    · rw [x3 i, if_neg (by omega)]
      exact o.2.2.2.1 i hi
    · rw [i3n]
      have A := o.2.2.2.2
      rw [← en2] at A
      exact ip_not (ip_of A (fun i _ hi => by rw [x3 i, if_neg (by omega)])) (by rw [x3, if_pos rfl])
theorem rs_expr {re : rt_} {l : Int32} {h : Nat} (hp : l ≠ 8 → rs_ h (wX12_readTest re l)) : rs_ (h + 1) (wX12_readExpression_b re l) := by
  intro M Q T IC kk
  have B54 : ∀ M2, ke_ [66, 67] [] M M2 → km_i M2 66 ≠ 0 → wX12_readExpression_54 re Q l M2 := fun M2 K b => ⟨fun x => absurd x b, fun _ => kk M2 (iq_wrong K rfl T b)⟩
  have G54 : l ≠ 8 → wX12_readExpression_54 re Q l M := by
    intro hl
    have hp := hp hl
    refine ⟨fun _ => hp M _ T IC (fun M1 R1 => ⟨502, ?_⟩), fun b => kk M (iq_self T b)⟩
    have L : ∀ (n : Nat) (M2 : km_S), iq_ 64 (h + 1) M M2 → 500 - (km_i M2 64).toInt < (n : Int) → wX12_readExpression_67 re Q n l M2 := by
      intro n
      induction n with
      | zero =>
        intro M2 R g
        obtain ⟨t1, t2, t3, t4, t5, t6, t7⟩ := R.2.1
        omega
      | succ n ih =>
        intro M2 R g
        refine ⟨fun _ => kk M2 R, fun b => ?_⟩
        have O : ∀ c : Int32, c ≠ 0 → ¬ 20 ≤ c → c ≠ 9 → km_i M2 62 = 1 → wX12_readExpression_111 re (wX12_readExpression_67 re Q n) Q l c M2 := fun c c1 c2 c3 k => rz_op hp (Nat.le_refl _) (Nat.le_refl _) c1 c2 c3 IC R b (by rw [k]; decide) (fun M5 R5 g5 => ih M5 R5 (by omega))
        have P : km_i M2 62 = 1 → wX12_readExpression_94 re (wX12_readExpression_67 re Q n) Q l M2 := fun k => rz_isWord2 (by decide) R.2.1 ⟨fun _ => O 8 (by decide) (by decide) (by decide) k, fun x => absurd rfl x⟩ (fun k' => ⟨fun x => absurd x (by decide), fun _ => O 7 (by decide) (by decide) (by decide) k'⟩)
        exact rz_isWord2 (by decide) R.2.1 ⟨fun x => absurd rfl x, fun _ => rz_isWord2 (by decide) R.2.1 ⟨fun _ => kk M2 R, fun x => absurd rfl x⟩ (fun k => ⟨fun x => absurd x (by decide), fun _ => P k⟩)⟩ (fun k => ⟨fun _ => P k, fun x => absurd x (by decide)⟩)
    have t1 := R1.2.1.1
    exact L 502 M1 (iq_le R1 (by omega)) (by omega)
  have G30 : wX12_readExpression_30 re Q l 1 M := ⟨fun _ => ⟨fun c => G54 c, fun _ => rz_wrong2 (by decide) B54⟩, fun x => absurd x (by decide)⟩
  have N30 : wX12_readExpression_30 re Q l 0 M := ⟨fun x => absurd rfl x, fun _ => rz_wrong2 (by decide) B54⟩
  exact ⟨fun _ => G30, fun _ => ⟨fun _ => G30, fun _ => rz_isSign ⟨fun _ => N30, fun x => absurd rfl x⟩ (fun _ => ⟨fun x => absurd x (by decide), fun _ => G30⟩)⟩⟩
theorem rs_expression : ∀ (j : Nat) (l : Int32), j ≤ 8 → l.toInt = 8 - (j : Int) → rs_ (1 + 4 * j) (wX12_readExpression (j + 2) l) := by
  intro j
  induction j with
  | zero =>
    intro l _ hl
    have e : l = 8 := ki_eq.2 (by rw [hl]; decide)
    exact rs_expr (re := wX12_readExpression 1) (h := 0) (fun n => absurd e n)
  | succ j ih =>
    intro l hj hl
    have li := ki_inc (a := l) (by omega) (by omega)
    have h1 := rs_part (re := wX12_readExpression (j + 2)) (l := l) (h := 1 + 4 * j) (by omega) (ih (l + 1) (by omega) (by omega))
    exact rs_expr (re := wX12_readExpression (j + 2)) (h := 1 + 4 * j + 3) (fun _ => rs_test (rs_readSum (rs_readTerm h1)))
