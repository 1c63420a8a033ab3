theorem kv_self (μ : km_S) : kv_ μ (km_a μ 57) (km_i μ 68) = μ := by
  refine Prod.ext (ku_same rfl) (Prod.ext ?_ rfl)
  funext j
  show (if j = 57 then _ else _) = _
  by_cases a : j = 57
  · rw [if_pos a, a]; rfl
  · rw [if_neg a]
theorem kv_kv {μ : km_S} {S S' : Nat → Int32} {t t' : Int32} : kv_ (kv_ μ S t) S' t' = kv_ μ S' t' := by
  refine Prod.ext ?_ (Prod.ext ?_ rfl)
  · funext j
    show upd (upd μ.1 68 t) 68 t' j = upd μ.1 68 t' j
    by_cases a : j = 68
    · rw [a, ku_self, ku_self]
    · rw [ku_ne a, ku_ne a, ku_ne a]
  · funext j
    show (if j = 57 then S' else if j = 57 then S else μ.2.1 j) = (if j = 57 then S' else μ.2.1 j)
    by_cases a : j = 57
    · rw [if_pos a, if_pos a]
    · rw [if_neg a, if_neg a, if_neg a]
theorem ki_mk {m a b : Int32} {M : Int} (hm : m.toInt = M) (h0 : 0 ≤ M ∧ M ≤ 900) (ha : 0 ≤ a.toInt ∧ a.toInt ≤ 10) (hb : -1 ≤ b.toInt ∧ b.toInt ≤ 100000) (hM : M * a.toInt ≤ 9000) (hM0 : 0 ≤ M * a.toInt) : (m * a + b).toInt = M * a.toInt + b.toInt := by
  have h : (m * a).toInt = M * a.toInt := by rw [ki_mul (by rw [hm]; omega) (by rw [hm]; omega), hm]
  rw [ki_add (by rw [h]; omega) (by rw [h]; omega), h]
theorem rz_ruled {w g r : Int32} {μ : km_S} {Q : Int32 → km_S → Prop} (I : im_ μ) (hg : vp_in g 400) (h : ∀ v S u, Q v (kv_ μ S u)) : wX12_ruled w g r μ Q := by
  obtain ⟨n1, n2, n3, n4, n5, n6, n7, n8⟩ := I
  have b5 := n1.2.2.1
  have z12 : (12 : Int32).toInt = 12 := by decide
  have z13 : (13 : Int32).toInt = 13 := by decide
  have z900 : (900 : Int32).toInt = 900 := by decide
  have L2 : ∀ (n : Nat) (l s k : Int32) (S : Nat → Int32) (u : Int32), -1 ≤ l.toInt → l.toInt < (km_i μ 5).toInt → 0 ≤ k.toInt → k.toInt ≤ 12 → 12 - k.toInt < (n : Int) → wX12_ruled_71 Q n w g r l s k (kv_ μ S u) := by
    intro n
    induction n with
    | zero => intro l s k S u h1 h2 h3 h4 h5; omega
    | succ n ih =>
      intro l s k S u h1 h2 h3 h4 h5
      refine ⟨fun _ => h _ _ _, fun c => ?_⟩
      have c' : l.toInt ≠ -1 := fun x => c (ki_eq.2 (x.trans ki_zm.symm))
      have hl : vp_in l 6 := by rw [ki_in]; omega
      obtain ⟨ln, el⟩ : ∃ ln, ln = l.toNatClampNeg := ⟨_, rfl⟩
      have hln : (ln : Int) = l.toInt := by rw [el, ki_nat]; omega
      have o := n8 ln (by omega)
      refine ⟨hl, fun _ => h _ _ _, fun d => ?_⟩
      have d' : k.toInt < (km_a μ 54 ln).toInt := by
        have := fun x => d (ki_le.2 x)
        rw [← el] at this
        have t : ¬ (km_a μ 54 ln).toInt ≤ k.toInt := this
        omega
      obtain ⟨kn, ekn⟩ : ∃ kn, kn = k.toNatClampNeg := ⟨_, rfl⟩
      have hkn : (kn : Int) = k.toInt := by rw [ekn, ki_nat]; omega
      have o2 := o.2 kn (by omega)
      have m12 := ki_mk (m := 12) (a := l) (b := k) z12 (by omega) (by omega) (by omega) (by omega) (by omega)
      have m13 := ki_mk (m := 13) (a := l) (b := k) z13 (by omega) (by omega) (by omega) (by omega) (by omega)
      have ik := ki_inc (a := k) (by omega) (by omega)
      have N : ∀ (s' : Int32) (S' : Nat → Int32) (u' : Int32), wX12_ruled_182 (wX12_ruled_71 Q n) Q w g r l s' k (kv_ μ S' u') := by
        intro s' S' u' v ev
        rw [ev]
        exact ih l s' (k + 1) S' u' h1 h2 (by omega) (by omega) (by omega)
      refine ⟨by rw [ki_in]; omega, fun _ v15 e15 => ?_, fun _ => N _ _ _⟩
      have h15 : v15.toInt = 13 * l.toInt + k.toInt := by rw [e15, m13]
      have i15 := ki_inc (a := v15) (by omega) (by omega)
      have p15 : v15.toNatClampNeg = 13 * ln + kn := by rw [ki_nat]; omega
      have p16 : (v15 + 1).toNatClampNeg = 13 * ln + kn + 1 := by rw [ki_nat]; omega
      refine ⟨by rw [ki_in]; omega, by rw [ki_in]; omega, ?_⟩
      rw [p15, p16]
      have q0 := o2.1
      have q1 := o2.2.1
      have run := o2.2.2
      have fromB : 0 ≤ (km_a μ 55 (13 * ln + kn)).toInt ∧ (km_a μ 55 (13 * ln + kn)).toInt ≤ 100000 := by
        refine ⟨q0, ?_⟩
        by_cases x : (km_a μ 55 (13 * ln + kn)).toInt ≤ 900
        · omega
        · exfalso
          unfold im_run at run
          rw [if_pos (by rw [ki_nat, ki_nat]; omega)] at run
          exact absurd run.2 (by decide)
      have toB : -1 ≤ (km_a μ 55 (13 * ln + kn + 1)).toInt := by
        by_cases x : -1 ≤ (km_a μ 55 (13 * ln + kn + 1)).toInt
        · exact x
        · exfalso
          unfold im_run at run
          rw [if_pos (by rw [ki_nat, ki_nat]; omega)] at run
          exact absurd run.2 (by decide)
      have toC : 0 ≤ (km_a μ 55 (13 * ln + kn + 1)).toInt := by
        by_cases x : 0 ≤ (km_a μ 55 (13 * ln + kn + 1)).toInt
        · exact x
        · exfalso
          unfold im_run at run
          rw [if_pos (by rw [ki_nat, ki_nat]; omega)] at run
          exact absurd run.2 (by decide)
      have m9 := ki_mk (m := 900) (a := l) (b := km_a μ 55 (13 * ln + kn)) z900 (by omega) (by omega) (by omega) (by omega) (by omega)
      have m9' := ki_mk (m := 900) (a := l) (b := km_a μ 55 (13 * ln + kn + 1)) z900 (by omega) (by omega) (by omega) (by omega) (by omega)
      refine rz_told (μ := kv_ μ S u) (B := 900 * ln) (k := (km_a μ 55 (13 * ln + kn)).toNatClampNeg) (e := (km_a μ 55 (13 * ln + kn + 1)).toNatClampNeg) hg ?_ ?_ ?_ run (fun v S' u' => ?_)
      · show (900 * l + km_a μ 55 (13 * ln + kn)).toInt = _
        rw [m9, ki_nat]; omega
      · show (900 * l + km_a μ 55 (13 * ln + kn + 1)).toInt = _
        rw [m9', ki_nat]; omega
      · rw [ki_nat]; omega
      · rw [kv_kv]
        exact ⟨fun _ => ⟨fun _ => N _ _ _, fun _ => N _ _ _⟩, fun _ => N _ _ _⟩
  have L1 : ∀ (n : Nat) (l k : Int32), -1 ≤ l.toInt → l.toInt < (km_i μ 5).toInt → 0 ≤ k.toInt → k.toInt ≤ 6 → 6 - k.toInt < (n : Int) → wX12_ruled_6 (wX12_ruled_65 Q) Q n w g r l k μ := by
    intro n
    induction n with
    | zero => intro l k h1 h2 h3 h4 h5; omega
    | succ n ih =>
      intro l k h1 h2 h3 h4 h5
      refine ⟨fun _ => ⟨20, ?_⟩, fun c => ?_⟩
      · have := L2 20 l 0 0 (km_a μ 57) (km_i μ 68) h1 h2 (by decide) (by decide) (by decide)
        rw [kv_self] at this
        exact this
      · rw [ki_le] at c
        have hk : vp_in k 6 := by rw [ki_in]; omega
        have ik := ki_inc (a := k) (by omega) (by omega)
        have N : ∀ l' : Int32, -1 ≤ l'.toInt → l'.toInt < (km_i μ 5).toInt → wX12_ruled_59 (wX12_ruled_6 (wX12_ruled_65 Q) Q n) Q w g r l' k μ := by
          intro l' g1 g2 v ev
          rw [ev]
          exact ih l' (k + 1) g1 g2 (by omega) (by omega) (by omega)
        refine ⟨hk, fun _ => N _ h1 h2, fun _ => ⟨fun _ => N _ (by omega) (by omega), fun d => ?_⟩⟩
        have d' : l.toInt ≠ -1 := fun x => d (ki_eq.2 (x.trans ki_zm.symm))
        exact ⟨hk, by rw [ki_in]; omega, fun _ => N _ h1 h2, fun _ => N _ (by omega) (by omega)⟩
  exact ⟨10, L1 10 (-1) 0 (by decide) (by rw [ki_zm]; omega) (by decide) (by decide) (by decide)⟩
