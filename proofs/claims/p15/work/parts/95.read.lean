/-! the reader of laws -/
theorem rx_kindOf {v : Int32} {σ : kx_S} {Q : Int32 → kx_S → Prop} (kk : ∀ v, Q v σ) : wX10_kindOf v σ Q := by
  have k28 : wX10_kindOf_28 Q v σ := fun _ _ => ⟨fun _ => kk _, fun _ => kk _, fun _ => kk _, fun _ => kk _, fun _ => kk _, fun _ => kk _, fun _ => kk _, fun _ => kk _, fun _ => kk _, fun _ => kk _, fun _ => kk _, fun _ => kk _, fun _ _ _ _ _ _ _ _ _ _ _ _ => kk _⟩
  have k14 : wX10_kindOf_14 Q v σ := ⟨fun _ => k28, fun _ => ⟨fun _ => k28, fun _ => kk _⟩⟩
  exact ⟨fun _ => k14, fun _ => ⟨fun _ => k14, fun _ => kk _⟩⟩
theorem rx_byteAt {s : sz_T} {g κ : Nat → Nat} {B n : Nat} {σ : kx_S} {t : Nat} {i : Int32} {Q : Int32 → kx_S → Prop} (J : yJ_ s g κ B n σ) (ht : xt σ t = 12) (kk : ∀ v, Q v σ) : wX10_byteAt t i σ Q := by
  obtain ⟨a, a1, a2⟩ := yp12 J ht
  obtain ⟨h, h1, h2, h3⟩ := yp11 J a2
  have e500 : (nI (xn σ h)).toInt = 500 := by rw [h3]; decide
  refine ⟨fun _ => kk _, fun c => ⟨ht, fun _ => kk _, fun _ => ⟨a, a1, a2, h, h1, h2, fun _ => kk _, fun d => ⟨a, a1, a2, h, h1, h2, ?_, kk _⟩⟩⟩⟩
  rw [ki_lt, ki_z0] at c
  rw [ki_le, e500] at d
  rw [ki_in, h3]; omega
theorem rx_endOfRow {s : sz_T} {g κ : Nat → Nat} {B n : Nat} {σ : kx_S} {t : Nat} {i kd : Int32} {Q : Int32 → kx_S → Prop} (J : yJ_ s g κ B n σ) (ht : xt σ t = 12) (kk : ∀ v, Q v σ) : wX10_endOfRow t i kd σ Q := by
  have L : ∀ (m : Nat) (i : Int32), (xi σ 193 t).toInt - i.toInt < (m : Int) → 0 < m → wX10_endOfRow_2 Q m t kd i σ := by
    intro m
    induction m with
    | zero => intro i h1 h2; omega
    | succ m ih =>
      intro i h1 h2
      refine ⟨ht, fun _ => kk _, fun c => ?_⟩
      rw [ki_le] at c
      have hi := ki_hi (xi σ 193 t)
      have lo := ki_lo i
      obtain ⟨i', ei, ii⟩ := ki_incE (a := i) (by omega) (by omega)
      have b1 : (xi σ 193 t).toInt - i'.toInt < (m : Int) := by omega
      have b2 : 0 < m := by omega
      refine rx_byteAt J ht (fun v => ?_)
      refine rx_kindOf (fun w => ⟨fun _ => kk _, fun _ x ex => ?_⟩)
      rw [ex, ← ei]
      exact ih i' b1 b2
  have fin := L (((xi σ 193 t).toInt - i.toInt).toNat + 1) i (by omega) (by omega)
  exact ⟨_, fin⟩
theorem rx_advance {s : sz_T} {g κ : Nat → Nat} {B n : Nat} {σ0 σ : kx_S} {t : Nat} {Q : kx_S → Prop} (K : yW_ s g κ B n σ0 σ) (ht : xt σ t = 12) (kk : ∀ τ, yW_ s g κ B n σ0 τ → Q τ) : wX10_advance t σ Q := by
  refine ⟨ht, ?_⟩
  refine rx_endOfRow K.1 ht (fun v => ⟨ht, fun τ1 e1 => ?_⟩)
  have K1 : yW_ s g κ B n σ0 τ1 := by rw [e1]; exact yW_si (by decide) K
  have t1 : xt τ1 t = 12 := by rw [e1]; exact ht
  clear e1
  refine rx_byteAt K1.1 t1 (fun w => ?_)
  refine rx_kindOf (fun x => ⟨t1, fun τ2 e2 => ?_⟩)
  have K2 : yW_ s g κ B n σ0 τ2 := by rw [e2]; exact yW_si (by decide) K1
  have t2 : xt τ2 t = 12 := by rw [e2]; exact t1
  clear e2
  have k80 : ∀ τ, yW_ s g κ B n σ0 τ → xt τ t = 12 → wX10_advance_80 Q t τ := fun τ K' t' => ⟨t', fun _ => kk τ K', fun _ => ⟨fun _ => kk τ K', fun _ τ3 e3 => by
    rw [e3]
    exact kk _ (yW_si (by decide) K')⟩⟩
  have k44 : wX10_advance_44 (wX10_advance_80 Q) Q t τ2 := by
    refine ⟨t2, ?_⟩
    refine rx_endOfRow K2.1 t2 (fun y => ⟨t2, fun τ3 e3 => ?_⟩)
    rw [e3]
    exact k80 _ (yW_si (by decide) K2) t2
  refine ⟨fun _ => k44, fun _ => ⟨fun _ y _ τ3 e3 => ?_, fun _ => k44⟩⟩
  rw [e3]
  exact k80 _ (yW_si (by decide) K2) t2
theorem rx_isWord {s : sz_T} {g κ : Nat → Nat} {B n : Nat} {σ : kx_S} {t l : Nat} {Q : Int32 → kx_S → Prop} (J : yJ_ s g κ B n σ) (ht : xt σ t = 12) (hl : l < 12) (kk : ∀ v, Q v σ) : wX10_isWord t l σ Q := by
  have L := ks_lens l hl
  refine ⟨ht, fun _ => kk _, fun _ => ⟨hl, fun _ => ?_, fun _ => kk _⟩⟩
  have Lp : ∀ (m : Nat) (i : Int32), 0 ≤ i.toInt → i.toInt ≤ ((ks_len.getD l 0 : Nat) : Int) → ((ks_len.getD l 0 : Nat) : Int) - i.toInt < (m : Int) → wX10_isWord_28 Q m t l i σ := by
    intro m
    induction m with
    | zero => intro i h1 h2 h3; omega
    | succ m ih =>
      intro i h1 h2 h3
      refine ⟨hl, fun _ => kk _, fun c => ⟨ht, ?_⟩⟩
      rw [ki_le, L.1] at c
      obtain ⟨i', ei, ii⟩ := ki_incE (a := i) (by omega) (by omega)
      have b1 : 0 ≤ i'.toInt := by omega
      have b2 : i'.toInt ≤ ((ks_len.getD l 0 : Nat) : Int) := by omega
      have b3 : ((ks_len.getD l 0 : Nat) : Int) - i'.toInt < (m : Int) := by omega
      have b4 : vp_in i (ks_len.getD l 0) := by rw [ki_in]; omega
      refine rx_byteAt J ht (fun v => ⟨hl, b4, fun _ x ex => ?_, fun _ => kk _⟩)
      rw [ex, ← ei]
      exact ih i' b1 b2 b3
  have fin := Lp 7 0 (by decide) (by rw [ki_z0]; omega) (by rw [ki_z0]; omega)
  exact ⟨7, fin⟩
theorem rx_numberValue {s : sz_T} {g κ : Nat → Nat} {B n : Nat} {σ : kx_S} {t : Nat} {Q : Int32 → kx_S → Prop} (J : yJ_ s g κ B n σ) (ht : xt σ t = 12) (kk : ∀ v, Q v σ) : wX10_numberValue t σ Q := by
  refine ⟨ht, fun v _ => ?_⟩
  have L : ∀ (m : Nat) (a i : Int32), (xi σ 194 t).toInt - i.toInt < (m : Int) → 0 < m → wX10_numberValue_7 Q m t a i σ := by
    intro m
    induction m with
    | zero => intro a i h1 h2; omega
    | succ m ih =>
      intro a i h1 h2
      refine ⟨ht, fun _ => kk _, fun c => ?_⟩
      rw [ki_le] at c
      have hi := ki_hi (xi σ 194 t)
      have lo := ki_lo i
      obtain ⟨i', ei, ii⟩ := ki_incE (a := i) (by omega) (by omega)
      have b1 : (xi σ 194 t).toInt - i'.toInt < (m : Int) := by omega
      have b2 : 0 < m := by omega
      refine rx_byteAt J ht (fun w x _ y ey => ?_)
      rw [ey, ← ei]
      exact ih x i' b1 b2
  have fin := L (((xi σ 194 t).toInt - v.toInt).toNat + 1) 0 v (by omega) (by omega)
  exact ⟨_, fin⟩
theorem rx_put {s : sz_T} {g κ : Nat → Nat} {B n : Nat} {σ0 σ : kx_S} {a : Nat} {v : Int32} {Q : kx_S → Prop} (K : yW_ s g κ B n σ0 σ) (ha : xt σ a = 7) (kk : ∀ τ, yW_ s g κ B n σ0 τ → Q τ) : wX5_put a v σ Q := by
  obtain ⟨_, h, h1, h2, h3⟩ := yp7 K.1 ha
  have hn := (K.1.2.2.2.1 a).2.2.2.1 ha
  have e500 : (nI (xn σ h)).toInt = 500 := by rw [h3]; decide
  refine ⟨ha, h, h1, h2, fun _ => kk σ K, fun c => ⟨h, h1, h2, ?_, fun τ1 e1 τ2 e2 => ?_⟩⟩
  · rw [ki_le, e500] at c
    rw [ki_in, h3]; omega
  · rw [ki_le, e500] at c
    have ii := ki_inc (a := xi σ 114 a) (by omega) (by omega)
    rw [e2, e1]
    exact kk _ (yW_114 (by show 0 ≤ (xi σ 114 a + 1).toInt ∧ (xi σ 114 a + 1).toInt ≤ 500; rw [ii]; omega) (yW_sai K))
theorem rx_lfail {s : sz_T} {g κ : Nat → Nat} {B n : Nat} {σ0 σ : kx_S} {a : Nat} {v : Int32} {Q : kx_S → Prop} (K : yW_ s g κ B n σ0 σ) (ha : xt σ a = 7) (kk : ∀ τ, yW_ s g κ B n σ0 τ → Q τ) : wX5_fail a v σ Q := by
  obtain ⟨⟨t, t1, t2⟩, _⟩ := yp7 K.1 ha
  refine ⟨ha, fun _ => kk σ K, fun _ τ1 e1 => ⟨t, by rw [e1]; exact t1, by rw [e1]; exact t2, fun τ2 e2 => ?_⟩⟩
  rw [e2, e1]
  exact kk _ (yW_si (by decide) (yW_si (by decide) K))
theorem rx_pass {s : sz_T} {g κ : Nat → Nat} {B n : Nat} {σ0 σ : kx_S} {a : Nat} {v : Int32} {Q : kx_S → Prop} (K : yW_ s g κ B n σ0 σ) (ha : xt σ a = 7) (kk : ∀ τ, yW_ s g κ B n σ0 τ → Q τ) : wX5_pass a v σ Q := by
  obtain ⟨⟨t, t1, t2⟩, _⟩ := yp7 K.1 ha
  exact ⟨ha, fun _ => ⟨t, t1, t2, fun _ => ⟨t, t1, t2, rx_advance K t2 kk⟩, fun _ => rx_lfail K ha kk⟩, fun _ => kk σ K⟩
theorem rx_codeOfName {s : sz_T} {g κ : Nat → Nat} {B n : Nat} {σ : kx_S} {a : Nat} {Q : Int32 → kx_S → Prop} (J : yJ_ s g κ B n σ) (ha : xt σ a = 7) (kk : ∀ v, Q v σ) : wX5_codeOfName a σ Q := by
  obtain ⟨⟨t, t1, t2⟩, _⟩ := yp7 J ha
  refine ⟨ha, t, t1, t2, rx_isWord J t2 (by decide) (fun v => ⟨fun _ => ⟨ha, t, t1, t2, ?_⟩, fun _ => kk _⟩)⟩
  refine rx_isWord J t2 (by decide) (fun v => ⟨fun _ => ⟨ha, t, t1, t2, ?_⟩, fun _ => kk _⟩)
  refine rx_isWord J t2 (by decide) (fun v => ⟨fun _ => ⟨ha, t, t1, t2, ?_⟩, fun _ => kk _⟩)
  refine rx_isWord J t2 (by decide) (fun v => ⟨fun _ => ⟨ha, t, t1, t2, ?_⟩, fun _ => kk _⟩)
  refine rx_isWord J t2 (by decide) (fun v => ⟨fun _ => ⟨ha, t, t1, t2, ?_⟩, fun _ => kk _⟩)
  refine rx_isWord J t2 (by decide) (fun v => ⟨fun _ => ⟨ha, t, t1, t2, ?_⟩, fun _ => kk _⟩)
  exact rx_isWord J t2 (by decide) (fun v => ⟨fun _ => kk _, fun _ => kk _⟩)
theorem rx_faultOfPart {s : sz_T} {g κ : Nat → Nat} {B n : Nat} {σ : kx_S} {a : Nat} {Q : Int32 → kx_S → Prop} (J : yJ_ s g κ B n σ) (ha : xt σ a = 7) (kk : ∀ v, Q v σ) : wX5_faultOfPart a σ Q := by
  obtain ⟨⟨t, t1, t2⟩, _⟩ := yp7 J ha
  exact ⟨ha, t, t1, t2, fun v _ => ⟨fun _ => rx_codeOfName J ha (fun w => ⟨fun _ => kk _, fun _ => kk _⟩), fun _ => kk _, fun _ => kk _, fun _ => kk _, fun _ _ _ _ => kk _⟩⟩
/-- a piece of reading -/
def rw_ (s : sz_T) (g κ : Nat → Nat) (B n : Nat) (σ0 : kx_S) (w : kx_S → (kx_S → Prop) → Prop) : Prop := ∀ (σ : kx_S) (Q : kx_S → Prop), yW_ s g κ B n σ0 σ → (∀ τ, yW_ s g κ B n σ0 τ → Q τ) → w σ Q
abbrev rv_ : Type := Nat → Int32 → kx_S → (kx_S → Prop) → Prop
theorem rw_part {s : sz_T} {g κ : Nat → Nat} {B n : Nat} {σ0 : kx_S} {re : rv_} {a : Nat} {l : Int32} (ha : xt σ0 a = 7) (hre : rw_ s g κ B n σ0 (re a (l + 1))) : rw_ s g κ B n σ0 (wX5_readPart re a l) := by
  intro σ Q K kk
  have T : ∀ τ, yW_ s g κ B n σ0 τ → xt τ a = 7 := fun τ k => yW_tag k ha (by decide)
  have ta := T σ K
  obtain ⟨⟨t, t1, t2⟩, _⟩ := yp7 K.1 ta
  have P78 : ∀ v, wX5_readPart_78 re Q a v a σ := fun v => ⟨ta, rx_put K ta (fun τ K2 => by
    obtain ⟨⟨t', u1, u2⟩, _⟩ := yp7 K2.1 (T τ K2)
    exact ⟨T τ K2, t', u1, u2, rx_advance K2 u2 kk⟩)⟩
  refine ⟨ta, ?_⟩
  refine rx_faultOfPart K.1 ta (fun v => ⟨fun _ => ⟨ta, t, t1, t2, fun _ => ⟨t, t1, t2, fun _ => rx_codeOfName K.1 ta P78, fun _ => ⟨t, t1, t2, rx_numberValue K.1 t2 P78⟩⟩, fun _ => ⟨t, t1, t2, ?_⟩⟩, fun _ => ⟨ta, rx_lfail K ta kk⟩⟩)
  refine rx_advance K t2 (fun τ K2 => ⟨T τ K2, ?_⟩)
  refine hre τ _ K2 (fun τ3 K3 => ⟨T τ3 K3, ?_⟩)
  exact rx_pass K3 (T τ3 K3) kk
theorem rw_term {s : sz_T} {g κ : Nat → Nat} {B n : Nat} {σ0 : kx_S} {re : rv_} {a : Nat} {l : Int32} (ha : xt σ0 a = 7) (hp : rw_ s g κ B n σ0 (wX5_readPart re a l)) : rw_ s g κ B n σ0 (wX5_readTerm re a l) := by
  intro σ Q K kk
  have T : ∀ τ, yW_ s g κ B n σ0 τ → xt τ a = 7 := fun τ k => yW_tag k ha (by decide)
  have z5 : (500 : Int32).toInt = 500 := by decide
  have L : ∀ (m : Nat) (i : Int32) (τ : kx_S), 0 ≤ i.toInt → i.toInt ≤ 500 → 500 - i.toInt < (m : Int) → yW_ s g κ B n σ0 τ → wX5_readTerm_7 re Q m a l i τ := by
    intro m
    induction m with
    | zero => intro i τ h1 h2 h3; omega
    | succ m ih =>
      intro i τ h1 h2 h3 K1
      have ta := T τ K1
      obtain ⟨⟨t, t1, t2⟩, _⟩ := yp7 K1.1 ta
      refine ⟨fun _ => kk τ K1, fun c => ?_⟩
      rw [ki_le, z5] at c
      obtain ⟨i', ei, ii⟩ := ki_incE (a := i) (by omega) (by omega)
      have b1 : 0 ≤ i'.toInt := by omega
      have b2 : i'.toInt ≤ 500 := by omega
      have b3 : 500 - i'.toInt < (m : Int) := by omega
      have N : ∀ (v : Int32) (τ3 : kx_S), yW_ s g κ B n σ0 τ3 → wX5_readTerm_68 re (wX5_readTerm_7 re Q m) Q a l i v a τ3 := fun v τ3 K3 => ⟨T τ3 K3, rx_put K3 (T τ3 K3) (fun τ4 K4 x ex => by
        rw [ex, ← ei]
        exact ih i' τ4 b1 b2 b3 K4)⟩
      have O : ∀ x : Int32, wX5_readTerm_42 re (wX5_readTerm_7 re Q m) Q a l i x τ := fun x => ⟨ta, t, t1, t2, rx_advance K1 t2 (fun τ2 K2 => ⟨T τ2 K2, hp τ2 _ K2 (fun τ3 K3 => ⟨fun _ => N _ τ3 K3, fun _ => N _ τ3 K3⟩)⟩)⟩
      exact ⟨ta, fun _ => kk τ K1, fun _ => ⟨t, t1, t2, fun x _ => ⟨fun _ => O x, fun _ => ⟨fun _ => O x, fun _ => kk τ K1⟩⟩⟩⟩
  refine ⟨T σ K, ?_⟩
  refine hp σ _ K (fun τ K2 => ?_)
  have fin := L 501 0 τ (by decide) (by decide) (by decide) K2
  exact ⟨501, fin⟩
theorem rw_sum {s : sz_T} {g κ : Nat → Nat} {B n : Nat} {σ0 : kx_S} {re : rv_} {a : Nat} {l : Int32} (ha : xt σ0 a = 7) (hp : rw_ s g κ B n σ0 (wX5_readTerm re a l)) : rw_ s g κ B n σ0 (wX5_readSum re a l) := by
  intro σ Q K kk
  have T : ∀ τ, yW_ s g κ B n σ0 τ → xt τ a = 7 := fun τ k => yW_tag k ha (by decide)
  have z5 : (500 : Int32).toInt = 500 := by decide
  have L : ∀ (m : Nat) (i : Int32) (τ : kx_S), 0 ≤ i.toInt → i.toInt ≤ 500 → 500 - i.toInt < (m : Int) → yW_ s g κ B n σ0 τ → wX5_readSum_7 re Q m a l i τ := by
    intro m
    induction m with
    | zero => intro i τ h1 h2 h3; omega
    | succ m ih =>
      intro i τ h1 h2 h3 K1
      have ta := T τ K1
      obtain ⟨⟨t, t1, t2⟩, _⟩ := yp7 K1.1 ta
      refine ⟨fun _ => kk τ K1, fun c => ?_⟩
      rw [ki_le, z5] at c
      obtain ⟨i', ei, ii⟩ := ki_incE (a := i) (by omega) (by omega)
      have b1 : 0 ≤ i'.toInt := by omega
      have b2 : i'.toInt ≤ 500 := by omega
      have b3 : 500 - i'.toInt < (m : Int) := by omega
      have N : ∀ (v : Int32) (τ3 : kx_S), yW_ s g κ B n σ0 τ3 → wX5_readSum_68 re (wX5_readSum_7 re Q m) Q a l i v a τ3 := fun v τ3 K3 => ⟨T τ3 K3, rx_put K3 (T τ3 K3) (fun τ4 K4 x ex => by
        rw [ex, ← ei]
        exact ih i' τ4 b1 b2 b3 K4)⟩
      have O : ∀ x : Int32, wX5_readSum_42 re (wX5_readSum_7 re Q m) Q a l i x τ := fun x => ⟨ta, t, t1, t2, rx_advance K1 t2 (fun τ2 K2 => ⟨T τ2 K2, hp τ2 _ K2 (fun τ3 K3 => ⟨fun _ => N _ τ3 K3, fun _ => N _ τ3 K3⟩)⟩)⟩
      exact ⟨ta, fun _ => kk τ K1, fun _ => ⟨t, t1, t2, fun x _ => ⟨fun _ => O x, fun _ => ⟨fun _ => O x, fun _ => kk τ K1⟩⟩⟩⟩
  refine ⟨T σ K, ?_⟩
  refine hp σ _ K (fun τ K2 => ?_)
  have fin := L 501 0 τ (by decide) (by decide) (by decide) K2
  exact ⟨501, fin⟩
theorem rw_test {s : sz_T} {g κ : Nat → Nat} {B n : Nat} {σ0 : kx_S} {re : rv_} {a : Nat} {l : Int32} (ha : xt σ0 a = 7) (hp : rw_ s g κ B n σ0 (wX5_readSum re a l)) : rw_ s g κ B n σ0 (wX5_readTest re a l) := by
  intro σ Q K kk
  have T : ∀ τ, yW_ s g κ B n σ0 τ → xt τ a = 7 := fun τ k => yW_tag k ha (by decide)
  have D82 : ∀ (x : Int32) (τ : kx_S), yW_ s g κ B n σ0 τ → wX5_readTest_82 re Q a x τ := fun x τ K1 => ⟨fun _ => kk τ K1, fun _ => ⟨T τ K1, rx_put K1 (T τ K1) kk⟩⟩
  have D79 : ∀ (x v : Int32) (τ : kx_S), yW_ s g κ B n σ0 τ → wX5_readTest_79 re (wX5_readTest_82 re Q) Q a x v a τ := fun x v τ K1 => ⟨T τ K1, rx_put K1 (T τ K1) (fun τ2 K2 => D82 x τ2 K2)⟩
  have D53 : ∀ (x y : Int32) (τ : kx_S), yW_ s g κ B n σ0 τ → wX5_readTest_53 re (wX5_readTest_82 re Q) Q a l x y τ := fun x y τ K1 => by
    obtain ⟨⟨t, t1, t2⟩, _⟩ := yp7 K1.1 (T τ K1)
    exact ⟨T τ K1, t, t1, t2, rx_advance K1 t2 (fun τ2 K2 => ⟨T τ2 K2, hp τ2 _ K2 (fun τ3 K3 => ⟨fun _ => D79 x _ τ3 K3, fun _ => D79 x _ τ3 K3⟩)⟩)⟩
  have D21 : ∀ (x : Int32) (τ : kx_S), yW_ s g κ B n σ0 τ → wX5_readTest_21 re Q a l x τ := fun x τ K1 => ⟨T τ K1, hp τ _ K1 (fun τ2 K2 => by
    obtain ⟨⟨t, t1, t2⟩, _⟩ := yp7 K2.1 (T τ2 K2)
    exact ⟨T τ2 K2, t, t1, t2, fun v _ => ⟨fun _ => D82 x τ2 K2, fun _ => ⟨fun _ => D53 x v τ2 K2, fun _ => ⟨fun _ => D82 x τ2 K2, fun _ => D53 x v τ2 K2⟩⟩⟩⟩)⟩
  obtain ⟨⟨t, t1, t2⟩, _⟩ := yp7 K.1 (T σ K)
  refine ⟨T σ K, t, t1, t2, ?_⟩
  exact rx_isWord K.1 t2 (by decide) (fun v => ⟨fun _ => D21 v σ K, fun _ => ⟨T σ K, t, t1, t2, rx_advance K t2 (fun τ K2 => D21 v τ K2)⟩⟩)
theorem rw_expr {s : sz_T} {g κ : Nat → Nat} {B n : Nat} {σ0 : kx_S} {re : rv_} {a : Nat} {l : Int32} (ha : xt σ0 a = 7) (hp : l < 8 → rw_ s g κ B n σ0 (wX5_readTest re a l)) : rw_ s g κ B n σ0 (wX5_readExpr_b re a l) := by
  intro σ Q K kk
  have T : ∀ τ, yW_ s g κ B n σ0 τ → xt τ a = 7 := fun τ k => yW_tag k ha (by decide)
  have z5 : (500 : Int32).toInt = 500 := by decide
  obtain ⟨⟨t, t1, t2⟩, _⟩ := yp7 K.1 (T σ K)
  have D26 : ∀ v : Int32, wX5_readExpr_26 re Q a v σ := fun v => ⟨fun _ => ⟨T σ K, rx_lfail K (T σ K) kk⟩, fun _ => ⟨T σ K, rx_lfail K (T σ K) kk⟩⟩
  refine ⟨fun hl => ⟨T σ K, ?_⟩, fun _ => ⟨T σ K, t, t1, t2, rx_isWord K.1 t2 (by decide) (fun v => ⟨fun _ => ⟨T σ K, rx_faultOfPart K.1 (T σ K) D26⟩, fun _ => D26 0⟩)⟩⟩
  have hp := hp hl
  have L : ∀ (m : Nat) (i : Int32) (τ : kx_S), 0 ≤ i.toInt → i.toInt ≤ 500 → 500 - i.toInt < (m : Int) → yW_ s g κ B n σ0 τ → wX5_readExpr_48 re Q m a l i τ := by
    intro m
    induction m with
    | zero => intro i τ h1 h2 h3; omega
    | succ m ih =>
      intro i τ h1 h2 h3 K1
      have ta := T τ K1
      obtain ⟨⟨t, t1, t2⟩, _⟩ := yp7 K1.1 ta
      refine ⟨fun _ => kk τ K1, fun c => ?_⟩
      rw [ki_le, z5] at c
      obtain ⟨i', ei, ii⟩ := ki_incE (a := i) (by omega) (by omega)
      have b1 : 0 ≤ i'.toInt := by omega
      have b2 : i'.toInt ≤ 500 := by omega
      have b3 : 500 - i'.toInt < (m : Int) := by omega
      have N : ∀ (v : Int32) (τ3 : kx_S), yW_ s g κ B n σ0 τ3 → wX5_readExpr_113 re (wX5_readExpr_48 re Q m) Q a l i v a τ3 := fun v τ3 K3 => ⟨T τ3 K3, rx_put K3 (T τ3 K3) (fun τ4 K4 x ex => by
        rw [ex, ← ei]
        exact ih i' τ4 b1 b2 b3 K4)⟩
      have O : ∀ x : Int32, wX5_readExpr_89 re (wX5_readExpr_48 re Q m) Q a l i x τ := fun x => ⟨ta, t, t1, t2, rx_advance K1 t2 (fun τ2 K2 => ⟨T τ2 K2, hp τ2 _ K2 (fun τ3 K3 => ⟨fun _ => N _ τ3 K3, fun _ => N _ τ3 K3⟩)⟩)⟩
      exact ⟨ta, fun _ => kk τ K1, fun _ => ⟨t, t1, t2, rx_isWord K1.1 t2 (by decide) (fun v => ⟨fun _ => O v, fun _ => ⟨ta, t, t1, t2, rx_isWord K1.1 t2 (by decide) (fun w => ⟨fun _ => O v, fun _ => kk τ K1⟩)⟩⟩)⟩⟩
  refine hp σ _ K (fun τ K2 => ?_)
  have fin := L 501 0 τ (by decide) (by decide) (by decide) K2
  exact ⟨501, fin⟩
theorem rw_expression {s : sz_T} {g κ : Nat → Nat} {B n : Nat} {σ0 : kx_S} {a : Nat} (ha : xt σ0 a = 7) : ∀ (j : Nat) (l : Int32), j ≤ 8 → l.toInt = 8 - (j : Int) → rw_ s g κ B n σ0 (wX5_readExpr (j + 2) a l) := by
  intro j
  have z8 : (8 : Int32).toInt = 8 := by decide
  induction j with
  | zero =>
    intro l _ hl
    exact rw_expr (re := wX5_readExpr 1) ha (fun q => by rw [ki_lt, z8] at q; omega)
  | succ j ih =>
    intro l hj hl
    have li := ki_inc (a := l) (by omega) (by omega)
    exact rw_expr (re := wX5_readExpr (j + 2)) ha (fun _ => rw_test ha (rw_sum ha (rw_term ha (rw_part ha (ih (l + 1) (by omega) (by omega))))))
theorem rx_readRule {s : sz_T} {g κ : Nat → Nat} {B n : Nat} {σ0 : kx_S} {a : Nat} {i : Int32} (ha : xt σ0 a = 7) : rw_ s g κ B n σ0 (wX5_readRule a i) := by
  intro σ Q K kk
  have T : ∀ τ, yW_ s g κ B n σ0 τ → xt τ a = 7 := fun τ k => yW_tag k ha (by decide)
  obtain ⟨⟨t, t1, t2⟩, _⟩ := yp7 K.1 (T σ K)
  have D74 : ∀ (v : Int32) (τ : kx_S), yW_ s g κ B n σ0 τ → wX5_readRule_74 Q v a τ := fun v τ K1 => ⟨T τ K1, rx_put K1 (T τ K1) kk⟩
  have D32 : ∀ v : Int32, wX5_readRule_32 Q a i v σ := fun v => ⟨fun _ => ⟨T σ K, t, t1, t2, rx_advance K t2 (fun τ K2 => ⟨T τ K2, rw_expression ha 8 0 (by decide) (by decide) τ _ K2 (fun τ3 K3 => ⟨T τ3 K3, rx_pass K3 (T τ3 K3) (fun τ4 K4 => ⟨fun _ => D74 _ τ4 K4, fun _ => D74 _ τ4 K4⟩)⟩)⟩)⟩, fun _ => ⟨T σ K, rx_lfail K (T σ K) kk⟩⟩
  refine ⟨T σ K, t, t1, t2, ?_⟩
  exact rx_isWord K.1 t2 (by decide) (fun v => ⟨fun _ => D32 v, fun _ => ⟨T σ K, t, t1, t2, rx_isWord K.1 t2 (by decide) (fun w => ⟨fun _ => D32 v, fun _ => ⟨T σ K, rx_lfail K (T σ K) kk⟩⟩)⟩⟩)
theorem rx_readText {s : sz_T} {g κ : Nat → Nat} {B n : Nat} {σ : kx_S} {a : Nat} {v : Int32} {Q : kx_S → Prop} (J : yJ_ s g κ B n σ) (ha : xt σ a = 7) (kk : ∀ τ, yW_ s g κ B n σ τ → Q τ) : wX5_readText a v σ Q := by
  have T : ∀ τ, yW_ s g κ B n σ τ → xt τ a = 7 := fun τ k => yW_tag k ha (by decide)
  have z12 : (12 : Int32).toInt = 12 := by decide
  have L : ∀ (m : Nat) (i : Int32) (τ : kx_S), 0 ≤ i.toInt → i.toInt ≤ 13 → 13 - i.toInt < (m : Int) → yW_ s g κ B n σ τ → wX5_readText_25 Q m a i τ := by
    intro m
    induction m with
    | zero => intro i τ h1 h2 h3; omega
    | succ m ih =>
      intro i τ h1 h2 h3 K1
      have ta := T τ K1
      obtain ⟨⟨t, t1, t2⟩, _⟩ := yp7 K1.1 ta
      refine ⟨fun _ => kk τ K1, fun c => ?_⟩
      rw [ki_lt, z12] at c
      obtain ⟨i', ei, ii⟩ := ki_incE (a := i) (by omega) (by omega)
      have b1 : 0 ≤ i'.toInt := by omega
      have b2 : i'.toInt ≤ 13 := by omega
      have b3 : 13 - i'.toInt < (m : Int) := by omega
      refine ⟨ta, t, t1, t2, fun _ => kk τ K1, fun _ => ⟨fun _ => kk τ K1, fun _ => ?_⟩⟩
      refine rx_readRule ha τ _ K1 (fun τ2 K2 x ex => ?_)
      rw [ex, ← ei]
      exact ih i' τ2 b1 b2 b3 K2
  refine ⟨ha, fun τ1 e1 τ2 e2 τ3 e3 => ?_⟩
  have K3 : yW_ s g κ B n σ τ3 := by rw [e3, e2, e1]; exact yW_si (by decide) (yW_si (by decide) (yW_114 (by decide) (yW_refl J)))
  clear e1 e2 e3
  obtain ⟨⟨t, t1, t2⟩, _⟩ := yp7 K3.1 (T τ3 K3)
  refine ⟨t, t1, t2, t2, fun τ4 e4 τ5 e5 => ?_⟩
  have K5 : yW_ s g κ B n σ τ5 := by rw [e5, e4]; exact yW_si (by decide) (yW_si (by decide) K3)
  have t5 : xt τ5 t = 12 := by rw [e5, e4]; exact t2
  clear e4 e5
  refine rx_advance K5 t5 (fun τ6 K6 => ?_)
  have fin := L 14 0 τ6 (by decide) (by decide) (by decide) K6
  exact ⟨14, fin⟩
