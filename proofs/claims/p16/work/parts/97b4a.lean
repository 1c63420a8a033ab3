def vX11_init (l0 : Nat) (σ : kx_S) (Q : kx_S → Prop) : Prop := xc σ < kx_N → ∀ p2, xt σ p2 = 0 → p2 ≠ xz σ → ∀ σ5, σ5 = xnew σ p2 1 → vJx4a65c_init_da8c8 p2 σ5 (fun σ7 => xt σ7 l0 = 13 → ∀ σ9, σ9 = xsr σ7 208 l0 (some p2) → xc σ9 < kx_N → ∀ p12, xt σ9 p12 = 0 → p12 ≠ xz σ9 → ∀ σ15, σ15 = xnew σ9 p12 1 → vJx4a65c_init_da8c8 p12 σ15 (fun σ17 => xt σ17 l0 = 13 → ∀ σ19, σ19 = xsr σ17 209 l0 (some p12) → xc σ19 < kx_N → ∀ p22, xt σ19 p22 = 0 → p22 ≠ xz σ19 → ∀ σ25, σ25 = xnew σ19 p22 1 → vJx4a65c_init_da8c8 p22 σ25 (fun σ27 => xt σ27 l0 = 13 → ∀ σ29, σ29 = xsr σ27 210 l0 (some p22) → xc σ29 < kx_N → ∀ p32, xt σ29 p32 = 0 → p32 ≠ xz σ29 → ∀ σ35, σ35 = xnew σ29 p32 1 → vJx4a65c_init_da8c8 p32 σ35 (fun σ37 => xt σ37 l0 = 13 → ∀ σ39, σ39 = xsr σ37 211 l0 (some p32) → xc σ39 < kx_N → ∀ p42, xt σ39 p42 = 0 → p42 ≠ xz σ39 → ∀ σ45, σ45 = xnew σ39 p42 1 → vJx4a65c_init_da8c8 p42 σ45 (fun σ47 => xt σ47 l0 = 13 → ∀ σ49, σ49 = xsr σ47 212 l0 (some p42) → xc σ49 < kx_N → ∀ p52, xt σ49 p52 = 0 → p52 ≠ xz σ49 → ∀ σ55, σ55 = xnew σ49 p52 11 → vX9_init p52 σ55 (fun σ57 => xt σ57 l0 = 13 → ∀ σ59, σ59 = xsr σ57 213 l0 (some p52) → xc σ59 < kx_N → ∀ p62, xt σ59 p62 = 0 → p62 ≠ xz σ59 → ∀ σ65, σ65 = xnew σ59 p62 7 → xt σ65 l0 = 13 → ∀ a68, xr σ65 213 l0 = some a68 → vX5_init p62 a68 σ65 (fun σ70 => xt σ70 l0 = 13 → ∀ σ72, σ72 = xsr σ70 214 l0 (some p62) → xc σ72 < kx_N → ∀ p75, xt σ72 p75 = 0 → p75 ≠ xz σ72 → ∀ σ78, σ78 = xnew σ72 p75 5 → vX3_init p75 σ78 (fun σ80 => xt σ80 l0 = 13 → ∀ σ82, σ82 = xsr σ80 215 l0 (some p75) → xc σ82 < kx_N → ¬ (16 : Int32) < 0 → (Int32.toNatClampNeg 16) ≤ 600 → ∀ p84, xt σ82 p84 = 0 → p84 ≠ xz σ82 → ∀ σ90, σ90 = xnewA σ82 p84 21 (Int32.toNatClampNeg 16) → xt σ90 l0 = 13 → ∀ σ93, σ93 = xsr σ90 216 l0 (some p84) → ∀ σ96, σ96 = xsi σ93 219 l0 (-1) → Q σ96))))))))
set_option maxRecDepth 100000 in
set_option maxHeartbeats 4000000 in
theorem jcX11_init {Q Q' Q'' : kx_S → Prop} (hQ : ∀ y0, Q y0 → Q' y0 → Q'' y0) : ∀ (l0 : Nat) (σ : kx_S), wX11_init l0 σ Q → vX11_init l0 σ Q' → wX11_init l0 σ Q'' := by
  intro l0 σ h v
  unfold wX11_init at h
  unfold vX11_init at v
  unfold wX11_init
  refine ⟨h.1, ?_⟩
  have v := v h.1
  have h := h.2
  intro p2 e2 e3
  have h := h p2 e2 e3
  have v := v p2 e2 e3
  intro σ5 e4
  have h := h σ5 e4
  have v := v σ5 e4
  refine jcJx4a65c_init_da8c8 ?_ _ _ h v
  intro σ7 h v
  refine ⟨h.1, ?_⟩
  have v := v h.1
  have h := h.2
  intro σ9 e6
  have h := h σ9 e6
  have v := v σ9 e6
  refine ⟨h.1, ?_⟩
  have v := v h.1
  have h := h.2
  intro p12 e8 e9
  have h := h p12 e8 e9
  have v := v p12 e8 e9
  intro σ15 e10
  have h := h σ15 e10
  have v := v σ15 e10
  refine jcJx4a65c_init_da8c8 ?_ _ _ h v
  intro σ17 h v
  refine ⟨h.1, ?_⟩
  have v := v h.1
  have h := h.2
  intro σ19 e12
  have h := h σ19 e12
  have v := v σ19 e12
  refine ⟨h.1, ?_⟩
  have v := v h.1
  have h := h.2
  intro p22 e14 e15
  have h := h p22 e14 e15
  have v := v p22 e14 e15
  intro σ25 e16
  have h := h σ25 e16
  have v := v σ25 e16
  refine jcJx4a65c_init_da8c8 ?_ _ _ h v
  intro σ27 h v
  refine ⟨h.1, ?_⟩
  have v := v h.1
  have h := h.2
  intro σ29 e18
  have h := h σ29 e18
  have v := v σ29 e18
  refine ⟨h.1, ?_⟩
  have v := v h.1
  have h := h.2
  intro p32 e20 e21
  have h := h p32 e20 e21
  have v := v p32 e20 e21
  intro σ35 e22
  have h := h σ35 e22
  have v := v σ35 e22
  refine jcJx4a65c_init_da8c8 ?_ _ _ h v
  intro σ37 h v
  refine ⟨h.1, ?_⟩
  have v := v h.1
  have h := h.2
  intro σ39 e24
  have h := h σ39 e24
  have v := v σ39 e24
  refine ⟨h.1, ?_⟩
  have v := v h.1
  have h := h.2
  intro p42 e26 e27
  have h := h p42 e26 e27
  have v := v p42 e26 e27
  intro σ45 e28
  have h := h σ45 e28
  have v := v σ45 e28
  refine jcJx4a65c_init_da8c8 ?_ _ _ h v
  intro σ47 h v
  refine ⟨h.1, ?_⟩
  have v := v h.1
  have h := h.2
  intro σ49 e30
  have h := h σ49 e30
  have v := v σ49 e30
  refine ⟨h.1, ?_⟩
  have v := v h.1
  have h := h.2
  intro p52 e32 e33
  have h := h p52 e32 e33
  have v := v p52 e32 e33
  intro σ55 e34
  have h := h σ55 e34
  have v := v σ55 e34
  refine jcX9_init ?_ _ _ h v
  intro σ57 h v
  refine ⟨h.1, ?_⟩
  have v := v h.1
  have h := h.2
  intro σ59 e36
  have h := h σ59 e36
  have v := v σ59 e36
  refine ⟨h.1, ?_⟩
  have v := v h.1
  have h := h.2
  intro p62 e38 e39
  have h := h p62 e38 e39
  have v := v p62 e38 e39
  intro σ65 e40
  have h := h σ65 e40
  have v := v σ65 e40
  refine ⟨h.1, ?_⟩
  have v := v h.1
  have h := h.2
  obtain ⟨a68, e42, h⟩ := h
  refine ⟨a68, e42, ?_⟩
  have v := v a68 e42
  refine jcX5_init ?_ _ _ _ h v
  intro σ70 h v
  refine ⟨h.1, ?_⟩
  have v := v h.1
  have h := h.2
  intro σ72 e44
  have h := h σ72 e44
  have v := v σ72 e44
  refine ⟨h.1, ?_⟩
  have v := v h.1
  have h := h.2
  intro p75 e46 e47
  have h := h p75 e46 e47
  have v := v p75 e46 e47
  intro σ78 e48
  have h := h σ78 e48
  have v := v σ78 e48
  refine jcX3_init ?_ _ _ h v
  intro σ80 h v
  refine ⟨h.1, ?_⟩
  have v := v h.1
  have h := h.2
  intro σ82 e50
  have h := h σ82 e50
  have v := v σ82 e50
  refine ⟨h.1, ?_⟩
  have v := v h.1
  have h := h.2
  refine ⟨h.1, ?_⟩
  have v := v h.1
  have h := h.2
  refine ⟨h.1, ?_⟩
  have v := v h.1
  have h := h.2
  intro p84 e54 e55
  have h := h p84 e54 e55
  have v := v p84 e54 e55
  intro σ90 e56
  have h := h σ90 e56
  have v := v σ90 e56
  refine ⟨h.1, ?_⟩
  have v := v h.1
  have h := h.2
  intro σ93 e58
  have h := h σ93 e58
  have v := v σ93 e58
  intro σ96 e59
  have h := h σ96 e59
  have v := v σ96 e59
  exact hQ _ h v
set_option maxRecDepth 100000 in
set_option maxHeartbeats 4000000 in
theorem jaX11_init {Q Q' : kx_S → Prop} (hQ : ∀ y0, Q y0 → Q' y0) : ∀ (l0 : Nat) (σ : kx_S), wX11_init l0 σ Q → vX11_init l0 σ Q' := by
  intro l0 σ h
  unfold wX11_init at h
  unfold vX11_init
  intro e1
  have h := h.2
  intro p2 e2 e3
  have h := h p2 e2 e3
  intro σ5 e4
  have h := h σ5 e4
  refine jaJx4a65c_init_da8c8 ?_ _ _ h
  intro σ7 h
  intro e5
  have h := h.2
  intro σ9 e6
  have h := h σ9 e6
  intro e7
  have h := h.2
  intro p12 e8 e9
  have h := h p12 e8 e9
  intro σ15 e10
  have h := h σ15 e10
  refine jaJx4a65c_init_da8c8 ?_ _ _ h
  intro σ17 h
  intro e11
  have h := h.2
  intro σ19 e12
  have h := h σ19 e12
  intro e13
  have h := h.2
  intro p22 e14 e15
  have h := h p22 e14 e15
  intro σ25 e16
  have h := h σ25 e16
  refine jaJx4a65c_init_da8c8 ?_ _ _ h
  intro σ27 h
  intro e17
  have h := h.2
  intro σ29 e18
  have h := h σ29 e18
  intro e19
  have h := h.2
  intro p32 e20 e21
  have h := h p32 e20 e21
  intro σ35 e22
  have h := h σ35 e22
  refine jaJx4a65c_init_da8c8 ?_ _ _ h
  intro σ37 h
  intro e23
  have h := h.2
  intro σ39 e24
  have h := h σ39 e24
  intro e25
  have h := h.2
  intro p42 e26 e27
  have h := h p42 e26 e27
  intro σ45 e28
  have h := h σ45 e28
  refine jaJx4a65c_init_da8c8 ?_ _ _ h
  intro σ47 h
  intro e29
  have h := h.2
  intro σ49 e30
  have h := h σ49 e30
  intro e31
  have h := h.2
  intro p52 e32 e33
  have h := h p52 e32 e33
  intro σ55 e34
  have h := h σ55 e34
  refine jaX9_init ?_ _ _ h
  intro σ57 h
  intro e35
  have h := h.2
  intro σ59 e36
  have h := h σ59 e36
  intro e37
  have h := h.2
  intro p62 e38 e39
  have h := h p62 e38 e39
  intro σ65 e40
  have h := h σ65 e40
  intro e41
  have h := h.2
  obtain ⟨a68', e42, h⟩ := h
  intro a68 e43
  have x9 : a68' = a68 := Option.some.inj (e42.symm.trans e43)
  rw [x9] at h
  refine jaX5_init ?_ _ _ _ h
  intro σ70 h
  intro e44
  have h := h.2
  intro σ72 e45
  have h := h σ72 e45
  intro e46
  have h := h.2
  intro p75 e47 e48
  have h := h p75 e47 e48
  intro σ78 e49
  have h := h σ78 e49
  refine jaX3_init ?_ _ _ h
  intro σ80 h
  intro e50
  have h := h.2
  intro σ82 e51
  have h := h σ82 e51
  intro e52
  have h := h.2
  intro e53
  have h := h.2
  intro e54
  have h := h.2
  intro p84 e55 e56
  have h := h p84 e55 e56
  intro σ90 e57
  have h := h σ90 e57
  intro e58
  have h := h.2
  intro σ93 e59
  have h := h σ93 e59
  intro σ96 e60
  have h := h σ96 e60
  exact hQ _ h
set_option maxRecDepth 100000 in
set_option maxHeartbeats 4000000 in
theorem jfX11_init {I : kx_S → Prop} (W : fw_ I [16, 17, 80, 81, 112, 113, 176, 192, 208, 209, 210, 211, 212, 213, 214, 215, 216, 219, 1101, 1105, 1107, 1111, 1112, 1220, 1221]) {Q : kx_S → Prop} (hQ : ∀ y0, I y0 → Q y0) : ∀ (l0 : Nat) (σ : kx_S), I σ → vX11_init l0 σ Q := by
  intro l0 σ i
  unfold vX11_init
  intro e1
  intro p2 e2 e3
  intro σ5 e4
  have iσ5 : I σ5 := by rw [e4]; exact (W _ i).2.2.2.2.2.2.1 1 (by decide) _ e2
  refine jfJx4a65c_init_da8c8 (I := I) (fw_sub W (by decide)) ?_ _ _ iσ5
  intro σ7 iσ7
  intro e5
  intro σ9 e6
  have iσ9 : I σ9 := by rw [e6]; exact ((W _ iσ7).1 208 (by decide)).2.1 _ _
  intro e7
  intro p12 e8 e9
  intro σ15 e10
  have iσ15 : I σ15 := by rw [e10]; exact (W _ iσ9).2.2.2.2.2.2.1 1 (by decide) _ e8
  refine jfJx4a65c_init_da8c8 (I := I) (fw_sub W (by decide)) ?_ _ _ iσ15
  intro σ17 iσ17
  intro e11
  intro σ19 e12
  have iσ19 : I σ19 := by rw [e12]; exact ((W _ iσ17).1 209 (by decide)).2.1 _ _
  intro e13
  intro p22 e14 e15
  intro σ25 e16
  have iσ25 : I σ25 := by rw [e16]; exact (W _ iσ19).2.2.2.2.2.2.1 1 (by decide) _ e14
  refine jfJx4a65c_init_da8c8 (I := I) (fw_sub W (by decide)) ?_ _ _ iσ25
  intro σ27 iσ27
  intro e17
  intro σ29 e18
  have iσ29 : I σ29 := by rw [e18]; exact ((W _ iσ27).1 210 (by decide)).2.1 _ _
  intro e19
  intro p32 e20 e21
  intro σ35 e22
  have iσ35 : I σ35 := by rw [e22]; exact (W _ iσ29).2.2.2.2.2.2.1 1 (by decide) _ e20
  refine jfJx4a65c_init_da8c8 (I := I) (fw_sub W (by decide)) ?_ _ _ iσ35
  intro σ37 iσ37
  intro e23
  intro σ39 e24
  have iσ39 : I σ39 := by rw [e24]; exact ((W _ iσ37).1 211 (by decide)).2.1 _ _
  intro e25
  intro p42 e26 e27
  intro σ45 e28
  have iσ45 : I σ45 := by rw [e28]; exact (W _ iσ39).2.2.2.2.2.2.1 1 (by decide) _ e26
  refine jfJx4a65c_init_da8c8 (I := I) (fw_sub W (by decide)) ?_ _ _ iσ45
  intro σ47 iσ47
  intro e29
  intro σ49 e30
  have iσ49 : I σ49 := by rw [e30]; exact ((W _ iσ47).1 212 (by decide)).2.1 _ _
  intro e31
  intro p52 e32 e33
  intro σ55 e34
  have iσ55 : I σ55 := by rw [e34]; exact (W _ iσ49).2.2.2.2.2.2.1 11 (by decide) _ e32
  refine jfX9_init (I := I) (fw_sub W (by decide)) ?_ _ _ iσ55
  intro σ57 iσ57
  intro e35
  intro σ59 e36
  have iσ59 : I σ59 := by rw [e36]; exact ((W _ iσ57).1 213 (by decide)).2.1 _ _
  intro e37
  intro p62 e38 e39
  intro σ65 e40
  have iσ65 : I σ65 := by rw [e40]; exact (W _ iσ59).2.2.2.2.2.2.1 7 (by decide) _ e38
  intro e41
  intro a68 e42
  refine jfX5_init (I := I) (fw_sub W (by decide)) ?_ _ _ _ iσ65
  intro σ70 iσ70
  intro e43
  intro σ72 e44
  have iσ72 : I σ72 := by rw [e44]; exact ((W _ iσ70).1 214 (by decide)).2.1 _ _
  intro e45
  intro p75 e46 e47
  intro σ78 e48
  have iσ78 : I σ78 := by rw [e48]; exact (W _ iσ72).2.2.2.2.2.2.1 5 (by decide) _ e46
  refine jfX3_init (I := I) (fw_sub W (by decide)) ?_ _ _ iσ78
  intro σ80 iσ80
  intro e49
  intro σ82 e50
  have iσ82 : I σ82 := by rw [e50]; exact ((W _ iσ80).1 215 (by decide)).2.1 _ _
  intro e51
  intro e52
  intro e53
  intro p84 e54 e55
  intro σ90 e56
  have iσ90 : I σ90 := by rw [e56]; exact (W _ iσ82).2.2.2.2.2.2.2 21 (by decide) _ e54 _
  intro e57
  intro σ93 e58
  have iσ93 : I σ93 := by rw [e58]; exact ((W _ iσ90).1 216 (by decide)).2.1 _ _
  intro σ96 e59
  have iσ96 : I σ96 := by rw [e59]; exact ((W _ iσ93).1 219 (by decide)).1 _ _
  exact hQ _ iσ96
def vX11_isWithin (l0 : Int32) (l1 : Int32) (l2 : Int32) (σ : kx_S) (Q : Int32 → kx_S → Prop) : Prop := ((l0 < l1 → Q 0 σ) ∧ (¬ (l0 < l1) → ((l2 < l0 → Q 0 σ) ∧ (¬ (l2 < l0) → Q 1 σ))))
set_option maxRecDepth 100000 in
set_option maxHeartbeats 4000000 in
theorem jcX11_isWithin {Q Q' Q'' : Int32 → kx_S → Prop} (hQ : ∀ y0 y1, Q y0 y1 → Q' y0 y1 → Q'' y0 y1) : ∀ (l0 : Int32) (l1 : Int32) (l2 : Int32) (σ : kx_S), wX11_isWithin l0 l1 l2 σ Q → vX11_isWithin l0 l1 l2 σ Q' → wX11_isWithin l0 l1 l2 σ Q'' := by
  intro l0 l1 l2 σ h v
  unfold wX11_isWithin at h
  unfold vX11_isWithin at v
  unfold wX11_isWithin
  refine ⟨?_, ?_⟩
  · have h := h.1
    have v := v.1
    intro e1
    have h := h e1
    have v := v e1
    exact hQ _ _ h v
  · have h := h.2
    have v := v.2
    intro e2
    have h := h e2
    have v := v e2
    refine ⟨?_, ?_⟩
    · have h := h.1
      have v := v.1
      intro e3
      have h := h e3
      have v := v e3
      exact hQ _ _ h v
    · have h := h.2
      have v := v.2
      intro e4
      have h := h e4
      have v := v e4
      exact hQ _ _ h v
set_option maxRecDepth 100000 in
set_option maxHeartbeats 4000000 in
theorem jaX11_isWithin {Q Q' : Int32 → kx_S → Prop} (hQ : ∀ y0 y1, Q y0 y1 → Q' y0 y1) : ∀ (l0 : Int32) (l1 : Int32) (l2 : Int32) (σ : kx_S), wX11_isWithin l0 l1 l2 σ Q → vX11_isWithin l0 l1 l2 σ Q' := by
  intro l0 l1 l2 σ h
  unfold wX11_isWithin at h
  unfold vX11_isWithin
  refine ⟨?_, ?_⟩
  · have h := h.1
    intro e1
    have h := h e1
    exact hQ _ _ h
  · have h := h.2
    intro e2
    have h := h e2
    refine ⟨?_, ?_⟩
    · have h := h.1
      intro e3
      have h := h e3
      exact hQ _ _ h
    · have h := h.2
      intro e4
      have h := h e4
      exact hQ _ _ h
set_option maxRecDepth 100000 in
set_option maxHeartbeats 4000000 in
theorem jfX11_isWithin {I : kx_S → Prop} (W : fw_ I []) {Q : Int32 → kx_S → Prop} (hQ : ∀ y0 y1, I y1 → Q y0 y1) : ∀ (l0 : Int32) (l1 : Int32) (l2 : Int32) (σ : kx_S), I σ → vX11_isWithin l0 l1 l2 σ Q := by
  intro l0 l1 l2 σ i
  unfold vX11_isWithin
  refine ⟨?_, ?_⟩
  · intro e1
    exact hQ _ _ i
  · intro e2
    refine ⟨?_, ?_⟩
    · intro e3
      exact hQ _ _ i
    · intro e4
      exact hQ _ _ i
def vX11_reachAt (l0 : Nat) (l1 : Int32) (σ : kx_S) (Q : Nat → kx_S → Prop) (QX : String → kx_S → Prop) : Prop := xt σ l0 = 13 → ∀ a2, xr σ 208 l0 = some a2 → xt σ a2 = 1 → vJx4a65c_size_8abf5 a2 σ (fun r5 σ4 => vX11_isWithin l1 0 (r5 - 1) σ4 (fun r8 σ7 => ((¬ r8 = 0 → xt σ7 l0 = 13 → ∀ a11, xr σ7 208 l0 = some a11 → xt σ7 a11 = 1 → vJx4a65c_get_915e3 a11 l1 σ7 (fun q14 σ13 => ∀ a16, q14 = some a16 → xt σ13 a16 = 10 → Q a16 σ13)) ∧ (r8 = 0 → xc σ7 < kx_N → QX pz_N (xbump σ7)))))
set_option maxRecDepth 100000 in
set_option maxHeartbeats 4000000 in
theorem jcX11_reachAt {Q Q' Q'' : Nat → kx_S → Prop} (hQ : ∀ y0 y1, Q y0 y1 → Q' y0 y1 → Q'' y0 y1) {QX QX' QX'' : String → kx_S → Prop} (hX : ∀ y0 y1, QX y0 y1 → QX' y0 y1 → QX'' y0 y1) : ∀ (l0 : Nat) (l1 : Int32) (σ : kx_S), wX11_reachAt l0 l1 σ Q QX → vX11_reachAt l0 l1 σ Q' QX' → wX11_reachAt l0 l1 σ Q'' QX'' := by
  intro l0 l1 σ h v
  unfold wX11_reachAt at h
  unfold vX11_reachAt at v
  unfold wX11_reachAt
  refine ⟨h.1, ?_⟩
  have v := v h.1
  have h := h.2
  obtain ⟨a2, e2, h⟩ := h
  refine ⟨a2, e2, ?_⟩
  have v := v a2 e2
  refine ⟨h.1, ?_⟩
  have v := v h.1
  have h := h.2
  refine jcJx4a65c_size_8abf5 ?_ _ _ h v
  intro r5 σ4 h v
  refine jcX11_isWithin ?_ _ _ _ _ h v
  intro r8 σ7 h v
  refine ⟨?_, ?_⟩
  · have h := h.1
    have v := v.1
    intro e4
    have h := h e4
    have v := v e4
    refine ⟨h.1, ?_⟩
    have v := v h.1
    have h := h.2
    obtain ⟨a11, e6, h⟩ := h
    refine ⟨a11, e6, ?_⟩
    have v := v a11 e6
    refine ⟨h.1, ?_⟩
    have v := v h.1
    have h := h.2
    refine jcJx4a65c_get_915e3 ?_ _ _ _ h v
    intro q14 σ13 h v
    obtain ⟨a16, e8, h⟩ := h
    refine ⟨a16, e8, ?_⟩
    have v := v a16 e8
    refine ⟨h.1, ?_⟩
    have v := v h.1
    have h := h.2
    exact hQ _ _ h v
  · have h := h.2
    have v := v.2
    intro e10
    have h := h e10
    have v := v e10
    refine ⟨h.1, ?_⟩
    have v := v h.1
    have h := h.2
    exact hX _ _ h v
set_option maxRecDepth 100000 in
set_option maxHeartbeats 4000000 in
theorem jaX11_reachAt {Q Q' : Nat → kx_S → Prop} (hQ : ∀ y0 y1, Q y0 y1 → Q' y0 y1) {QX QX' : String → kx_S → Prop} (hX : ∀ y0 y1, QX y0 y1 → QX' y0 y1) : ∀ (l0 : Nat) (l1 : Int32) (σ : kx_S), wX11_reachAt l0 l1 σ Q QX → vX11_reachAt l0 l1 σ Q' QX' := by
  intro l0 l1 σ h
  unfold wX11_reachAt at h
  unfold vX11_reachAt
  intro e1
  have h := h.2
  obtain ⟨a2', e2, h⟩ := h
  intro a2 e3
  have x9 : a2' = a2 := Option.some.inj (e2.symm.trans e3)
  rw [x9] at h
  intro e4
  have h := h.2
  refine jaJx4a65c_size_8abf5 ?_ _ _ h
  intro r5 σ4 h
  refine jaX11_isWithin ?_ _ _ _ _ h
  intro r8 σ7 h
  refine ⟨?_, ?_⟩
  · have h := h.1
    intro e5
    have h := h e5
    intro e6
    have h := h.2
    obtain ⟨a11', e7, h⟩ := h
    intro a11 e8
    have x9 : a11' = a11 := Option.some.inj (e7.symm.trans e8)
    rw [x9] at h
    intro e9
    have h := h.2
    refine jaJx4a65c_get_915e3 ?_ _ _ _ h
    intro q14 σ13 h
    obtain ⟨a16', e10, h⟩ := h
    intro a16 e11
    have x9 : a16' = a16 := Option.some.inj (e10.symm.trans e11)
    rw [x9] at h
    intro e12
    have h := h.2
    exact hQ _ _ h
  · have h := h.2
    intro e13
    have h := h e13
    intro e14
    have h := h.2
    exact hX _ _ h
set_option maxRecDepth 100000 in
set_option maxHeartbeats 4000000 in
theorem jfX11_reachAt {I : kx_S → Prop} (W : fw_ I [1005]) {Q : Nat → kx_S → Prop} (hQ : ∀ y0 y1, I y1 → Q y0 y1) {QX : String → kx_S → Prop} (hX : ∀ y0 y1, I y1 → QX y0 y1) : ∀ (l0 : Nat) (l1 : Int32) (σ : kx_S), I σ → vX11_reachAt l0 l1 σ Q QX := by
  intro l0 l1 σ i
  unfold vX11_reachAt
  intro e1
  intro a2 e2
  intro e3
  refine jfJx4a65c_size_8abf5 (I := I) (fw_sub W (by decide)) ?_ _ _ i
  intro r5 σ4 iσ4
  refine jfX11_isWithin (I := I) (fw_sub W (by decide)) ?_ _ _ _ _ iσ4
  intro r8 σ7 iσ7
  refine ⟨?_, ?_⟩
  · intro e4
    intro e5
    intro a11 e6
    intro e7
    refine jfJx4a65c_get_915e3 (I := I) (fw_sub W (by decide)) ?_ _ _ _ iσ7
    intro q14 σ13 iσ13
    intro a16 e8
    intro e9
    exact hQ _ _ iσ13
  · intro e10
    intro e11
    exact hX _ _ ((W _ iσ7).2.2.2.2.2.1 (by decide))
def vX11_logAt (l0 : Nat) (l1 : Int32) (σ : kx_S) (Q : Nat → kx_S → Prop) (QX : String → kx_S → Prop) : Prop := xt σ l0 = 13 → ∀ a2, xr σ 209 l0 = some a2 → xt σ a2 = 1 → vJx4a65c_size_8abf5 a2 σ (fun r5 σ4 => vX11_isWithin l1 0 (r5 - 1) σ4 (fun r8 σ7 => ((¬ r8 = 0 → xt σ7 l0 = 13 → ∀ a11, xr σ7 209 l0 = some a11 → xt σ7 a11 = 1 → vJx4a65c_get_915e3 a11 l1 σ7 (fun q14 σ13 => ∀ a16, q14 = some a16 → xt σ13 a16 = 8 → Q a16 σ13)) ∧ (r8 = 0 → xc σ7 < kx_N → QX pz_N (xbump σ7)))))
set_option maxRecDepth 100000 in
set_option maxHeartbeats 4000000 in
theorem jcX11_logAt {Q Q' Q'' : Nat → kx_S → Prop} (hQ : ∀ y0 y1, Q y0 y1 → Q' y0 y1 → Q'' y0 y1) {QX QX' QX'' : String → kx_S → Prop} (hX : ∀ y0 y1, QX y0 y1 → QX' y0 y1 → QX'' y0 y1) : ∀ (l0 : Nat) (l1 : Int32) (σ : kx_S), wX11_logAt l0 l1 σ Q QX → vX11_logAt l0 l1 σ Q' QX' → wX11_logAt l0 l1 σ Q'' QX'' := by
  intro l0 l1 σ h v
  unfold wX11_logAt at h
  unfold vX11_logAt at v
  unfold wX11_logAt
  refine ⟨h.1, ?_⟩
  have v := v h.1
  have h := h.2
  obtain ⟨a2, e2, h⟩ := h
  refine ⟨a2, e2, ?_⟩
  have v := v a2 e2
  refine ⟨h.1, ?_⟩
  have v := v h.1
  have h := h.2
  refine jcJx4a65c_size_8abf5 ?_ _ _ h v
  intro r5 σ4 h v
  refine jcX11_isWithin ?_ _ _ _ _ h v
  intro r8 σ7 h v
  refine ⟨?_, ?_⟩
  · have h := h.1
    have v := v.1
    intro e4
    have h := h e4
    have v := v e4
    refine ⟨h.1, ?_⟩
    have v := v h.1
    have h := h.2
    obtain ⟨a11, e6, h⟩ := h
    refine ⟨a11, e6, ?_⟩
    have v := v a11 e6
    refine ⟨h.1, ?_⟩
    have v := v h.1
    have h := h.2
    refine jcJx4a65c_get_915e3 ?_ _ _ _ h v
    intro q14 σ13 h v
    obtain ⟨a16, e8, h⟩ := h
    refine ⟨a16, e8, ?_⟩
    have v := v a16 e8
    refine ⟨h.1, ?_⟩
    have v := v h.1
    have h := h.2
    exact hQ _ _ h v
  · have h := h.2
    have v := v.2
    intro e10
    have h := h e10
    have v := v e10
    refine ⟨h.1, ?_⟩
    have v := v h.1
    have h := h.2
    exact hX _ _ h v
set_option maxRecDepth 100000 in
set_option maxHeartbeats 4000000 in
theorem jaX11_logAt {Q Q' : Nat → kx_S → Prop} (hQ : ∀ y0 y1, Q y0 y1 → Q' y0 y1) {QX QX' : String → kx_S → Prop} (hX : ∀ y0 y1, QX y0 y1 → QX' y0 y1) : ∀ (l0 : Nat) (l1 : Int32) (σ : kx_S), wX11_logAt l0 l1 σ Q QX → vX11_logAt l0 l1 σ Q' QX' := by
  intro l0 l1 σ h
  unfold wX11_logAt at h
  unfold vX11_logAt
  intro e1
  have h := h.2
  obtain ⟨a2', e2, h⟩ := h
  intro a2 e3
  have x9 : a2' = a2 := Option.some.inj (e2.symm.trans e3)
  rw [x9] at h
  intro e4
  have h := h.2
  refine jaJx4a65c_size_8abf5 ?_ _ _ h
  intro r5 σ4 h
  refine jaX11_isWithin ?_ _ _ _ _ h
  intro r8 σ7 h
  refine ⟨?_, ?_⟩
  · have h := h.1
    intro e5
    have h := h e5
    intro e6
    have h := h.2
    obtain ⟨a11', e7, h⟩ := h
    intro a11 e8
    have x9 : a11' = a11 := Option.some.inj (e7.symm.trans e8)
    rw [x9] at h
    intro e9
    have h := h.2
    refine jaJx4a65c_get_915e3 ?_ _ _ _ h
    intro q14 σ13 h
    obtain ⟨a16', e10, h⟩ := h
    intro a16 e11
    have x9 : a16' = a16 := Option.some.inj (e10.symm.trans e11)
    rw [x9] at h
    intro e12
    have h := h.2
    exact hQ _ _ h
  · have h := h.2
    intro e13
    have h := h e13
    intro e14
    have h := h.2
    exact hX _ _ h
set_option maxRecDepth 100000 in
set_option maxHeartbeats 4000000 in
theorem jfX11_logAt {I : kx_S → Prop} (W : fw_ I [1005]) {Q : Nat → kx_S → Prop} (hQ : ∀ y0 y1, I y1 → Q y0 y1) {QX : String → kx_S → Prop} (hX : ∀ y0 y1, I y1 → QX y0 y1) : ∀ (l0 : Nat) (l1 : Int32) (σ : kx_S), I σ → vX11_logAt l0 l1 σ Q QX := by
  intro l0 l1 σ i
  unfold vX11_logAt
  intro e1
  intro a2 e2
  intro e3
  refine jfJx4a65c_size_8abf5 (I := I) (fw_sub W (by decide)) ?_ _ _ i
  intro r5 σ4 iσ4
  refine jfX11_isWithin (I := I) (fw_sub W (by decide)) ?_ _ _ _ _ iσ4
  intro r8 σ7 iσ7
  refine ⟨?_, ?_⟩
  · intro e4
    intro e5
    intro a11 e6
    intro e7
    refine jfJx4a65c_get_915e3 (I := I) (fw_sub W (by decide)) ?_ _ _ _ iσ7
    intro q14 σ13 iσ13
    intro a16 e8
    intro e9
    exact hQ _ _ iσ13
  · intro e10
    intro e11
    exact hX _ _ ((W _ iσ7).2.2.2.2.2.1 (by decide))
def vX11_checkCell (l0 : Nat) (l1 : Int32) (σ : kx_S) (Q : kx_S → Prop) (QX : String → kx_S → Prop) : Prop := xt σ l0 = 10 → ∀ a2, xr σ 163 l0 = some a2 → xt σ a2 = 1 → vJx4a65c_size_8abf5 a2 σ (fun r5 σ4 => vX11_isWithin l1 0 (r5 - 1) σ4 (fun r8 σ7 => ((¬ r8 = 0 → Q σ7) ∧ (r8 = 0 → xc σ7 < kx_N → QX pz_N (xbump σ7)))))
set_option maxRecDepth 100000 in
set_option maxHeartbeats 4000000 in
theorem jcX11_checkCell {Q Q' Q'' : kx_S → Prop} (hQ : ∀ y0, Q y0 → Q' y0 → Q'' y0) {QX QX' QX'' : String → kx_S → Prop} (hX : ∀ y0 y1, QX y0 y1 → QX' y0 y1 → QX'' y0 y1) : ∀ (l0 : Nat) (l1 : Int32) (σ : kx_S), wX11_checkCell l0 l1 σ Q QX → vX11_checkCell l0 l1 σ Q' QX' → wX11_checkCell l0 l1 σ Q'' QX'' := by
  intro l0 l1 σ h v
  unfold wX11_checkCell at h
  unfold vX11_checkCell at v
  unfold wX11_checkCell
  refine ⟨h.1, ?_⟩
  have v := v h.1
  have h := h.2
  obtain ⟨a2, e2, h⟩ := h
  refine ⟨a2, e2, ?_⟩
  have v := v a2 e2
  refine ⟨h.1, ?_⟩
  have v := v h.1
  have h := h.2
  refine jcJx4a65c_size_8abf5 ?_ _ _ h v
  intro r5 σ4 h v
  refine jcX11_isWithin ?_ _ _ _ _ h v
  intro r8 σ7 h v
  refine ⟨?_, ?_⟩
  · have h := h.1
    have v := v.1
    intro e4
    have h := h e4
    have v := v e4
    exact hQ _ h v
  · have h := h.2
    have v := v.2
    intro e5
    have h := h e5
    have v := v e5
    refine ⟨h.1, ?_⟩
    have v := v h.1
    have h := h.2
    exact hX _ _ h v
set_option maxRecDepth 100000 in
set_option maxHeartbeats 4000000 in
theorem jaX11_checkCell {Q Q' : kx_S → Prop} (hQ : ∀ y0, Q y0 → Q' y0) {QX QX' : String → kx_S → Prop} (hX : ∀ y0 y1, QX y0 y1 → QX' y0 y1) : ∀ (l0 : Nat) (l1 : Int32) (σ : kx_S), wX11_checkCell l0 l1 σ Q QX → vX11_checkCell l0 l1 σ Q' QX' := by
  intro l0 l1 σ h
  unfold wX11_checkCell at h
  unfold vX11_checkCell
  intro e1
  have h := h.2
  obtain ⟨a2', e2, h⟩ := h
  intro a2 e3
  have x9 : a2' = a2 := Option.some.inj (e2.symm.trans e3)
  rw [x9] at h
  intro e4
  have h := h.2
  refine jaJx4a65c_size_8abf5 ?_ _ _ h
  intro r5 σ4 h
  refine jaX11_isWithin ?_ _ _ _ _ h
  intro r8 σ7 h
  refine ⟨?_, ?_⟩
  · have h := h.1
    intro e5
    have h := h e5
    exact hQ _ h
  · have h := h.2
    intro e6
    have h := h e6
    intro e7
    have h := h.2
    exact hX _ _ h
set_option maxRecDepth 100000 in
set_option maxHeartbeats 4000000 in
theorem jfX11_checkCell {I : kx_S → Prop} (W : fw_ I [1005]) {Q : kx_S → Prop} (hQ : ∀ y0, I y0 → Q y0) {QX : String → kx_S → Prop} (hX : ∀ y0 y1, I y1 → QX y0 y1) : ∀ (l0 : Nat) (l1 : Int32) (σ : kx_S), I σ → vX11_checkCell l0 l1 σ Q QX := by
  intro l0 l1 σ i
  unfold vX11_checkCell
  intro e1
  intro a2 e2
  intro e3
  refine jfJx4a65c_size_8abf5 (I := I) (fw_sub W (by decide)) ?_ _ _ i
  intro r5 σ4 iσ4
  refine jfX11_isWithin (I := I) (fw_sub W (by decide)) ?_ _ _ _ _ iσ4
  intro r8 σ7 iσ7
  refine ⟨?_, ?_⟩
  · intro e4
    exact hQ _ iσ7
  · intro e5
    intro e6
    exact hX _ _ ((W _ iσ7).2.2.2.2.2.1 (by decide))
def vX11_numberAt (l0 : Nat) (l1 : Int32) (σ : kx_S) (Q : Int32 → kx_S → Prop) : Prop := xt σ l0 = 1 → vJx4a65c_size_8abf5 l0 σ (fun r2 σ1 => vX11_isWithin l1 0 (r2 - 1) σ1 (fun r5 σ4 => ((r5 = 0 → Q (-1) σ4) ∧ (¬ (r5 = 0) → xt σ4 l0 = 1 → vJx4a65c_get_915e3 l0 l1 σ4 (fun q8 σ7 => ∀ a10, q8 = some a10 → xt σ7 a10 = 8 → Q (xi σ7 128 a10) σ7)))))
set_option maxRecDepth 100000 in
set_option maxHeartbeats 4000000 in
theorem jcX11_numberAt {Q Q' Q'' : Int32 → kx_S → Prop} (hQ : ∀ y0 y1, Q y0 y1 → Q' y0 y1 → Q'' y0 y1) : ∀ (l0 : Nat) (l1 : Int32) (σ : kx_S), wX11_numberAt l0 l1 σ Q → vX11_numberAt l0 l1 σ Q' → wX11_numberAt l0 l1 σ Q'' := by
  intro l0 l1 σ h v
  unfold wX11_numberAt at h
  unfold vX11_numberAt at v
  unfold wX11_numberAt
  refine ⟨h.1, ?_⟩
  have v := v h.1
  have h := h.2
  refine jcJx4a65c_size_8abf5 ?_ _ _ h v
  intro r2 σ1 h v
  refine jcX11_isWithin ?_ _ _ _ _ h v
  intro r5 σ4 h v
  refine ⟨?_, ?_⟩
  · have h := h.1
    have v := v.1
    intro e2
    have h := h e2
    have v := v e2
    exact hQ _ _ h v
  · have h := h.2
    have v := v.2
    intro e3
    have h := h e3
    have v := v e3
    refine ⟨h.1, ?_⟩
    have v := v h.1
    have h := h.2
    refine jcJx4a65c_get_915e3 ?_ _ _ _ h v
    intro q8 σ7 h v
    obtain ⟨a10, e5, h⟩ := h
    refine ⟨a10, e5, ?_⟩
    have v := v a10 e5
    refine ⟨h.1, ?_⟩
    have v := v h.1
    have h := h.2
    exact hQ _ _ h v
set_option maxRecDepth 100000 in
set_option maxHeartbeats 4000000 in
theorem jaX11_numberAt {Q Q' : Int32 → kx_S → Prop} (hQ : ∀ y0 y1, Q y0 y1 → Q' y0 y1) : ∀ (l0 : Nat) (l1 : Int32) (σ : kx_S), wX11_numberAt l0 l1 σ Q → vX11_numberAt l0 l1 σ Q' := by
  intro l0 l1 σ h
  unfold wX11_numberAt at h
  unfold vX11_numberAt
  intro e1
  have h := h.2
  refine jaJx4a65c_size_8abf5 ?_ _ _ h
  intro r2 σ1 h
  refine jaX11_isWithin ?_ _ _ _ _ h
  intro r5 σ4 h
  refine ⟨?_, ?_⟩
  · have h := h.1
    intro e2
    have h := h e2
    exact hQ _ _ h
  · have h := h.2
    intro e3
    have h := h e3
    intro e4
    have h := h.2
    refine jaJx4a65c_get_915e3 ?_ _ _ _ h
    intro q8 σ7 h
    obtain ⟨a10', e5, h⟩ := h
    intro a10 e6
    have x9 : a10' = a10 := Option.some.inj (e5.symm.trans e6)
    rw [x9] at h
    intro e7
    have h := h.2
    exact hQ _ _ h
set_option maxRecDepth 100000 in
set_option maxHeartbeats 4000000 in
theorem jfX11_numberAt {I : kx_S → Prop} (W : fw_ I []) {Q : Int32 → kx_S → Prop} (hQ : ∀ y0 y1, I y1 → Q y0 y1) : ∀ (l0 : Nat) (l1 : Int32) (σ : kx_S), I σ → vX11_numberAt l0 l1 σ Q := by
  intro l0 l1 σ i
  unfold vX11_numberAt
  intro e1
  refine jfJx4a65c_size_8abf5 (I := I) (fw_sub W (by decide)) ?_ _ _ i
  intro r2 σ1 iσ1
  refine jfX11_isWithin (I := I) (fw_sub W (by decide)) ?_ _ _ _ _ iσ1
  intro r5 σ4 iσ4
  refine ⟨?_, ?_⟩
  · intro e2
    exact hQ _ _ iσ4
  · intro e3
    intro e4
    refine jfJx4a65c_get_915e3 (I := I) (fw_sub W (by decide)) ?_ _ _ _ iσ4
    intro q8 σ7 iσ7
    intro a10 e5
    intro e6
    exact hQ _ _ iσ7
def vX11_reach_148 (Q : Int32 → kx_S → Prop) (l0 : Nat) (l6 : Nat) (σ : kx_S) : Prop := xt σ l0 = 13 → ∀ a2, xr σ 208 l0 = some a2 → xt σ a2 = 1 → vJx4a65c_add_9ea2d a2 l6 σ (fun r5 σ4 => xt σ4 l6 = 10 → Q (xi σ4 160 l6) σ4)
set_option maxRecDepth 100000 in
set_option maxHeartbeats 4000000 in
theorem jcX11_reach_148 {Q Q' Q'' : Int32 → kx_S → Prop} (hQ : ∀ y0 y1, Q y0 y1 → Q' y0 y1 → Q'' y0 y1) : ∀ (l0 : Nat) (l6 : Nat) (σ : kx_S), wX11_reach_148 Q l0 l6 σ → vX11_reach_148 Q' l0 l6 σ → wX11_reach_148 Q'' l0 l6 σ := by
  intro l0 l6 σ h v
  unfold wX11_reach_148 at h
  unfold vX11_reach_148 at v
  unfold wX11_reach_148
  refine ⟨h.1, ?_⟩
  have v := v h.1
  have h := h.2
  obtain ⟨a2, e2, h⟩ := h
  refine ⟨a2, e2, ?_⟩
  have v := v a2 e2
  refine ⟨h.1, ?_⟩
  have v := v h.1
  have h := h.2
  refine jcJx4a65c_add_9ea2d ?_ _ _ _ h v
  intro r5 σ4 h v
  refine ⟨h.1, ?_⟩
  have v := v h.1
  have h := h.2
  exact hQ _ _ h v
set_option maxRecDepth 100000 in
set_option maxHeartbeats 4000000 in
theorem jaX11_reach_148 {Q Q' : Int32 → kx_S → Prop} (hQ : ∀ y0 y1, Q y0 y1 → Q' y0 y1) : ∀ (l0 : Nat) (l6 : Nat) (σ : kx_S), wX11_reach_148 Q l0 l6 σ → vX11_reach_148 Q' l0 l6 σ := by
  intro l0 l6 σ h
  unfold wX11_reach_148 at h
  unfold vX11_reach_148
  intro e1
  have h := h.2
  obtain ⟨a2', e2, h⟩ := h
  intro a2 e3
  have x9 : a2' = a2 := Option.some.inj (e2.symm.trans e3)
  rw [x9] at h
  intro e4
  have h := h.2
  refine jaJx4a65c_add_9ea2d ?_ _ _ _ h
  intro r5 σ4 h
  intro e5
  have h := h.2
  exact hQ _ _ h
set_option maxRecDepth 100000 in
set_option maxHeartbeats 4000000 in
theorem jfX11_reach_148 {I : kx_S → Prop} (W : fw_ I [16, 17, 18, 1003, 1222]) {Q : Int32 → kx_S → Prop} (hQ : ∀ y0 y1, I y1 → Q y0 y1) : ∀ (l0 : Nat) (l6 : Nat) (σ : kx_S), I σ → vX11_reach_148 Q l0 l6 σ := by
  intro l0 l6 σ i
  unfold vX11_reach_148
  intro e1
  intro a2 e2
  intro e3
  refine jfJx4a65c_add_9ea2d (I := I) (fw_sub W (by decide)) ?_ _ _ _ i
  intro r5 σ4 iσ4
  intro e4
  exact hQ _ _ iσ4
def vX11_reach_117 (k148 : Nat → Nat → kx_S → Prop) (Q : Int32 → kx_S → Prop) : Nat → Nat → Int32 → Int32 → Nat → Int32 → kx_S → Prop
  | 0, _, _, _, _, _, _ => True
  | n + 1, l0, l2, l3, l6, l7, σ => ((l2 ≤ l7 → k148 l0 l6 σ) ∧ (¬ (l2 ≤ l7) → xt σ l6 = 10 → ∀ a10, xr σ 163 l6 = some a10 → xc σ < kx_N → ∀ p13, xt σ p13 = 0 → p13 ≠ xz σ → ∀ σ16, σ16 = xnew σ p13 3 → vX1_init p13 l3 σ16 (fun σ18 => xt σ18 a10 = 1 → vJx4a65c_add_9ea2d a10 p13 σ18 (fun r20 σ19 => ∀ v22 : Int32, v22 = l7 + 1 → vX11_reach_117 k148 Q n l0 l2 l3 l6 v22 σ19))))
set_option maxRecDepth 100000 in
set_option maxHeartbeats 4000000 in
theorem jcX11_reach_117 {k148 k148' k148'' : Nat → Nat → kx_S → Prop} (hk148 : ∀ y0 y1 y2, k148 y0 y1 y2 → k148' y0 y1 y2 → k148'' y0 y1 y2) {Q Q' Q'' : Int32 → kx_S → Prop} (hQ : ∀ y0 y1, Q y0 y1 → Q' y0 y1 → Q'' y0 y1) : ∀ (n : Nat) (l0 : Nat) (l2 : Int32) (l3 : Int32) (l6 : Nat) (l7 : Int32) (σ : kx_S), wX11_reach_117 k148 Q n l0 l2 l3 l6 l7 σ → vX11_reach_117 k148' Q' n l0 l2 l3 l6 l7 σ → wX11_reach_117 k148'' Q'' n l0 l2 l3 l6 l7 σ := by
  intro n
  induction n with
  | zero => intro l0 l2 l3 l6 l7 σ h; exact h.elim
  | succ n ih =>
    intro l0 l2 l3 l6 l7 σ h v
    unfold wX11_reach_117 at h
    unfold vX11_reach_117 at v
    unfold wX11_reach_117
    refine ⟨?_, ?_⟩
    · have h := h.1
      have v := v.1
      intro e1
      have h := h e1
      have v := v e1
      exact hk148 _ _ _ h v
    · have h := h.2
      have v := v.2
      intro e2
      have h := h e2
      have v := v e2
      refine ⟨h.1, ?_⟩
      have v := v h.1
      have h := h.2
      obtain ⟨a10, e4, h⟩ := h
      refine ⟨a10, e4, ?_⟩
      have v := v a10 e4
      refine ⟨h.1, ?_⟩
      have v := v h.1
      have h := h.2
      intro p13 e6 e7
      have h := h p13 e6 e7
      have v := v p13 e6 e7
      intro σ16 e8
      have h := h σ16 e8
      have v := v σ16 e8
      refine jcX1_init ?_ _ _ _ h v
      intro σ18 h v
      refine ⟨h.1, ?_⟩
      have v := v h.1
      have h := h.2
      refine jcJx4a65c_add_9ea2d ?_ _ _ _ h v
      intro r20 σ19 h v
      intro v22 e10
      have h := h v22 e10
      have v := v v22 e10
      exact ih _ _ _ _ _ _ h v
set_option maxRecDepth 100000 in
set_option maxHeartbeats 4000000 in
theorem jaX11_reach_117 {k148 k148' : Nat → Nat → kx_S → Prop} (hk148 : ∀ y0 y1 y2, k148 y0 y1 y2 → k148' y0 y1 y2) {Q Q' : Int32 → kx_S → Prop} (hQ : ∀ y0 y1, Q y0 y1 → Q' y0 y1) : ∀ (n m : Nat) (l0 : Nat) (l2 : Int32) (l3 : Int32) (l6 : Nat) (l7 : Int32) (σ : kx_S), wX11_reach_117 k148 Q n l0 l2 l3 l6 l7 σ → vX11_reach_117 k148' Q' m l0 l2 l3 l6 l7 σ := by
  intro n
  induction n with
  | zero => intro m l0 l2 l3 l6 l7 σ h; exact h.elim
  | succ n ih =>
    intro m l0 l2 l3 l6 l7 σ h
    cases m with
    | zero => exact trivial
    | succ m =>
      unfold wX11_reach_117 at h
      unfold vX11_reach_117
      refine ⟨?_, ?_⟩
      · have h := h.1
        intro e1
        have h := h e1
        exact hk148 _ _ _ h
      · have h := h.2
        intro e2
        have h := h e2
        intro e3
        have h := h.2
        obtain ⟨a10', e4, h⟩ := h
        intro a10 e5
        have x9 : a10' = a10 := Option.some.inj (e4.symm.trans e5)
        rw [x9] at h
        intro e6
        have h := h.2
        intro p13 e7 e8
        have h := h p13 e7 e8
        intro σ16 e9
        have h := h σ16 e9
        refine jaX1_init ?_ _ _ _ h
        intro σ18 h
        intro e10
        have h := h.2
        refine jaJx4a65c_add_9ea2d ?_ _ _ _ h
        intro r20 σ19 h
        intro v22 e11
        have h := h v22 e11
        exact ih m _ _ _ _ _ _ h
set_option maxRecDepth 100000 in
set_option maxHeartbeats 4000000 in
theorem jfX11_reach_117 {I : kx_S → Prop} (W : fw_ I [16, 17, 18, 48, 49, 1003, 1101, 1103, 1222]) {k148 : Nat → Nat → kx_S → Prop} (hk148 : ∀ y0 y1 y2, I y2 → k148 y0 y1 y2) {Q : Int32 → kx_S → Prop} (hQ : ∀ y0 y1, I y1 → Q y0 y1) : ∀ (n : Nat) (l0 : Nat) (l2 : Int32) (l3 : Int32) (l6 : Nat) (l7 : Int32) (σ : kx_S), I σ → vX11_reach_117 k148 Q n l0 l2 l3 l6 l7 σ := by
  intro n
  induction n with
  | zero => intro l0 l2 l3 l6 l7 σ i; exact trivial
  | succ n ih =>
    intro l0 l2 l3 l6 l7 σ i
    unfold vX11_reach_117
    refine ⟨?_, ?_⟩
    · intro e1
      exact hk148 _ _ _ i
    · intro e2
      intro e3
      intro a10 e4
      intro e5
      intro p13 e6 e7
      intro σ16 e8
      have iσ16 : I σ16 := by rw [e8]; exact (W _ i).2.2.2.2.2.2.1 3 (by decide) _ e6
      refine jfX1_init (I := I) (fw_sub W (by decide)) ?_ _ _ _ iσ16
      intro σ18 iσ18
      intro e9
      refine jfJx4a65c_add_9ea2d (I := I) (fw_sub W (by decide)) ?_ _ _ _ iσ18
      intro r20 σ19 iσ19
      intro v22 e10
      exact ih _ _ _ _ _ _ iσ19
def vX11_reach_90 (Q : Int32 → kx_S → Prop) (l0 : Nat) (l2 : Int32) (l3 : Int32) (l4 : Int32) (s0 : Option Nat) (σ : kx_S) : Prop := xc σ < kx_N → ∀ p24, xt σ p24 = 0 → p24 ≠ xz σ → ∀ σ27, σ27 = xnew σ p24 10 → xt σ27 l0 = 13 → ∀ a30, xr σ27 208 l0 = some a30 → xt σ27 a30 = 1 → vJx4a65c_size_8abf5 a30 σ27 (fun r33 σ32 => vX8_init p24 r33 s0 l4 σ32 (fun σ35 => ∀ j, vX11_reach_117 (vX11_reach_148 Q) Q j l0 l2 l3 p24 0 σ35))
set_option maxRecDepth 100000 in
set_option maxHeartbeats 4000000 in
theorem jcX11_reach_90 {Q Q' Q'' : Int32 → kx_S → Prop} (hQ : ∀ y0 y1, Q y0 y1 → Q' y0 y1 → Q'' y0 y1) : ∀ (l0 : Nat) (l2 : Int32) (l3 : Int32) (l4 : Int32) (s0 : Option Nat) (σ : kx_S), wX11_reach_90 Q l0 l2 l3 l4 s0 σ → vX11_reach_90 Q' l0 l2 l3 l4 s0 σ → wX11_reach_90 Q'' l0 l2 l3 l4 s0 σ := by
  intro l0 l2 l3 l4 s0 σ h v
  unfold wX11_reach_90 at h
  unfold vX11_reach_90 at v
  unfold wX11_reach_90
  refine ⟨h.1, ?_⟩
  have v := v h.1
  have h := h.2
  intro p24 e2 e3
  have h := h p24 e2 e3
  have v := v p24 e2 e3
  intro σ27 e4
  have h := h σ27 e4
  have v := v σ27 e4
  refine ⟨h.1, ?_⟩
  have v := v h.1
  have h := h.2
  obtain ⟨a30, e6, h⟩ := h
  refine ⟨a30, e6, ?_⟩
  have v := v a30 e6
  refine ⟨h.1, ?_⟩
  have v := v h.1
  have h := h.2
  refine jcJx4a65c_size_8abf5 ?_ _ _ h v
  intro r33 σ32 h v
  refine jcX8_init ?_ _ _ _ _ _ h v
  intro σ35 h v
  obtain ⟨j, h⟩ := h
  refine ⟨j, ?_⟩
  have v := v j
  exact jcX11_reach_117 (k148 := wX11_reach_148 Q) (k148' := vX11_reach_148 Q') (k148'' := wX11_reach_148 Q'') (fun _ _ _ h v => jcX11_reach_148 hQ _ _ _ h v) hQ _ _ _ _ _ _ _ h v
set_option maxRecDepth 100000 in
set_option maxHeartbeats 4000000 in
theorem jaX11_reach_90 {Q Q' : Int32 → kx_S → Prop} (hQ : ∀ y0 y1, Q y0 y1 → Q' y0 y1) : ∀ (l0 : Nat) (l2 : Int32) (l3 : Int32) (l4 : Int32) (s0 : Option Nat) (σ : kx_S), wX11_reach_90 Q l0 l2 l3 l4 s0 σ → vX11_reach_90 Q' l0 l2 l3 l4 s0 σ := by
  intro l0 l2 l3 l4 s0 σ h
  unfold wX11_reach_90 at h
  unfold vX11_reach_90
  intro e1
  have h := h.2
  intro p24 e2 e3
  have h := h p24 e2 e3
  intro σ27 e4
  have h := h σ27 e4
  intro e5
  have h := h.2
  obtain ⟨a30', e6, h⟩ := h
  intro a30 e7
  have x9 : a30' = a30 := Option.some.inj (e6.symm.trans e7)
  rw [x9] at h
  intro e8
  have h := h.2
  refine jaJx4a65c_size_8abf5 ?_ _ _ h
  intro r33 σ32 h
  refine jaX8_init ?_ _ _ _ _ _ h
  intro σ35 h
  obtain ⟨j, h⟩ := h
  intro j9
  exact jaX11_reach_117 (k148 := wX11_reach_148 Q) (k148' := vX11_reach_148 Q') (fun _ _ _ h => jaX11_reach_148 hQ _ _ _ h) hQ _ j9 _ _ _ _ _ _ h
set_option maxRecDepth 100000 in
set_option maxHeartbeats 4000000 in
theorem jfX11_reach_90 {I : kx_S → Prop} (W : fw_ I [16, 17, 18, 48, 49, 160, 161, 162, 163, 1003, 1101, 1103, 1110, 1222]) {Q : Int32 → kx_S → Prop} (hQ : ∀ y0 y1, I y1 → Q y0 y1) : ∀ (l0 : Nat) (l2 : Int32) (l3 : Int32) (l4 : Int32) (s0 : Option Nat) (σ : kx_S), I σ → vX11_reach_90 Q l0 l2 l3 l4 s0 σ := by
  intro l0 l2 l3 l4 s0 σ i
  unfold vX11_reach_90
  intro e1
  intro p24 e2 e3
  intro σ27 e4
  have iσ27 : I σ27 := by rw [e4]; exact (W _ i).2.2.2.2.2.2.1 10 (by decide) _ e2
  intro e5
  intro a30 e6
  intro e7
  refine jfJx4a65c_size_8abf5 (I := I) (fw_sub W (by decide)) ?_ _ _ iσ27
  intro r33 σ32 iσ32
  refine jfX8_init (I := I) (fw_sub W (by decide)) ?_ _ _ _ _ _ iσ32
  intro σ35 iσ35
  intro j
  exact jfX11_reach_117 (I := I) (fw_sub W (by decide)) (k148 := vX11_reach_148 Q) (fun _ _ _ i => jfX11_reach_148 (I := I) (fw_sub W (by decide)) hQ _ _ _ i) hQ _ _ _ _ _ _ _ iσ35
def vX11_reach (l0 : Nat) (l1 : Int32) (l2 : Int32) (l3 : Int32) (l4 : Int32) (σ : kx_S) (Q : Int32 → kx_S → Prop) : Prop := xt σ l0 = 13 → ∀ a38, xr σ 208 l0 = some a38 → xt σ a38 = 1 → vJx4a65c_size_8abf5 a38 σ (fun r41 σ40 => ((10 ≤ r41 → Q (-1) σ40) ∧ (¬ (10 ≤ r41) → xt σ40 l0 = 13 → ∀ a45, xr σ40 208 l0 = some a45 → xt σ40 a45 = 1 → vJx4a65c_size_8abf5 a45 σ40 (fun r48 σ47 => vX11_isWithin l1 (-1) (r48 - 1) σ47 (fun r51 σ50 => ((¬ r51 = 0 → vX11_isWithin l2 1 12 σ50 (fun r54 σ53 => ((r54 = 0 → Q (-1) σ53) ∧ (¬ (r54 = 0) → vX11_isWithin l3 1 20 σ53 (fun r57 σ56 => ((r57 = 0 → Q (-1) σ56) ∧ (¬ (r57 = 0) → vX11_isWithin l4 0 1000 σ56 (fun r60 σ59 => ((¬ r60 = 0 → ((l1 < 0 → vX11_reach_90 Q l0 l2 l3 l4 none σ59) ∧ (¬ (l1 < 0) → xt σ59 l0 = 13 → ∀ a64, xr σ59 208 l0 = some a64 → xt σ59 a64 = 1 → vJx4a65c_get_915e3 a64 l1 σ59 (fun q67 σ66 => ∀ a69, q67 = some a69 → xt σ66 a69 = 10 → vX11_reach_90 Q l0 l2 l3 l4 (some a69) σ66)))) ∧ (r60 = 0 → Q (-1) σ59)))))))))) ∧ (r51 = 0 → Q (-1) σ50)))))))
set_option maxRecDepth 100000 in
set_option maxHeartbeats 4000000 in
theorem jcX11_reach {Q Q' Q'' : Int32 → kx_S → Prop} (hQ : ∀ y0 y1, Q y0 y1 → Q' y0 y1 → Q'' y0 y1) : ∀ (l0 : Nat) (l1 : Int32) (l2 : Int32) (l3 : Int32) (l4 : Int32) (σ : kx_S), wX11_reach l0 l1 l2 l3 l4 σ Q → vX11_reach l0 l1 l2 l3 l4 σ Q' → wX11_reach l0 l1 l2 l3 l4 σ Q'' := by
  intro l0 l1 l2 l3 l4 σ h v
  unfold wX11_reach at h
  unfold vX11_reach at v
  unfold wX11_reach
  refine ⟨h.1, ?_⟩
  have v := v h.1
  have h := h.2
  obtain ⟨a38, e2, h⟩ := h
  refine ⟨a38, e2, ?_⟩
  have v := v a38 e2
  refine ⟨h.1, ?_⟩
  have v := v h.1
  have h := h.2
  refine jcJx4a65c_size_8abf5 ?_ _ _ h v
  intro r41 σ40 h v
  refine ⟨?_, ?_⟩
  · have h := h.1
    have v := v.1
    intro e4
    have h := h e4
    have v := v e4
    exact hQ _ _ h v
  · have h := h.2
    have v := v.2
    intro e5
    have h := h e5
    have v := v e5
    refine ⟨h.1, ?_⟩
    have v := v h.1
    have h := h.2
    obtain ⟨a45, e7, h⟩ := h
    refine ⟨a45, e7, ?_⟩
    have v := v a45 e7
    refine ⟨h.1, ?_⟩
    have v := v h.1
    have h := h.2
    refine jcJx4a65c_size_8abf5 ?_ _ _ h v
    intro r48 σ47 h v
    refine jcX11_isWithin ?_ _ _ _ _ h v
    intro r51 σ50 h v
    refine ⟨?_, ?_⟩
    · have h := h.1
      have v := v.1
      intro e9
      have h := h e9
      have v := v e9
      refine jcX11_isWithin ?_ _ _ _ _ h v
      intro r54 σ53 h v
      refine ⟨?_, ?_⟩
      · have h := h.1
        have v := v.1
        intro e10
        have h := h e10
        have v := v e10
        exact hQ _ _ h v
      · have h := h.2
        have v := v.2
        intro e11
        have h := h e11
        have v := v e11
        refine jcX11_isWithin ?_ _ _ _ _ h v
        intro r57 σ56 h v
        refine ⟨?_, ?_⟩
        · have h := h.1
          have v := v.1
          intro e12
          have h := h e12
          have v := v e12
          exact hQ _ _ h v
        · have h := h.2
          have v := v.2
          intro e13
          have h := h e13
          have v := v e13
          refine jcX11_isWithin ?_ _ _ _ _ h v
          intro r60 σ59 h v
          refine ⟨?_, ?_⟩
          · have h := h.1
            have v := v.1
            intro e14
            have h := h e14
            have v := v e14
            refine ⟨?_, ?_⟩
            · have h := h.1
              have v := v.1
              intro e15
              have h := h e15
              have v := v e15
              exact jcX11_reach_90 hQ _ _ _ _ _ _ h v
            · have h := h.2
              have v := v.2
              intro e16
              have h := h e16
              have v := v e16
              refine ⟨h.1, ?_⟩
              have v := v h.1
              have h := h.2
              obtain ⟨a64, e18, h⟩ := h
              refine ⟨a64, e18, ?_⟩
              have v := v a64 e18
              refine ⟨h.1, ?_⟩
              have v := v h.1
              have h := h.2
              refine jcJx4a65c_get_915e3 ?_ _ _ _ h v
              intro q67 σ66 h v
              obtain ⟨a69, e20, h⟩ := h
              refine ⟨a69, e20, ?_⟩
              have v := v a69 e20
              refine ⟨h.1, ?_⟩
              have v := v h.1
              have h := h.2
              exact jcX11_reach_90 hQ _ _ _ _ _ _ h v
          · have h := h.2
            have v := v.2
            intro e22
            have h := h e22
            have v := v e22
            exact hQ _ _ h v
    · have h := h.2
      have v := v.2
      intro e23
      have h := h e23
      have v := v e23
      exact hQ _ _ h v
set_option maxRecDepth 100000 in
set_option maxHeartbeats 4000000 in
theorem jaX11_reach {Q Q' : Int32 → kx_S → Prop} (hQ : ∀ y0 y1, Q y0 y1 → Q' y0 y1) : ∀ (l0 : Nat) (l1 : Int32) (l2 : Int32) (l3 : Int32) (l4 : Int32) (σ : kx_S), wX11_reach l0 l1 l2 l3 l4 σ Q → vX11_reach l0 l1 l2 l3 l4 σ Q' := by
  intro l0 l1 l2 l3 l4 σ h
  unfold wX11_reach at h
  unfold vX11_reach
  intro e1
  have h := h.2
  obtain ⟨a38', e2, h⟩ := h
  intro a38 e3
  have x9 : a38' = a38 := Option.some.inj (e2.symm.trans e3)
  rw [x9] at h
  intro e4
  have h := h.2
  refine jaJx4a65c_size_8abf5 ?_ _ _ h
  intro r41 σ40 h
  refine ⟨?_, ?_⟩
  · have h := h.1
    intro e5
    have h := h e5
    exact hQ _ _ h
  · have h := h.2
    intro e6
    have h := h e6
    intro e7
    have h := h.2
    obtain ⟨a45', e8, h⟩ := h
    intro a45 e9
    have x9 : a45' = a45 := Option.some.inj (e8.symm.trans e9)
    rw [x9] at h
    intro e10
    have h := h.2
    refine jaJx4a65c_size_8abf5 ?_ _ _ h
    intro r48 σ47 h
    refine jaX11_isWithin ?_ _ _ _ _ h
    intro r51 σ50 h
    refine ⟨?_, ?_⟩
    · have h := h.1
      intro e11
      have h := h e11
      refine jaX11_isWithin ?_ _ _ _ _ h
      intro r54 σ53 h
      refine ⟨?_, ?_⟩
      · have h := h.1
        intro e12
        have h := h e12
        exact hQ _ _ h
      · have h := h.2
        intro e13
        have h := h e13
        refine jaX11_isWithin ?_ _ _ _ _ h
        intro r57 σ56 h
        refine ⟨?_, ?_⟩
        · have h := h.1
          intro e14
          have h := h e14
          exact hQ _ _ h
        · have h := h.2
          intro e15
          have h := h e15
          refine jaX11_isWithin ?_ _ _ _ _ h
          intro r60 σ59 h
          refine ⟨?_, ?_⟩
          · have h := h.1
            intro e16
            have h := h e16
            refine ⟨?_, ?_⟩
            · have h := h.1
              intro e17
              have h := h e17
              exact jaX11_reach_90 hQ _ _ _ _ _ _ h
            · have h := h.2
              intro e18
              have h := h e18
              intro e19
              have h := h.2
              obtain ⟨a64', e20, h⟩ := h
              intro a64 e21
              have x9 : a64' = a64 := Option.some.inj (e20.symm.trans e21)
              rw [x9] at h
              intro e22
              have h := h.2
              refine jaJx4a65c_get_915e3 ?_ _ _ _ h
              intro q67 σ66 h
              obtain ⟨a69', e23, h⟩ := h
              intro a69 e24
              have x9 : a69' = a69 := Option.some.inj (e23.symm.trans e24)
              rw [x9] at h
              intro e25
              have h := h.2
              exact jaX11_reach_90 hQ _ _ _ _ _ _ h
          · have h := h.2
            intro e26
            have h := h e26
            exact hQ _ _ h
    · have h := h.2
      intro e27
      have h := h e27
      exact hQ _ _ h
set_option maxRecDepth 100000 in
set_option maxHeartbeats 4000000 in
theorem jfX11_reach {I : kx_S → Prop} (W : fw_ I [16, 17, 18, 48, 49, 160, 161, 162, 163, 1003, 1101, 1103, 1110, 1222]) {Q : Int32 → kx_S → Prop} (hQ : ∀ y0 y1, I y1 → Q y0 y1) : ∀ (l0 : Nat) (l1 : Int32) (l2 : Int32) (l3 : Int32) (l4 : Int32) (σ : kx_S), I σ → vX11_reach l0 l1 l2 l3 l4 σ Q := by
  intro l0 l1 l2 l3 l4 σ i
  unfold vX11_reach
  intro e1
  intro a38 e2
  intro e3
  refine jfJx4a65c_size_8abf5 (I := I) (fw_sub W (by decide)) ?_ _ _ i
  intro r41 σ40 iσ40
  refine ⟨?_, ?_⟩
  · intro e4
    exact hQ _ _ iσ40
  · intro e5
    intro e6
    intro a45 e7
    intro e8
    refine jfJx4a65c_size_8abf5 (I := I) (fw_sub W (by decide)) ?_ _ _ iσ40
    intro r48 σ47 iσ47
    refine jfX11_isWithin (I := I) (fw_sub W (by decide)) ?_ _ _ _ _ iσ47
    intro r51 σ50 iσ50
    refine ⟨?_, ?_⟩
    · intro e9
      refine jfX11_isWithin (I := I) (fw_sub W (by decide)) ?_ _ _ _ _ iσ50
      intro r54 σ53 iσ53
      refine ⟨?_, ?_⟩
      · intro e10
        exact hQ _ _ iσ53
      · intro e11
        refine jfX11_isWithin (I := I) (fw_sub W (by decide)) ?_ _ _ _ _ iσ53
        intro r57 σ56 iσ56
        refine ⟨?_, ?_⟩
        · intro e12
          exact hQ _ _ iσ56
        · intro e13
          refine jfX11_isWithin (I := I) (fw_sub W (by decide)) ?_ _ _ _ _ iσ56
          intro r60 σ59 iσ59
          refine ⟨?_, ?_⟩
          · intro e14
            refine ⟨?_, ?_⟩
            · intro e15
              exact jfX11_reach_90 (I := I) (fw_sub W (by decide)) hQ _ _ _ _ _ _ iσ59
            · intro e16
              intro e17
              intro a64 e18
              intro e19
              refine jfJx4a65c_get_915e3 (I := I) (fw_sub W (by decide)) ?_ _ _ _ iσ59
              intro q67 σ66 iσ66
              intro a69 e20
              intro e21
              exact jfX11_reach_90 (I := I) (fw_sub W (by decide)) hQ _ _ _ _ _ _ iσ66
          · intro e22
            exact hQ _ _ iσ59
    · intro e23
      exact hQ _ _ iσ50
def vX11_dam (l0 : Nat) (l1 : Int32) (l2 : Int32) (σ : kx_S) (Q : Int32 → kx_S → Prop) (QX : String → kx_S → Prop) : Prop := xt σ l0 = 13 → vX11_reachAt l0 l1 σ (fun b2 σ1 => vX11_isWithin l2 0 100000 σ1 (fun r5 σ4 => ((¬ r5 = 0 → xt σ4 b2 = 10 → ∀ σ8, σ8 = xsi σ4 165 b2 1 → ∀ σ10, σ10 = xsi σ8 166 b2 l2 → Q 1 σ10) ∧ (r5 = 0 → Q 0 σ4)))) QX
set_option maxRecDepth 100000 in
set_option maxHeartbeats 4000000 in
theorem jcX11_dam {Q Q' Q'' : Int32 → kx_S → Prop} (hQ : ∀ y0 y1, Q y0 y1 → Q' y0 y1 → Q'' y0 y1) {QX QX' QX'' : String → kx_S → Prop} (hX : ∀ y0 y1, QX y0 y1 → QX' y0 y1 → QX'' y0 y1) : ∀ (l0 : Nat) (l1 : Int32) (l2 : Int32) (σ : kx_S), wX11_dam l0 l1 l2 σ Q QX → vX11_dam l0 l1 l2 σ Q' QX' → wX11_dam l0 l1 l2 σ Q'' QX'' := by
  intro l0 l1 l2 σ h v
  unfold wX11_dam at h
  unfold vX11_dam at v
  unfold wX11_dam
  refine ⟨h.1, ?_⟩
  have v := v h.1
  have h := h.2
  refine jcX11_reachAt ?_ hX _ _ _ h v
  intro b2 σ1 h v
  refine jcX11_isWithin ?_ _ _ _ _ h v
  intro r5 σ4 h v
  refine ⟨?_, ?_⟩
  · have h := h.1
    have v := v.1
    intro e2
    have h := h e2
    have v := v e2
    refine ⟨h.1, ?_⟩
    have v := v h.1
    have h := h.2
    intro σ8 e4
    have h := h σ8 e4
    have v := v σ8 e4
    intro σ10 e5
    have h := h σ10 e5
    have v := v σ10 e5
    exact hQ _ _ h v
  · have h := h.2
    have v := v.2
    intro e6
    have h := h e6
    have v := v e6
    exact hQ _ _ h v
set_option maxRecDepth 100000 in
set_option maxHeartbeats 4000000 in
theorem jaX11_dam {Q Q' : Int32 → kx_S → Prop} (hQ : ∀ y0 y1, Q y0 y1 → Q' y0 y1) {QX QX' : String → kx_S → Prop} (hX : ∀ y0 y1, QX y0 y1 → QX' y0 y1) : ∀ (l0 : Nat) (l1 : Int32) (l2 : Int32) (σ : kx_S), wX11_dam l0 l1 l2 σ Q QX → vX11_dam l0 l1 l2 σ Q' QX' := by
  intro l0 l1 l2 σ h
  unfold wX11_dam at h
  unfold vX11_dam
  intro e1
  have h := h.2
  refine jaX11_reachAt ?_ hX _ _ _ h
  intro b2 σ1 h
  refine jaX11_isWithin ?_ _ _ _ _ h
  intro r5 σ4 h
  refine ⟨?_, ?_⟩
  · have h := h.1
    intro e2
    have h := h e2
    intro e3
    have h := h.2
    intro σ8 e4
    have h := h σ8 e4
    intro σ10 e5
    have h := h σ10 e5
    exact hQ _ _ h
  · have h := h.2
    intro e6
    have h := h e6
    exact hQ _ _ h
set_option maxRecDepth 100000 in
set_option maxHeartbeats 4000000 in
theorem jfX11_dam {I : kx_S → Prop} (W : fw_ I [165, 166, 1005]) {Q : Int32 → kx_S → Prop} (hQ : ∀ y0 y1, I y1 → Q y0 y1) {QX : String → kx_S → Prop} (hX : ∀ y0 y1, I y1 → QX y0 y1) : ∀ (l0 : Nat) (l1 : Int32) (l2 : Int32) (σ : kx_S), I σ → vX11_dam l0 l1 l2 σ Q QX := by
  intro l0 l1 l2 σ i
  unfold vX11_dam
  intro e1
  refine jfX11_reachAt (I := I) (fw_sub W (by decide)) ?_ hX _ _ _ i
  intro b2 σ1 iσ1
  refine jfX11_isWithin (I := I) (fw_sub W (by decide)) ?_ _ _ _ _ iσ1
  intro r5 σ4 iσ4
  refine ⟨?_, ?_⟩
  · intro e2
    intro e3
    intro σ8 e4
    have iσ8 : I σ8 := by rw [e4]; exact ((W _ iσ4).1 165 (by decide)).1 _ _
    intro σ10 e5
    have iσ10 : I σ10 := by rw [e5]; exact ((W _ iσ8).1 166 (by decide)).1 _ _
    exact hQ _ _ iσ10
  · intro e6
    exact hQ _ _ iσ4
def vX11_gate (l0 : Nat) (l1 : Int32) (l2 : Int32) (σ : kx_S) (Q : Int32 → kx_S → Prop) (QX : String → kx_S → Prop) : Prop := xt σ l0 = 13 → vX11_reachAt l0 l1 σ (fun b2 σ1 => xt σ1 b2 = 10 → (((xi σ1 165 b2) = 0 → Q (-1) σ1) ∧ (¬ ((xi σ1 165 b2) = 0) → vX11_isWithin l2 0 1000 σ1 (fun r7 σ6 => ((¬ r7 = 0 → xt σ6 b2 = 10 → ∀ v10, v10 = xi σ6 168 b2 → ∀ σ11, σ11 = xsi σ6 168 b2 l2 → Q v10 σ11) ∧ (r7 = 0 → Q (-1) σ6)))))) QX
set_option maxRecDepth 100000 in
set_option maxHeartbeats 4000000 in
theorem jcX11_gate {Q Q' Q'' : Int32 → kx_S → Prop} (hQ : ∀ y0 y1, Q y0 y1 → Q' y0 y1 → Q'' y0 y1) {QX QX' QX'' : String → kx_S → Prop} (hX : ∀ y0 y1, QX y0 y1 → QX' y0 y1 → QX'' y0 y1) : ∀ (l0 : Nat) (l1 : Int32) (l2 : Int32) (σ : kx_S), wX11_gate l0 l1 l2 σ Q QX → vX11_gate l0 l1 l2 σ Q' QX' → wX11_gate l0 l1 l2 σ Q'' QX'' := by
  intro l0 l1 l2 σ h v
  unfold wX11_gate at h
  unfold vX11_gate at v
  unfold wX11_gate
  refine ⟨h.1, ?_⟩
  have v := v h.1
  have h := h.2
  refine jcX11_reachAt ?_ hX _ _ _ h v
  intro b2 σ1 h v
  refine ⟨h.1, ?_⟩
  have v := v h.1
  have h := h.2
  refine ⟨?_, ?_⟩
  · have h := h.1
    have v := v.1
    intro e3
    have h := h e3
    have v := v e3
    exact hQ _ _ h v
  · have h := h.2
    have v := v.2
    intro e4
    have h := h e4
    have v := v e4
    refine jcX11_isWithin ?_ _ _ _ _ h v
    intro r7 σ6 h v
    refine ⟨?_, ?_⟩
    · have h := h.1
      have v := v.1
      intro e5
      have h := h e5
      have v := v e5
      refine ⟨h.1, ?_⟩
      have v := v h.1
      have h := h.2
      intro v10 e7
      have h := h v10 e7
      have v := v v10 e7
      intro σ11 e8
      have h := h σ11 e8
      have v := v σ11 e8
      exact hQ _ _ h v
    · have h := h.2
      have v := v.2
      intro e9
      have h := h e9
      have v := v e9
      exact hQ _ _ h v
set_option maxRecDepth 100000 in
set_option maxHeartbeats 4000000 in
theorem jaX11_gate {Q Q' : Int32 → kx_S → Prop} (hQ : ∀ y0 y1, Q y0 y1 → Q' y0 y1) {QX QX' : String → kx_S → Prop} (hX : ∀ y0 y1, QX y0 y1 → QX' y0 y1) : ∀ (l0 : Nat) (l1 : Int32) (l2 : Int32) (σ : kx_S), wX11_gate l0 l1 l2 σ Q QX → vX11_gate l0 l1 l2 σ Q' QX' := by
  intro l0 l1 l2 σ h
  unfold wX11_gate at h
  unfold vX11_gate
  intro e1
  have h := h.2
  refine jaX11_reachAt ?_ hX _ _ _ h
  intro b2 σ1 h
  intro e2
  have h := h.2
  refine ⟨?_, ?_⟩
  · have h := h.1
    intro e3
    have h := h e3
    exact hQ _ _ h
  · have h := h.2
    intro e4
    have h := h e4
    refine jaX11_isWithin ?_ _ _ _ _ h
    intro r7 σ6 h
    refine ⟨?_, ?_⟩
    · have h := h.1
      intro e5
      have h := h e5
      intro e6
      have h := h.2
      intro v10 e7
      have h := h v10 e7
      intro σ11 e8
      have h := h σ11 e8
      exact hQ _ _ h
    · have h := h.2
      intro e9
      have h := h e9
      exact hQ _ _ h
set_option maxRecDepth 100000 in
set_option maxHeartbeats 4000000 in
theorem jfX11_gate {I : kx_S → Prop} (W : fw_ I [168, 1005]) {Q : Int32 → kx_S → Prop} (hQ : ∀ y0 y1, I y1 → Q y0 y1) {QX : String → kx_S → Prop} (hX : ∀ y0 y1, I y1 → QX y0 y1) : ∀ (l0 : Nat) (l1 : Int32) (l2 : Int32) (σ : kx_S), I σ → vX11_gate l0 l1 l2 σ Q QX := by
  intro l0 l1 l2 σ i
  unfold vX11_gate
  intro e1
  refine jfX11_reachAt (I := I) (fw_sub W (by decide)) ?_ hX _ _ _ i
  intro b2 σ1 iσ1
  intro e2
  refine ⟨?_, ?_⟩
  · intro e3
    exact hQ _ _ iσ1
  · intro e4
    refine jfX11_isWithin (I := I) (fw_sub W (by decide)) ?_ _ _ _ _ iσ1
    intro r7 σ6 iσ6
    refine ⟨?_, ?_⟩
    · intro e5
      intro e6
      intro v10 e7
      intro σ11 e8
      have iσ11 : I σ11 := by rw [e8]; exact ((W _ iσ6).1 168 (by decide)).1 _ _
      exact hQ _ _ iσ11
    · intro e9
      exact hQ _ _ iσ6
