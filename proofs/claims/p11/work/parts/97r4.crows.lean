/-! the class, a row a call -/
def oc_ (x : Option Int32) : Int32 := x.elim 1 (fun _ => 0)
theorem h22_of {A : fu_T} {μ : km_S} (VR : fR_ A μ) : (sm_ μ).2.2.2.2.2 = A.1.1 22 := VR.1.1.1 22 (by decide)
theorem z18_of {A : fu_T} {μ : km_S} (K : fK_ (sm_ μ).1 A) (VR : fR_ A μ) : ∀ r, jn1_ (sm_ μ).1 ≤ r → A.1.1 18 r = 0 ∧ A.1.1 19 r = 0 := by
  intro r hr
  have e18 := VR.1.1.1 18 (by decide)
  have e19 := VR.1.1.1 19 (by decide)
  obtain ⟨_, _, k1, k2⟩ := K.2.2.1.2 r hr
  rw [← VR.2.1] at k1 k2
  rw [← e18, ← e19]
  exact ⟨k1, k2⟩
theorem hp_of {A : fu_T} {μ : km_S} (I : im_ μ) (VR : fR_ A μ) : ∀ x, x < jn2_ (sm_ μ).1 → ¬ A.1.1 42 x = -1 → 0 ≤ (A.1.1 42 x).toInt ∧ (A.1.1 42 x).toInt ≤ 100000 ∧ 1 ≤ (A.1.1 36 x).toInt ∧ (A.1.1 36 x).toInt ≤ 9 := by
  intro x hx hn
  obtain ⟨b1, b2, b3, b4⟩ := VR.1.2
  obtain ⟨c1, c2⟩ := (b1 x hx).1
  obtain ⟨d1, d2, _⟩ := b4 x hx hn
  have i6 := I.2.2.2.2.2.1
  have e6 := VR.1.1.2.2.2
  have i7 := i6.2
  rw [e6] at i7
  omega

set_option maxRecDepth 100000 in
theorem lf_reach {k L O : Nat} {σ : kx_S} {μ : km_S} {A : fu_T} {p0 p1 p2 p3 : Int32} (hk : k < 600) (Z : yZ_ k (sm_ μ) L O σ) (I : im_ μ) (K : fK_ (sm_ μ).1 A) (VC : fC_ (sm_ μ).1 A L σ) (VR : fR_ A μ) : wX11_reach L p0 p1 p2 p3 σ (fun r u => qz_ k L O (z_reach p0 p1 p2 p3 (sm_ μ)) r u ∧ fC_ (z_reach p0 p1 p2 p3 (sm_ μ)).2.2.1 (fa_reach p0 p1 p2 p3 (sm_ μ) A) L u) := by
  have sb := sB_im I
  obtain ⟨g, κ, B, n, T, N, st, na, tk, ca, tb, eg, J, hBn, n22, hE, hT, hV⟩ := fC_open hk Z VC
  subst eg
  have V1 := lk_reach (p0 := p0) (p1 := p1) (p2 := p2) (p3 := p3) hk Z I (lv_of K VC VR)
  exact jcX11_reach (fun r u a b => by
    obtain ⟨T', N', e20, n22', hE'⟩ := b
    exact ⟨a.1.1, fC_of (nu_reach sb.1.1 sb.1.2) ⟨g, T', N', st, na, tk, ca, tb, gG_cw J a.2, n22', hE', fT_cw J hT e20 a.2, by have y := a.1.2; rw [VR.2.1] at y; have e := (nu_reach (a := p0) (b := p1) (c := p2) (d := p3) sb.1.1 sb.1.2).1; have y : Yw_ (jn1_ (z_reach p0 p1 p2 p3 (sm_ μ)).2.2.1) (wz_reach p0 p1 p2 p3 (sm_ μ) A.2.1) (g 0) u := y; rw [e] at y; exact y⟩⟩) _ _ _ _ _ _ (jcX11_reach (Q' := fun _ u => cw_ σ u) (fun _ _ a b => And.intro a b) _ _ _ _ _ _ V1 (jfX11_reach (I := cw_ σ) (cw_fw (by decide)) (fun _ _ i => i) _ _ _ _ _ _ cw_refl)) (vq_reach hBn.1 hBn.2 sb.1.2 J sb.1.1 K.1.1.1 K.2.1 (z18_of K VR) n22 hE)
set_option maxRecDepth 100000 in
theorem lf_dam {k L O : Nat} {σ : kx_S} {μ : km_S} {A : fu_T} {p0 p1 : Int32} (hk : k < 600) (Z : yZ_ k (sm_ μ) L O σ) (I : im_ μ) (K : fK_ (sm_ μ).1 A) (VC : fC_ (sm_ μ).1 A L σ) (VR : fR_ A μ) : wX11_dam L p0 p1 σ (fun r u => qz_ k L O (z_dam p0 p1 (sm_ μ)) r u ∧ fC_ (z_dam p0 p1 (sm_ μ)).2.2.1 (fa_dam p0 p1 (sm_ μ) A) L u) (fun e u => qe_ k L O pz_N (z_dam p0 p1 (sm_ μ)) e u ∧ fC_ (z_dam p0 p1 (sm_ μ)).2.2.1 (fa_dam p0 p1 (sm_ μ) A) L u) := by
  have sb := sB_im I
  obtain ⟨g, κ, B, n, T, N, st, na, tk, ca, tb, eg, J, hBn, n22, hE, hT, hV⟩ := fC_open hk Z VC
  subst eg
  have e22 : (ab_dam p0 p1 (sm_ μ) A.1).1 22 = A.1.1 22 := by
    unfold ab_dam
    split <;> rfl
  exact jcX11_dam (Q' := fun _ u => qE_ T N g st na (jn1_ (sm_ μ).1) (jn2_ (sm_ μ).1) A.2.2.1.1 A.2.2.1.2.1 A.2.2.1.2.2 (jn4_ (sm_ μ).1) (jn3_ (sm_ μ).1) (ab_dam p0 p1 (sm_ μ) A.1) u) (QX' := fun _ u => qE_ T N g st na (jn1_ (sm_ μ).1) (jn2_ (sm_ μ).1) A.2.2.1.1 A.2.2.1.2.1 A.2.2.1.2.2 (jn4_ (sm_ μ).1) (jn3_ (sm_ μ).1) (ab_dam p0 p1 (sm_ μ) A.1) u) (fun r u a b => ⟨a.1.1, fC_of (nu_same nz_dam) ⟨g, T, N, st, na, tk, ca, tb, gG_cw J a.2, n22_e n22 e22, b, fT_cw J hT rfl a.2, by have y := a.1.2; rw [VR.2.1] at y; exact y⟩⟩) (fun r u a b => ⟨a.1.1, fC_of (nu_same nz_dam) ⟨g, T, N, st, na, tk, ca, tb, gG_cw J a.2, n22_e n22 e22, b, fT_cw J hT rfl a.2, by have y := a.1.2; rw [VR.2.1] at y; exact y⟩⟩) _ _ _ _ (jcX11_dam (Q' := fun _ u => cw_ σ u) (QX' := fun _ u => cw_ σ u) (fun _ _ a b => And.intro a b) (fun _ _ a b => And.intro a b) _ _ _ _ (lk_dam (p0 := p0) (p1 := p1) hk Z I (lv_of K VC VR)) (jfX11_dam (I := cw_ σ) (cw_fw (by decide)) (fun _ _ i => i) (fun _ _ i => i) _ _ _ _ cw_refl)) (vq_dam sb.1.2 sb.1.1 J hE)
set_option maxRecDepth 100000 in
theorem lf_gate {k L O : Nat} {σ : kx_S} {μ : km_S} {A : fu_T} {p0 p1 : Int32} (hk : k < 600) (Z : yZ_ k (sm_ μ) L O σ) (I : im_ μ) (K : fK_ (sm_ μ).1 A) (VC : fC_ (sm_ μ).1 A L σ) (VR : fR_ A μ) : wX11_gate L p0 p1 σ (fun r u => qz_ k L O (z_gate p0 p1 (sm_ μ)) r u ∧ fC_ (z_gate p0 p1 (sm_ μ)).2.2.1 A L u) (fun e u => qe_ k L O pz_N (z_gate p0 p1 (sm_ μ)) e u ∧ fC_ (z_gate p0 p1 (sm_ μ)).2.2.1 A L u) := by
  exact jcX11_gate (Q' := fun _ u => nW_ [168, 1005] σ u) (QX' := fun _ u => nW_ [168, 1005] σ u) (fun r u a b => ⟨a.1, fC_of (nu_same nz_gate) (fC_nW VC b (by decide) (by decide) (by have y := a.2; rw [VR.2.1] at y; exact y))⟩) (fun r u a b => ⟨a.1, fC_of (nu_same nz_gate) (fC_nW VC b (by decide) (by decide) (by have y := a.2; rw [VR.2.1] at y; exact y))⟩) _ _ _ _ (lk_gate (p0 := p0) (p1 := p1) hk Z I (lv_of K VC VR)) (jfX11_gate (I := nW_ [168, 1005] σ) (nW_fw (by decide)) (fun _ _ i => i) (fun _ _ i => i) _ _ _ _ nW_refl)
set_option maxRecDepth 100000 in
theorem lf_melt {k L O : Nat} {σ : kx_S} {μ : km_S} {A : fu_T} {p0 p1 : Int32} (hk : k < 600) (Z : yZ_ k (sm_ μ) L O σ) (I : im_ μ) (K : fK_ (sm_ μ).1 A) (VC : fC_ (sm_ μ).1 A L σ) (VR : fR_ A μ) : wX11_melt L p0 p1 σ (fun r u => qz_ k L O (z_melt p0 p1 (sm_ μ)) r u ∧ fC_ (z_melt p0 p1 (sm_ μ)).2.2.1 A L u) (fun e u => qe_ k L O pz_N (z_melt p0 p1 (sm_ μ)) e u ∧ fC_ (z_melt p0 p1 (sm_ μ)).2.2.1 A L u) := by
  exact jcX11_melt (Q' := fun _ u => nW_ [164, 1005] σ u) (QX' := fun _ u => nW_ [164, 1005] σ u) (fun r u a b => ⟨a.1, fC_of (nu_same nz_melt) (fC_nW VC b (by decide) (by decide) (by have y := a.2; rw [VR.2.1] at y; exact y))⟩) (fun r u a b => ⟨a.1, fC_of (nu_same nz_melt) (fC_nW VC b (by decide) (by decide) (by have y := a.2; rw [VR.2.1] at y; exact y))⟩) _ _ _ _ (lk_melt (p0 := p0) (p1 := p1) hk Z I (lv_of K VC VR)) (jfX11_melt (I := nW_ [164, 1005] σ) (nW_fw (by decide)) (fun _ _ i => i) (fun _ _ i => i) _ _ _ _ nW_refl)
set_option maxRecDepth 100000 in
theorem lf_boom {k L O : Nat} {σ : kx_S} {μ : km_S} {A : fu_T} {p0 p1 p2 : Int32} (hk : k < 600) (Z : yZ_ k (sm_ μ) L O σ) (I : im_ μ) (K : fK_ (sm_ μ).1 A) (VC : fC_ (sm_ μ).1 A L σ) (VR : fR_ A μ) : wX11_boom L p0 p1 p2 σ (fun r u => qz_ k L O (z_boom p0 p2 (sm_ μ)) r u ∧ fC_ (z_boom p0 p2 (sm_ μ)).2.2.1 (fa_boom p0 p1 p2 (sm_ μ) A) L u) (fun e u => qe_ k L O pz_N (z_boom p0 p2 (sm_ μ)) e u ∧ fC_ (z_boom p0 p2 (sm_ μ)).2.2.1 (fa_boom p0 p1 p2 (sm_ μ) A) L u) := by
  have sb := sB_im I
  obtain ⟨g, κ, B, n, T, N, st, na, tk, ca, tb, eg, J, hBn, n22, hE, hT, hV⟩ := fC_open hk Z VC
  subst eg
  have V1 := lk_boom (p0 := p0) (p1 := p1) (p2 := p2) hk Z I (lv_of K VC VR)
  exact jcX11_boom (fun r u a b => by
    obtain ⟨T', N', e20, n22', hE'⟩ := b
    exact ⟨a.1.1, fC_of (nu_same nz_boom) ⟨g, T', N', st, na, tk, ca, tb, gG_cw J a.2, n22', hE', fT_cw J hT e20 a.2, by have y := a.1.2; rw [VR.2.1] at y; exact y⟩⟩) (fun r u a b => by
    obtain ⟨T', N', e20, n22', hE'⟩ := b
    exact ⟨a.1.1, fC_of (nu_same nz_boom) ⟨g, T', N', st, na, tk, ca, tb, gG_cw J a.2, n22', hE', fT_cw J hT e20 a.2, by have y := a.1.2; rw [VR.2.1] at y; exact y⟩⟩) _ _ _ _ _ (jcX11_boom (Q' := fun _ u => cw_ σ u) (QX' := fun _ u => cw_ σ u) (fun _ _ a b => And.intro a b) (fun _ _ a b => And.intro a b) _ _ _ _ _ V1 (jfX11_boom (I := cw_ σ) (cw_fw (by decide)) (fun _ _ i => i) (fun _ _ i => i) _ _ _ _ _ cw_refl)) (vq_boom sb.1.2 sb.1.1 K.2.1.1 n22 J hE)
set_option maxRecDepth 100000 in
theorem lf_watch {k L O : Nat} {σ : kx_S} {μ : km_S} {A : fu_T} {p0 p1 : Int32} (hv : p1 = 0 ∨ p1 = 1) (hk : k < 600) (Z : yZ_ k (sm_ μ) L O σ) (I : im_ μ) (K : fK_ (sm_ μ).1 A) (VC : fC_ (sm_ μ).1 A L σ) (VR : fR_ A μ) : wX11_watch L p0 p1 σ (fun r u => qz_ k L O (z_watch p0 p1 (sm_ μ)) r u ∧ fC_ (z_watch p0 p1 (sm_ μ)).2.2.1 (fa_watch p0 p1 (sm_ μ) A) L u) (fun e u => qe_ k L O pz_N (z_watch p0 p1 (sm_ μ)) e u ∧ fC_ (z_watch p0 p1 (sm_ μ)).2.2.1 (fa_watch p0 p1 (sm_ μ) A) L u) := by
  have sb := sB_im I
  obtain ⟨g, κ, B, n, T, N, st, na, tk, ca, tb, eg, J, hBn, n22, hE, hT, hV⟩ := fC_open hk Z VC
  subst eg
  have e22 : (ab_watch p0 p1 (sm_ μ) A.1).1 22 = A.1.1 22 := by
    unfold ab_watch
    split <;> rfl
  exact jcX11_watch (Q' := fun _ u => qE_ T N g st na (jn1_ (sm_ μ).1) (jn2_ (sm_ μ).1) A.2.2.1.1 A.2.2.1.2.1 A.2.2.1.2.2 (jn4_ (sm_ μ).1) (jn3_ (sm_ μ).1) (ab_watch p0 p1 (sm_ μ) A.1) u) (QX' := fun _ u => qE_ T N g st na (jn1_ (sm_ μ).1) (jn2_ (sm_ μ).1) A.2.2.1.1 A.2.2.1.2.1 A.2.2.1.2.2 (jn4_ (sm_ μ).1) (jn3_ (sm_ μ).1) (ab_watch p0 p1 (sm_ μ) A.1) u) (fun r u a b => ⟨a.1.1, fC_of (nu_same nz_watch) ⟨g, T, N, st, na, tk, ca, tb, gG_cw J a.2, n22_e n22 e22, b, fT_cw J hT rfl a.2, by have y := a.1.2; rw [VR.2.1] at y; exact y⟩⟩) (fun r u a b => ⟨a.1.1, fC_of (nu_same nz_watch) ⟨g, T, N, st, na, tk, ca, tb, gG_cw J a.2, n22_e n22 e22, b, fT_cw J hT rfl a.2, by have y := a.1.2; rw [VR.2.1] at y; exact y⟩⟩) _ _ _ _ (jcX11_watch (Q' := fun _ u => cw_ σ u) (QX' := fun _ u => cw_ σ u) (fun _ _ a b => And.intro a b) (fun _ _ a b => And.intro a b) _ _ _ _ (lk_watch (p0 := p0) (p1 := p1) (hv := hv) hk Z I (lv_of K VC VR)) (jfX11_watch (I := cw_ σ) (cw_fw (by decide)) (fun _ _ i => i) (fun _ _ i => i) _ _ _ _ cw_refl)) (vq_watch sb.1.2 sb.1.1 J hE)
set_option maxRecDepth 100000 in
theorem lf_crew {k L O : Nat} {σ : kx_S} {μ : km_S} {A : fu_T} {p0 p1 : Int32} (hk : k < 600) (Z : yZ_ k (sm_ μ) L O σ) (I : im_ μ) (K : fK_ (sm_ μ).1 A) (VC : fC_ (sm_ μ).1 A L σ) (VR : fR_ A μ) : wX11_crew L p0 p1 σ (fun r u => qz_ k L O (z_crew p0 p1 (sm_ μ)) r u ∧ fC_ (z_crew p0 p1 (sm_ μ)).2.2.1 (fa_crew p0 p1 (sm_ μ) A) L u) (fun e u => qe_ k L O pz_N (z_crew p0 p1 (sm_ μ)) e u ∧ fC_ (z_crew p0 p1 (sm_ μ)).2.2.1 (fa_crew p0 p1 (sm_ μ) A) L u) := by
  have sb := sB_im I
  obtain ⟨g, κ, B, n, T, N, st, na, tk, ca, tb, eg, J, hBn, n22, hE, hT, hV⟩ := fC_open hk Z VC
  subst eg
  have V1 := lk_crew (p0 := p0) (p1 := p1) hk Z I (lv_of K VC VR)
  exact jcX11_crew (fun r u a b => by
    obtain ⟨T', N', e20, n22', hE'⟩ := b
    exact ⟨a.1.1, fC_of (nu_crew sb.2.2.1.1 sb.2.2.1.2) ⟨g, T', N', st, na, tk, ca, tb, gG_cw J a.2, n22', hE', fT_cw J hT e20 a.2, by have y := a.1.2; rw [VR.2.1] at y; exact y⟩⟩) (fun r u a b => by
    obtain ⟨T', N', e20, n22', hE'⟩ := b
    exact ⟨a.1.1, fC_of (nu_crew sb.2.2.1.1 sb.2.2.1.2) ⟨g, T', N', st, na, tk, ca, tb, gG_cw J a.2, n22', hE', fT_cw J hT e20 a.2, by have y := a.1.2; rw [VR.2.1] at y; exact y⟩⟩) _ _ _ _ (jcX11_crew (Q' := fun _ u => cw_ σ u) (QX' := fun _ u => cw_ σ u) (fun _ _ a b => And.intro a b) (fun _ _ a b => And.intro a b) _ _ _ _ V1 (jfX11_crew (I := cw_ σ) (cw_fw (by decide)) (fun _ _ i => i) (fun _ _ i => i) _ _ _ _ cw_refl)) (vq_crew (by omega) (by omega) sb.1.2 sb.1.1 sb.2.2.1.1 K.1.2.2 n22 J hE)
set_option maxRecDepth 100000 in
theorem lf_feed {k L O : Nat} {σ : kx_S} {μ : km_S} {A : fu_T} {p0 p1 p2 p3 p4 : Int32} (hk : k < 600) (Z : yZ_ k (sm_ μ) L O σ) (I : im_ μ) (K : fK_ (sm_ μ).1 A) (VC : fC_ (sm_ μ).1 A L σ) (VR : fR_ A μ) : wX11_feed L p0 p1 p2 p3 p4 σ (fun r u => qz_ k L O (z_feed (sm_ μ)) r u ∧ fC_ (z_feed (sm_ μ)).2.2.1 (fa_feed p0 p1 p2 p3 p4 (sm_ μ) A) L u) := by
  have sb := sB_im I
  obtain ⟨g, κ, B, n, T, N, st, na, tk, ca, tb, eg, J, hBn, n22, hE, hT, hV⟩ := fC_open hk Z VC
  subst eg
  have V1 := lk_feed (p0 := p0) (p1 := p1) (p2 := p2) (p3 := p3) (p4 := p4) hk Z I (lv_of K VC VR)
  exact jcX11_feed (fun r u a b => ⟨a.1.1, fC_of nu_feed ⟨g, T, N, st, na, tk, ca, tb, gG_pw J a.2, n22, b.1, b.2, by have y := a.1.2; rw [VR.2.1] at y; exact y⟩⟩) _ _ _ _ _ _ _ (jcX11_feed (Q' := fun _ u => pw_ σ u) (fun _ _ a b => And.intro a b) _ _ _ _ _ _ _ V1 (jfX11_feed (I := pw_ σ) (pw_fw (by decide)) (fun _ _ i => i) _ _ _ _ _ _ _ pw_refl)) (vq_feed sb.2.2.2.2.1 sb.2.2.2.2.2 J hT hE)
set_option maxRecDepth 100000 in
theorem lf_law {k L O : Nat} {σ : kx_S} {μ : km_S} {A : fu_T} {p0 p1 : Int32} (hk : k < 600) (Z : yZ_ k (sm_ μ) L O σ) (I : im_ μ) (K : fK_ (sm_ μ).1 A) (VC : fC_ (sm_ μ).1 A L σ) (VR : fR_ A μ) : wX11_law L p0 p1 σ (fun r u => qy_ k L O (z_law p0 p1 (sm_ μ)) r u ∧ fC_ (z_law p0 p1 (sm_ μ)).2.1 (fa_law p0 p1 (sm_ μ) A) L u) (fun e u => qx_ k L O (z_law p0 p1 (sm_ μ)) e u ∧ fC_ (z_law p0 p1 (sm_ μ)).2.1 (fa_law p0 p1 (sm_ μ) A) L u) := by
  have sb := sB_im I
  obtain ⟨g, κ, B, n, T, N, st, na, tk, ca, tb, eg, J, hBn, n22, hE, hT, hV⟩ := fC_open hk Z VC
  subst eg
  have V1 := lk_law (p0 := p0) (p1 := p1) hk Z I (lv_of K VC VR)
  exact jcX11_law (fun r u a b => by
    obtain ⟨T', N', n22', hE', hT'⟩ := b
    exact ⟨a.1.1, fC_of nu_law ⟨g, T', N', st, na, tk, ca, tb, gG_pw J a.2, n22', hE', hT', by have y := a.1.2; rw [VR.2.1] at y; exact y⟩⟩) (fun r u a b => by
    obtain ⟨T', N', n22', hE', hT'⟩ := b
    exact ⟨a.1.1, fC_of nu_law ⟨g, T', N', st, na, tk, ca, tb, gG_pw J a.2, n22', hE', hT', by have y := a.1.2; rw [VR.2.1] at y; exact y⟩⟩) _ _ _ _ (jcX11_law (Q' := fun _ u => pw_ σ u) (QX' := fun _ u => pw_ σ u) (fun _ _ a b => And.intro a b) (fun _ _ a b => And.intro a b) _ _ _ _ V1 (jfX11_law (I := pw_ σ) (pw_fw (by decide)) (fun _ _ i => i) (fun _ _ i => i) _ _ _ _ pw_refl)) (vq_law (by omega) (by omega) sb.2.2.2.2.1 sb.2.2.2.2.2 J hT n22 hE)
set_option maxRecDepth 100000 in
theorem lf_fault {k L O : Nat} {σ : kx_S} {μ : km_S} {A : fu_T} (hk : k < 600) (Z : yZ_ k (sm_ μ) L O σ) (I : im_ μ) (K : fK_ (sm_ μ).1 A) (VC : fC_ (sm_ μ).1 A L σ) (VR : fR_ A μ) : wX11_fault L σ (fun r u => qu_ k L O (sm_ μ) r u ∧ fC_ (sm_ μ).1 A L u ∧ r = A.2.2.2.2) := by
  obtain ⟨g, κ, B, n, T, N, st, na, tk, ca, tb, eg, J, hBn, n22, hE, hT, hV⟩ := fC_open hk Z VC
  have e219 := hT.2.2.2.2.2
  subst eg
  refine jcX11_fault (Q' := fun r u => r = A.2.2.2.2 ∧ u = σ) (fun r u a b => ⟨a.1, ?_, b.1⟩) _ _ (lk_fault hk Z I (lv_of K VC VR)) (fun _ => ⟨e219, rfl⟩)
  rw [b.2]
  exact VC
set_option maxRecDepth 100000 in
theorem lf_cut {k L O : Nat} {σ : kx_S} {μ : km_S} {A : fu_T} {p0 p1 p2 : Int32} (hk : k < 600) (Z : yZ_ k (sm_ μ) L O σ) (I : im_ μ) (K : fK_ (sm_ μ).1 A) (VC : fC_ (sm_ μ).1 A L σ) (VR : fR_ A μ) : wX11_cut L p0 p1 p2 σ (fun r u => qz_ k L O (z_cut p0 p1 p2 (sm_ μ)) r u ∧ fC_ (z_cut p0 p1 p2 (sm_ μ)).2.2.1 (fa_cut p0 p1 p2 (sm_ μ) A) L u) := by
  have sb := sB_im I
  obtain ⟨g, κ, B, n, T, N, st, na, tk, ca, tb, eg, J, hBn, n22, hE, hT, hV⟩ := fC_open hk Z VC
  subst eg
  have V1 := lk_cut (p0 := p0) (p1 := p1) (p2 := p2) hk Z I (lv_of K VC VR)
  exact jcX11_cut (fun r u a b => by
    obtain ⟨T', N', e20, n22', hE'⟩ := b
    exact ⟨a.1.1, fC_of (nu_cut sb.2.1.1 sb.2.1.2) ⟨g, T', N', st, na, tk, ca, tb, gG_cw J a.2, n22', hE', fT_cw J hT e20 a.2, by have y := a.1.2; rw [VR.2.1] at y; exact y⟩⟩) _ _ _ _ _ (jcX11_cut (Q' := fun _ u => cw_ σ u) (fun _ _ a b => And.intro a b) _ _ _ _ _ V1 (jfX11_cut (I := cw_ σ) (cw_fw (by decide)) (fun _ _ i => i) _ _ _ _ _ cw_refl)) (vq_cut (by omega) (by omega) sb.2.1.2 sb.2.1.1 (fun k x hx => (K.1.1.1.2.1 k x hx).1) (K.2.1.2.1 _ (Nat.le_refl _)) n22 J hE)
set_option maxRecDepth 100000 in
theorem lf_let {k L O : Nat} {σ : kx_S} {μ : km_S} {A : fu_T} {p0 p1 p2 : Int32} (hk : k < 600) (Z : yZ_ k (sm_ μ) L O σ) (I : im_ μ) (K : fK_ (sm_ μ).1 A) (VC : fC_ (sm_ μ).1 A L σ) (VR : fR_ A μ) : wX11_let L p0 p1 p2 σ (fun r u => qu_ k L O (sm_ μ) r u ∧ fC_ (sm_ μ).1 (fa_let p0 p1 p2 (sm_ μ) A) L u ∧ ∃ b, fan_let p0 p1 p2 (sm_ μ) A = some (r, b)) (fun e u => qf_ k L O (sm_ μ) e u ∧ fC_ (sm_ μ).1 (fa_let p0 p1 p2 (sm_ μ) A) L u ∧ fan_let p0 p1 p2 (sm_ μ) A = none) := by
  have sb := sB_im I
  obtain ⟨g, κ, B, n, T, N, st, na, tk, ca, tb, eg, J, hBn, n22, hE, hT, hV⟩ := fC_open hk Z VC
  subst eg
  have V1 := lk_let (p0 := p0) (p1 := p1) (p2 := p2) hk Z I (lv_of K VC VR)
  refine jcX11_let (Q' := fun r u => ∃ b, fan_let p0 p1 p2 (sm_ μ) A = some (r, b) ∧ qE_ T N g st na (jn1_ (sm_ μ).1) (jn2_ (sm_ μ).1) A.2.2.1.1 A.2.2.1.2.1 A.2.2.1.2.2 (jn4_ (sm_ μ).1) (jn3_ (sm_ μ).1) b u ∧ hf_ [82, 83, 132, 133, 134] g κ st na σ u) (QX' := fun _ u => fan_let p0 p1 p2 (sm_ μ) A = none ∧ u = xbump σ) (fun r u a b => ?_) (fun r u a b => ?_) _ _ _ _ _ V1 (vq_let (by omega) (by omega) sb.1.2 sb.2.1.2 J hE (fun e => ⟨e, rfl⟩) (fun x b u e h f => ⟨b, e, h, f⟩))
  · obtain ⟨b, e, h, f⟩ := b
    refine ⟨a.1, ?_, b, e⟩
    have ef : fa_let p0 p1 p2 (sm_ μ) A = (b, A.2) := by unfold fa_let; rw [e]
    rw [ef]
    exact ⟨g, T, N, st, na, tk, ca, tb, gG_fg J f.1, n22_e n22 (pk_let sb.1.2 K.1 K.2.1 e).2, h, fT_hf J hT f (by decide), by have y := a.2; rw [VR.2.1] at y; exact y⟩
  · obtain ⟨e, eu⟩ := b
    refine ⟨a.1, ?_, e⟩
    have ef : fa_let p0 p1 p2 (sm_ μ) A = A := by unfold fa_let; rw [e]
    rw [ef, eu]
    exact fC_nW VC (W := [1005]) ⟨fun _ _ _ => rfl, rfl, fun _ _ _ => rfl, rfl, rfl, rfl, rfl⟩ (by decide) (by decide) hV
set_option maxRecDepth 100000 in
theorem lf_hours {k L O : Nat} {σ : kx_S} {μ : km_S} {A : fu_T} {p0 : Int32} (hk : k < 600) (Z : yZ_ k (sm_ μ) L O σ) (I : im_ μ) (K : fK_ (sm_ μ).1 A) (VC : fC_ (sm_ μ).1 A L σ) (VR : fR_ A μ) : wX11_hours L p0 σ (fun r u => qz_ k L O (z_hours p0 (sm_ μ)) r u ∧ fC_ (z_hours p0 (sm_ μ)).2.2.1 (fa_hours p0 (sm_ μ) A) L u) (fun e u => qe_ k L O pz_I (z_hours p0 (sm_ μ)) e u ∧ fC_ (z_hours p0 (sm_ μ)).2.2.1 (fa_hours p0 (sm_ μ) A) L u) := by
  have sb := sB_im I
  obtain ⟨g, κ, B, n, T, N, st, na, tk, ca, tb, eg, J, hBn, n22, hE, hT, hV⟩ := fC_open hk Z VC
  subst eg
  have HF := qE_F J hE hV
  have R1 := rx_hours (m := p0) hk Z
  refine jcX11_hours (Q' := fun _ u => fC_ (z_hours p0 (sm_ μ)).2.2.1 (fa_hours p0 (sm_ μ) A) (g 0) u) (QX' := fun _ u => fC_ (z_hours p0 (sm_ μ)).2.2.1 (fa_hours p0 (sm_ μ) A) (g 0) u) (fun r u a b => ⟨a, b⟩) (fun r u a b => ⟨a, b⟩) _ _ _ R1 (jaX11_hours (fun _ _ h => h) (fun _ _ h => h) _ _ _ (wF_hours (by omega) (by omega) sb.1.2 sb.1.1 K.1 HF (fun c => ?_) (fun c q v eq e1 H1 _ Fv => ?_)))
  · have ef : fa_hours p0 (sm_ μ) A = A := if_pos c
    rw [ef]
    refine fC_of nu_hours (fC_nW VC (W := [1005]) ⟨fun _ _ _ => rfl, rfl, fun _ _ _ => rfl, rfl, rfl, rfl, rfl⟩ (by decide) (by decide) hV)
  · have ef : fa_hours p0 (sm_ μ) A = (q.2.1, q.2.2, A.2.2) := by
      unfold fa_hours
      rw [if_neg c, eq]
    rw [ef]
    have h1 := qF_E H1
    refine fC_of nu_hours ⟨g, T, N, st, na, tk, ca, tb, gG_fg J Fv.1, fun r hr hz => ?_, h1, fT_hf J hT Fv (by decide), H1.2.2⟩
    refine n22 r hr (fun y => ?_)
    rcases (h1.2.1.2 r hr).2.2.2.2.1 with w | w
    · exact hz w.2
    · have o := hE.2.1.2 r hr
      rcases o.2.2.2.2.1 with x | x
      · have e := Fv.1.2.1 172 (T 10 r) (by decide) (by rw [o.1.2]; decide)
        rw [x.1, w.2.1] at e
        cases e
      · exact x.1 y
set_option maxRecDepth 100000 in
theorem lf_order {k L O : Nat} {σ : kx_S} {μ : km_S} {A : fu_T} {p0 p1 p2 p3 : Int32} (hk : k < 600) (Z : yZ_ k (sm_ μ) L O σ) (I : im_ μ) (K : fK_ (sm_ μ).1 A) (VC : fC_ (sm_ μ).1 A L σ) (VR : fR_ A μ) : wX11_order L p0 p1 p2 p3 σ (fun r u => qz_ k L O (z_order p0 p1 p2 p3 (sm_ μ)) r u ∧ fC_ (z_order p0 p1 p2 p3 (sm_ μ)).2.2.1 (fa_order p0 p1 p2 p3 (sm_ μ) A) L u) (fun e u => qe_ k L O pz_N (z_order p0 p1 p2 p3 (sm_ μ)) e u ∧ fC_ (z_order p0 p1 p2 p3 (sm_ μ)).2.2.1 (fa_order p0 p1 p2 p3 (sm_ μ) A) L u) := by
  have sb := sB_im I
  obtain ⟨g, κ, B, n, T, N, st, na, tk, ca, tb, eg, J, hBn, n22, hE, hT, hV⟩ := fC_open hk Z VC
  subst eg
  have V1 := lk_order (p0 := p0) (p1 := p1) (p2 := p2) (p3 := p3) hk Z I (lv_of K VC VR)
  exact jcX11_order (fun r u a b => by
    obtain ⟨T', N', e20, n22', hE'⟩ := b
    exact ⟨a.1.1, fC_of (nu_order sb.2.2.2.1.1 sb.2.2.2.1.2) ⟨g, T', N', st, na, tk, ca, tb, gG_cw J a.2, n22', hE', fT_cw J hT e20 a.2, by have y := a.1.2; rw [VR.2.1] at y; exact y⟩⟩) (fun r u a b => by
    obtain ⟨T', N', e20, n22', hE'⟩ := b
    exact ⟨a.1.1, fC_of (nu_order sb.2.2.2.1.1 sb.2.2.2.1.2) ⟨g, T', N', st, na, tk, ca, tb, gG_cw J a.2, n22', hE', fT_cw J hT e20 a.2, by have y := a.1.2; rw [VR.2.1] at y; exact y⟩⟩) _ _ _ _ _ _ (jcX11_order (Q' := fun _ u => cw_ σ u) (QX' := fun _ u => cw_ σ u) (fun _ _ a b => And.intro a b) (fun _ _ a b => And.intro a b) _ _ _ _ _ _ V1 (jfX11_order (I := cw_ σ) (cw_fw (by decide)) (fun _ _ i => i) (fun _ _ i => i) _ _ _ _ _ _ cw_refl)) (vq_order (by omega) (by omega) sb.1.2 sb.1.1 sb.2.2.2.1.1 (fun q _ => by rw [h22_of VR]) n22 J hE)
set_option maxRecDepth 100000 in
theorem lf_wants {k L O : Nat} {σ : kx_S} {μ : km_S} {A : fu_T} {p0 : Int32} (hk : k < 600) (Z : yZ_ k (sm_ μ) L O σ) (I : im_ μ) (K : fK_ (sm_ μ).1 A) (VC : fC_ (sm_ μ).1 A L σ) (VR : fR_ A μ) : wX11_wants L p0 σ (fun r u => qu_ k L O (sm_ μ) r u ∧ fC_ (sm_ μ).1 A L u ∧ (an_wants (jn4_ (sm_ μ).1) A.1 p0) = some r) (fun e u => qf_ k L O (sm_ μ) e u ∧ fC_ (sm_ μ).1 A L u ∧ (an_wants (jn4_ (sm_ μ).1) A.1 p0) = none) := by
  have sb := sB_im I
  obtain ⟨g, κ, B, n, T, N, st, na, tk, ca, tb, eg, J, hBn, n22, hE, hT, hV⟩ := fC_open hk Z VC
  subst eg
  have HF := qE_F J hE hV
  refine jcX11_wants (Q' := fun r u => (an_wants (jn4_ (sm_ μ).1) A.1 p0) = some r ∧ u = σ) (QX' := fun _ u => (an_wants (jn4_ (sm_ μ).1) A.1 p0) = none ∧ u = xbump σ) (fun r u a b => ⟨a.1, ?_, b.1⟩) (fun r u a b => ⟨a.1, ?_, b.1⟩) _ _ _ (lk_wants (p0 := p0) hk Z I (lv_of K VC VR)) (vq_wants J hE.2.2.2.2.2.2.2.1 (fun v e => ⟨e, rfl⟩) (fun e => ⟨e, rfl⟩))
  · rw [b.2]; exact VC
  · rw [b.2]; exact fC_nW VC (W := [1005]) ⟨fun _ _ _ => rfl, rfl, fun _ _ _ => rfl, rfl, rfl, rfl, rfl⟩ (by decide) (by decide) hV
set_option maxRecDepth 100000 in
theorem lf_log {k L O : Nat} {σ : kx_S} {μ : km_S} {A : fu_T} {p0 p1 : Int32} (hk : k < 600) (Z : yZ_ k (sm_ μ) L O σ) (I : im_ μ) (K : fK_ (sm_ μ).1 A) (VC : fC_ (sm_ μ).1 A L σ) (VR : fR_ A μ) : wX11_log L p0 p1 σ (fun r u => qu_ k L O (sm_ μ) r u ∧ fC_ (sm_ μ).1 A L u ∧ (an_log (jn2_ (sm_ μ).1) A.1 p0 p1) = some r) (fun e u => qf_ k L O (sm_ μ) e u ∧ fC_ (sm_ μ).1 A L u ∧ (an_log (jn2_ (sm_ μ).1) A.1 p0 p1) = none) := by
  have sb := sB_im I
  obtain ⟨g, κ, B, n, T, N, st, na, tk, ca, tb, eg, J, hBn, n22, hE, hT, hV⟩ := fC_open hk Z VC
  subst eg
  have HF := qE_F J hE hV
  refine jcX11_log (Q' := fun r u => (an_log (jn2_ (sm_ μ).1) A.1 p0 p1) = some r ∧ u = σ) (QX' := fun _ u => (an_log (jn2_ (sm_ μ).1) A.1 p0 p1) = none ∧ u = xbump σ) (fun r u a b => ⟨a.1, ?_, b.1⟩) (fun r u a b => ⟨a.1, ?_, b.1⟩) _ _ _ _ (lk_log (p0 := p0) (p1 := p1) hk Z I (lv_of K VC VR)) (vq_log sb.2.1.2 J hE.2.2.2.2.1 (fun v e => ⟨e, rfl⟩) (fun e => ⟨e, rfl⟩))
  · rw [b.2]; exact VC
  · rw [b.2]; exact fC_nW VC (W := [1005]) ⟨fun _ _ _ => rfl, rfl, fun _ _ _ => rfl, rfl, rfl, rfl, rfl⟩ (by decide) (by decide) hV
set_option maxRecDepth 100000 in
theorem lf_cell {k L O : Nat} {σ : kx_S} {μ : km_S} {A : fu_T} {p0 p1 p2 : Int32} (hk : k < 600) (Z : yZ_ k (sm_ μ) L O σ) (I : im_ μ) (K : fK_ (sm_ μ).1 A) (VC : fC_ (sm_ μ).1 A L σ) (VR : fR_ A μ) : wX11_cell L p0 p1 p2 σ (fun r u => qu_ k L O (sm_ μ) r u ∧ fC_ (sm_ μ).1 A L u ∧ (an_cell (jn1_ (sm_ μ).1) A.1 p0 p1 p2) = some r) (fun e u => qf_ k L O (sm_ μ) e u ∧ fC_ (sm_ μ).1 A L u ∧ (an_cell (jn1_ (sm_ μ).1) A.1 p0 p1 p2) = none) := by
  have sb := sB_im I
  obtain ⟨g, κ, B, n, T, N, st, na, tk, ca, tb, eg, J, hBn, n22, hE, hT, hV⟩ := fC_open hk Z VC
  subst eg
  have HF := qE_F J hE hV
  refine jcX11_cell (Q' := fun r u => (an_cell (jn1_ (sm_ μ).1) A.1 p0 p1 p2) = some r ∧ u = σ) (QX' := fun _ u => (an_cell (jn1_ (sm_ μ).1) A.1 p0 p1 p2) = none ∧ u = xbump σ) (fun r u a b => ⟨a.1, ?_, b.1⟩) (fun r u a b => ⟨a.1, ?_, b.1⟩) _ _ _ _ _ (lk_cell (p0 := p0) (p1 := p1) (p2 := p2) hk Z I (lv_of K VC VR)) (vq_cell0 sb.1.2 K.1.1.1 HF.1.1 (fun v e => ⟨e, rfl⟩) (fun e => ⟨e, rfl⟩))
  · rw [b.2]; exact VC
  · rw [b.2]; exact fC_nW VC (W := [1005]) ⟨fun _ _ _ => rfl, rfl, fun _ _ _ => rfl, rfl, rfl, rfl, rfl⟩ (by decide) (by decide) hV
set_option maxRecDepth 100000 in
theorem lf_inCell {k L O : Nat} {σ : kx_S} {μ : km_S} {A : fu_T} {p0 p1 p2 : Int32} (hk : k < 600) (Z : yZ_ k (sm_ μ) L O σ) (I : im_ μ) (K : fK_ (sm_ μ).1 A) (VC : fC_ (sm_ μ).1 A L σ) (VR : fR_ A μ) : wX11_inCell L p0 p1 p2 σ (fun r u => qu_ k L O (sm_ μ) r u ∧ fC_ (sm_ μ).1 A L u ∧ (an_inCell (jn1_ (sm_ μ).1) A.1 p0 p1 p2) = some r) (fun e u => qf_ k L O (sm_ μ) e u ∧ fC_ (sm_ μ).1 A L u ∧ (an_inCell (jn1_ (sm_ μ).1) A.1 p0 p1 p2) = none) := by
  have sb := sB_im I
  obtain ⟨g, κ, B, n, T, N, st, na, tk, ca, tb, eg, J, hBn, n22, hE, hT, hV⟩ := fC_open hk Z VC
  subst eg
  have HF := qE_F J hE hV
  refine jcX11_inCell (Q' := fun r u => (an_inCell (jn1_ (sm_ μ).1) A.1 p0 p1 p2) = some r ∧ u = σ) (QX' := fun _ u => (an_inCell (jn1_ (sm_ μ).1) A.1 p0 p1 p2) = none ∧ u = xbump σ) (fun r u a b => ⟨a.1, ?_, b.1⟩) (fun r u a b => ⟨a.1, ?_, b.1⟩) _ _ _ _ _ (lk_inCell (p0 := p0) (p1 := p1) (p2 := p2) hk Z I (lv_of K VC VR)) (vq_inCell sb.1.2 sb.2.1.2 K.1.1.1 HF.1.1 (fun v e => ⟨e, rfl⟩) (fun e => ⟨e, rfl⟩))
  · rw [b.2]; exact VC
  · rw [b.2]; exact fC_nW VC (W := [1005]) ⟨fun _ _ _ => rfl, rfl, fun _ _ _ => rfl, rfl, rfl, rfl, rfl⟩ (by decide) (by decide) hV
set_option maxRecDepth 100000 in
theorem lf_heap {k L O : Nat} {σ : kx_S} {μ : km_S} {A : fu_T} {p0 p1 : Int32} (hk : k < 600) (Z : yZ_ k (sm_ μ) L O σ) (I : im_ μ) (K : fK_ (sm_ μ).1 A) (VC : fC_ (sm_ μ).1 A L σ) (VR : fR_ A μ) : wX11_heap L p0 p1 σ (fun r u => qu_ k L O (sm_ μ) r u ∧ fC_ (sm_ μ).1 A L u ∧ (an_heap (jn1_ (sm_ μ).1) A.1 p0 p1) = some r) (fun e u => qf_ k L O (sm_ μ) e u ∧ fC_ (sm_ μ).1 A L u ∧ (an_heap (jn1_ (sm_ μ).1) A.1 p0 p1) = none) := by
  have sb := sB_im I
  obtain ⟨g, κ, B, n, T, N, st, na, tk, ca, tb, eg, J, hBn, n22, hE, hT, hV⟩ := fC_open hk Z VC
  subst eg
  have HF := qE_F J hE hV
  refine jcX11_heap (Q' := fun r u => (an_heap (jn1_ (sm_ μ).1) A.1 p0 p1) = some r ∧ u = σ) (QX' := fun _ u => (an_heap (jn1_ (sm_ μ).1) A.1 p0 p1) = none ∧ u = xbump σ) (fun r u a b => ⟨a.1, ?_, b.1⟩) (fun r u a b => ⟨a.1, ?_, b.1⟩) _ _ _ _ (lk_heap (p0 := p0) (p1 := p1) hk Z I (lv_of K VC VR)) (vq_heap sb.1.2 sb.2.1.2 K.1.1.1 HF.1.1 (fun v e => ⟨e, rfl⟩) (fun e => ⟨e, rfl⟩))
  · rw [b.2]; exact VC
  · rw [b.2]; exact fC_nW VC (W := [1005]) ⟨fun _ _ _ => rfl, rfl, fun _ _ _ => rfl, rfl, rfl, rfl, rfl⟩ (by decide) (by decide) hV
set_option maxRecDepth 100000 in
theorem lf_water {k L O : Nat} {σ : kx_S} {μ : km_S} {A : fu_T} {p0 p1 : Int32} (hk : k < 600) (Z : yZ_ k (sm_ μ) L O σ) (I : im_ μ) (K : fK_ (sm_ μ).1 A) (VC : fC_ (sm_ μ).1 A L σ) (VR : fR_ A μ) : wX11_water L p0 p1 σ (fun r u => qu_ k L O (sm_ μ) r u ∧ fC_ (sm_ μ).1 A L u ∧ (an_water (jn1_ (sm_ μ).1) A.1 A.2.1 p0 p1) = some r) (fun e u => qf_ k L O (sm_ μ) e u ∧ fC_ (sm_ μ).1 A L u ∧ (an_water (jn1_ (sm_ μ).1) A.1 A.2.1 p0 p1) = none) := by
  have sb := sB_im I
  obtain ⟨g, κ, B, n, T, N, st, na, tk, ca, tb, eg, J, hBn, n22, hE, hT, hV⟩ := fC_open hk Z VC
  subst eg
  have HF := qE_F J hE hV
  refine jcX11_water (Q' := fun r u => (an_water (jn1_ (sm_ μ).1) A.1 A.2.1 p0 p1) = some r ∧ u = σ) (QX' := fun _ u => (an_water (jn1_ (sm_ μ).1) A.1 A.2.1 p0 p1) = none ∧ u = xbump σ) (fun r u a b => ⟨a.1, ?_, b.1⟩) (fun r u a b => ⟨a.1, ?_, b.1⟩) _ _ _ _ (lk_water (p0 := p0) (p1 := p1) hk Z I (lv_of K VC VR)) (vq_water sb.1.2 sb.1.1 hV HF.1.1 (fun v e => ⟨e, rfl⟩) (fun e => ⟨e, rfl⟩))
  · rw [b.2]; exact VC
  · rw [b.2]; exact fC_nW VC (W := [1005]) ⟨fun _ _ _ => rfl, rfl, fun _ _ _ => rfl, rfl, rfl, rfl, rfl⟩ (by decide) (by decide) hV
set_option maxRecDepth 100000 in
theorem lf_waters {k L O : Nat} {σ : kx_S} {μ : km_S} {A : fu_T} {p0 : Int32} (hk : k < 600) (Z : yZ_ k (sm_ μ) L O σ) (I : im_ μ) (K : fK_ (sm_ μ).1 A) (VC : fC_ (sm_ μ).1 A L σ) (VR : fR_ A μ) : wX11_waters L p0 σ (fun r u => qu_ k L O (sm_ μ) r u ∧ fC_ (sm_ μ).1 A L u ∧ zq_waters p0 = 0 ∧ r = zv_waters p0 A.2.1) (fun e u => qf_ k L O (sm_ μ) e u ∧ fC_ (sm_ μ).1 A L u ∧ zq_waters p0 = 1) := by
  exact jcX11_waters (Q' := fun _ u => nW_ [1005] σ u) (QX' := fun _ u => nW_ [1005] σ u) (fun r u a b => ⟨a.1, fC_nW VC b (by decide) (by decide) (by have y := a.2.1; rw [VR.2.1] at y; exact y), a.2.2.1, by have y := a.2.2.2; rw [VR.2.1] at y; exact y⟩) (fun r u a b => ⟨a.1, fC_nW VC b (by decide) (by decide) (by have y := a.2.1; rw [VR.2.1] at y; exact y), a.2.2⟩) _ _ _ (lk_waters (p0 := p0) hk Z I (lv_of K VC VR)) (jfX11_waters (I := nW_ [1005] σ) (nW_fw (by decide)) (fun _ _ i => i) (fun _ _ i => i) _ _ _ nW_refl)
set_option maxRecDepth 100000 in
theorem lf_board {k L O : Nat} {σ : kx_S} {μ : km_S} {A : fu_T} {p0 : Int32} (hk : k < 600) (Z : yZ_ k (sm_ μ) L O σ) (I : im_ μ) (K : fK_ (sm_ μ).1 A) (VC : fC_ (sm_ μ).1 A L σ) (VR : fR_ A μ) : wX11_board L p0 σ (fun r u => qu_ k L O (sm_ μ) r u ∧ fC_ (sm_ μ).1 A L u ∧ (bo_ A.1 p0 (jn2_ (sm_ μ).1) 0) = some r) (fun e u => qf_ k L O (sm_ μ) e u ∧ fC_ (sm_ μ).1 A L u ∧ (bo_ A.1 p0 (jn2_ (sm_ μ).1) 0) = none) := by
  have sb := sB_im I
  obtain ⟨g, κ, B, n, T, N, st, na, tk, ca, tb, eg, J, hBn, n22, hE, hT, hV⟩ := fC_open hk Z VC
  subst eg
  have HF := qE_F J hE hV
  refine jcX11_board (Q' := fun r u => (bo_ A.1 p0 (jn2_ (sm_ μ).1) 0) = some r ∧ u = σ) (QX' := fun _ u => (bo_ A.1 p0 (jn2_ (sm_ μ).1) 0) = none ∧ u = xbump σ) (fun r u a b => ⟨a.1, ?_, b.1⟩) (fun r u a b => ⟨a.1, ?_, b.1⟩) _ _ _ (lk_board (p0 := p0) hk Z I (lv_of K VC VR)) (vq_board sb.2.1.2 J hE.2.2.2.2.1 (hp_of I VR) (fun v e => ⟨e, rfl⟩) (fun e => ⟨e, rfl⟩))
  · rw [b.2]; exact VC
  · rw [b.2]; exact fC_nW VC (W := [1005]) ⟨fun _ _ _ => rfl, rfl, fun _ _ _ => rfl, rfl, rfl, rfl, rfl⟩ (by decide) (by decide) hV
set_option maxRecDepth 100000 in
theorem lf_paid {k L O : Nat} {σ : kx_S} {μ : km_S} {A : fu_T} {p0 : Int32} (hk : k < 600) (Z : yZ_ k (sm_ μ) L O σ) (I : im_ μ) (K : fK_ (sm_ μ).1 A) (VC : fC_ (sm_ μ).1 A L σ) (VR : fR_ A μ) : wX11_paid L p0 σ (fun r u => qu_ k L O (sm_ μ) r u ∧ fC_ (sm_ μ).1 A L u) (fun e u => qf_ k L O (sm_ μ) e u ∧ fC_ (sm_ μ).1 A L u) := by
  exact jcX11_paid (Q' := fun _ u => nW_ [1005] σ u) (QX' := fun _ u => nW_ [1005] σ u) (fun r u a b => ⟨a.1, fC_nW VC b (by decide) (by decide) (by have y := a.2; rw [VR.2.1] at y; exact y)⟩) (fun r u a b => ⟨a.1, fC_nW VC b (by decide) (by decide) (by have y := a.2; rw [VR.2.1] at y; exact y)⟩) _ _ _ (lk_paid (p0 := p0) hk Z I (lv_of K VC VR)) (jfX11_paid (I := nW_ [1005] σ) (nW_fw (by decide)) (fun _ _ i => i) (fun _ _ i => i) _ _ _ nW_refl)
set_option maxRecDepth 100000 in
theorem lf_count {k L O : Nat} {σ : kx_S} {μ : km_S} {A : fu_T} {p0 : Int32} (hk : k < 600) (Z : yZ_ k (sm_ μ) L O σ) (I : im_ μ) (K : fK_ (sm_ μ).1 A) (VC : fC_ (sm_ μ).1 A L σ) (VR : fR_ A μ) : wX11_count L p0 σ (fun r u => qu_ k L O (sm_ μ) r u ∧ fC_ (sm_ μ).1 A L u ∧ (an_count A.2.2.1.1 (sm_ μ) A.1 p0) = some r) (fun e u => qf_ k L O (sm_ μ) e u ∧ fC_ (sm_ μ).1 A L u ∧ (an_count A.2.2.1.1 (sm_ μ) A.1 p0) = none) := by
  have sb := sB_im I
  obtain ⟨g, κ, B, n, T, N, st, na, tk, ca, tb, eg, J, hBn, n22, hE, hT, hV⟩ := fC_open hk Z VC
  subst eg
  have HF := qE_F J hE hV
  have t213 : ∀ t, xr σ 213 (g 0) = some t → xi σ 177 t = (sm_ μ).1.2.2.2.2.1 := fun t e => by rw [← Option.some.inj ((yg6 J).1.symm.trans e)]; exact (yG_idx J).2.2.2.2.1
  refine jcX11_count (Q' := fun r u => (an_count A.2.2.1.1 (sm_ μ) A.1 p0) = some r ∧ u = σ) (QX' := fun _ u => (an_count A.2.2.1.1 (sm_ μ) A.1 p0) = none ∧ u = xbump σ) (fun r u a b => ⟨a.1, ?_, b.1⟩) (fun r u a b => ⟨a.1, ?_, b.1⟩) _ _ _ (lk_count (p0 := p0) hk Z I (lv_of K VC VR)) (vq_count sb.1.2 K.2.1.2.2.1 HF.1 t213 (fun v e => ⟨e, rfl⟩) (fun e => ⟨e, rfl⟩))
  · rw [b.2]; exact VC
  · rw [b.2]; exact fC_nW VC (W := [1005]) ⟨fun _ _ _ => rfl, rfl, fun _ _ _ => rfl, rfl, rfl, rfl, rfl⟩ (by decide) (by decide) hV
