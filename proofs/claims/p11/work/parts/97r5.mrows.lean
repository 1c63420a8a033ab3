/-! the reference, a row a call -/
def an0_ (x : Option Int32) (r : Int32) (u : km_S) : Prop := km_i u 1 = oc_ x ∧ (oc_ x = 0 → r = x.getD 0)

set_option maxRecDepth 100000 in
theorem lm_reach {μ : km_S} {A : fu_T} {p0 p1 p2 p3 : Int32} (I : im_ μ) (K : fK_ (sm_ μ).1 A) (VR : fR_ A μ) : wX12_reach p0 p1 p2 p3 μ (fun r u => pz_ (z_reach p0 p1 p2 p3 (sm_ μ)) r u ∧ fR_ (fa_reach p0 p1 p2 p3 (sm_ μ) A) u) := by
  have sb := sB_im I
  obtain ⟨h, hw, hS⟩ := VR
  refine jcX12_reach (fun r u a b => ?_) _ _ _ _ _ (jcX12_reach (Q' := fun _ u => nm_ [1, 3, 13, 14, 15, 16] μ u) (fun _ _ a b => And.intro a b) _ _ _ _ _ (rm_reach I) (jfX12_reach (I := nm_ [1, 3, 13, 14, 15, 16] μ) nm_gw (fun _ _ i => i) _ _ _ _ _ nm_refl)) (vr_reach rfl h)
  refine ⟨a.1.1, ?_⟩
  have es : sm_ u = (z_reach p0 p1 p2 p3 (sm_ μ)).2.2 := congrArg (fun q => q.2.2) a.1.1.2
  have e2 : jn2_ (sm_ u).1 = jn2_ (sm_ μ).1 := by rw [es]; exact (nu_reach sb.1.1 sb.1.2).2.1
  refine ⟨?_, ?_, fS_nm hS a.2 (by decide)⟩
  · show rQ_ (jn2_ (sm_ u).1) _ u
    rw [e2]
    exact b
  · rw [a.1.2, hw]
    rfl
set_option maxRecDepth 100000 in
theorem lm_dam {μ : km_S} {A : fu_T} {p0 p1 : Int32} (I : im_ μ) (K : fK_ (sm_ μ).1 A) (VR : fR_ A μ) : wX12_dam p0 p1 μ (fun r u => pz_ (z_dam p0 p1 (sm_ μ)) r u ∧ fR_ (fa_dam p0 p1 (sm_ μ) A) u) := by
  have sb := sB_im I
  obtain ⟨h, hw, hS⟩ := VR
  refine jcX12_dam (fun r u a b => ?_) _ _ _ (jcX12_dam (Q' := fun _ u => nm_ [1, 21, 24] μ u) (fun _ _ a b => And.intro a b) _ _ _ (rm_dam I) (jfX12_dam (I := nm_ [1, 21, 24] μ) nm_gw (fun _ _ i => i) _ _ _ nm_refl)) (vr_dam rfl h)
  refine ⟨a.1.1, ?_⟩
  have es : sm_ u = (z_dam p0 p1 (sm_ μ)).2.2 := congrArg (fun q => q.2.2) a.1.1.2
  have e2 : jn2_ (sm_ u).1 = jn2_ (sm_ μ).1 := by rw [es]; exact (nu_same nz_dam).2.1
  refine ⟨?_, ?_, fS_nm hS a.2 (by decide)⟩
  · show rQ_ (jn2_ (sm_ u).1) _ u
    rw [e2]
    exact b
  · rw [a.1.2.1, hw]
    rfl
set_option maxRecDepth 100000 in
theorem lm_gate {μ : km_S} {A : fu_T} {p0 p1 : Int32} (I : im_ μ) (K : fK_ (sm_ μ).1 A) (VR : fR_ A μ) : wX12_gate p0 p1 μ (fun r u => pz_ (z_gate p0 p1 (sm_ μ)) r u ∧ fR_ A u) := by
  have sb := sB_im I
  obtain ⟨h, hw, hS⟩ := VR
  refine jcX12_gate (Q' := fun _ _ => True) (fun r u a _ => ⟨a.1.1, ?_⟩) _ _ _ (jcX12_gate (Q' := fun _ u => nm_ [1, 26] μ u) (fun _ _ a b => And.intro a b) _ _ _ (jcX12_gate (Q' := fun _ u => mw_ μ u) (fun _ _ a b => And.intro a b) _ _ _ (rz_gate I) (jfX12_gate (I := mw_ μ) (wm_gw (by decide)) (fun _ _ i => i) _ _ _ ⟨rfl, rfl⟩)) (jfX12_gate (I := nm_ [1, 26] μ) nm_gw (fun _ _ i => i) _ _ _ nm_refl)) (jfX12_gate (I := fun _ => True) gw_true (fun _ _ _ => trivial) _ _ _ trivial)
  have es : sm_ u = (z_gate p0 p1 (sm_ μ)).2.2 := congrArg (fun q => q.2.2) a.1.1.2
  have e2 : jn2_ (sm_ u).1 = jn2_ (sm_ μ).1 := by rw [es]; exact (nu_same nz_gate).2.1
  refine ⟨?_, a.1.2.1.trans hw, fS_nm hS a.2 (by decide)⟩
  rw [e2]
  exact rQ_nm h a.2 (by decide)
set_option maxRecDepth 100000 in
theorem lm_melt {μ : km_S} {A : fu_T} {p0 p1 : Int32} (I : im_ μ) (K : fK_ (sm_ μ).1 A) (VR : fR_ A μ) : wX12_melt p0 p1 μ (fun r u => pz_ (z_melt p0 p1 (sm_ μ)) r u ∧ fR_ A u) := by
  have sb := sB_im I
  obtain ⟨h, hw, hS⟩ := VR
  refine jcX12_melt (Q' := fun _ _ => True) (fun r u a _ => ⟨a.1.1, ?_⟩) _ _ _ (jcX12_melt (Q' := fun _ u => nm_ [1, 17] μ u) (fun _ _ a b => And.intro a b) _ _ _ (jcX12_melt (Q' := fun _ u => mw_ μ u) (fun _ _ a b => And.intro a b) _ _ _ (rz_melt I) (jfX12_melt (I := mw_ μ) (wm_gw (by decide)) (fun _ _ i => i) _ _ _ ⟨rfl, rfl⟩)) (jfX12_melt (I := nm_ [1, 17] μ) nm_gw (fun _ _ i => i) _ _ _ nm_refl)) (jfX12_melt (I := fun _ => True) gw_true (fun _ _ _ => trivial) _ _ _ trivial)
  have es : sm_ u = (z_melt p0 p1 (sm_ μ)).2.2 := congrArg (fun q => q.2.2) a.1.1.2
  have e2 : jn2_ (sm_ u).1 = jn2_ (sm_ μ).1 := by rw [es]; exact (nu_same nz_melt).2.1
  refine ⟨?_, a.1.2.1.trans hw, fS_nm hS a.2 (by decide)⟩
  rw [e2]
  exact rQ_nm h a.2 (by decide)
set_option maxRecDepth 100000 in
theorem lm_boom {μ : km_S} {A : fu_T} {p0 p1 p2 : Int32} (I : im_ μ) (K : fK_ (sm_ μ).1 A) (VR : fR_ A μ) : wX12_boom p0 p1 p2 μ (fun r u => pz_ (z_boom p0 p2 (sm_ μ)) r u ∧ fR_ (fa_boom p0 p1 p2 (sm_ μ) A) u) := by
  have sb := sB_im I
  obtain ⟨h, hw, hS⟩ := VR
  refine jcX12_boom (fun r u a b => ?_) _ _ _ _ (jcX12_boom (Q' := fun _ u => nm_ [1, 22, 27, 28] μ u) (fun _ _ a b => And.intro a b) _ _ _ _ (jcX12_boom (Q' := fun _ u => mw_ μ u) (fun _ _ a b => And.intro a b) _ _ _ _ (rz_boom I) (jfX12_boom (I := mw_ μ) (wm_gw (by decide)) (fun _ _ i => i) _ _ _ _ ⟨rfl, rfl⟩)) (jfX12_boom (I := nm_ [1, 22, 27, 28] μ) nm_gw (fun _ _ i => i) _ _ _ _ nm_refl)) (vr_boom rfl h)
  refine ⟨a.1.1, ?_⟩
  have es : sm_ u = (z_boom p0 p2 (sm_ μ)).2.2 := congrArg (fun q => q.2.2) a.1.1.2
  have e2 : jn2_ (sm_ u).1 = jn2_ (sm_ μ).1 := by rw [es]; exact (nu_same nz_boom).2.1
  refine ⟨?_, a.1.2.1.trans hw, fS_nm hS a.2 (by decide)⟩
  show rQ_ (jn2_ (sm_ u).1) _ u
  rw [e2]
  exact b
set_option maxRecDepth 100000 in
theorem lm_watch {μ : km_S} {A : fu_T} {p0 p1 : Int32} (hv : p1 = 0 ∨ p1 = 1) (I : im_ μ) (K : fK_ (sm_ μ).1 A) (VR : fR_ A μ) : wX12_watch p0 p1 μ (fun r u => pz_ (z_watch p0 p1 (sm_ μ)) r u ∧ fR_ (fa_watch p0 p1 (sm_ μ) A) u) := by
  have sb := sB_im I
  obtain ⟨h, hw, hS⟩ := VR
  refine jcX12_watch (fun r u a b => ?_) _ _ _ (jcX12_watch (Q' := fun _ u => nm_ [1, 23] μ u) (fun _ _ a b => And.intro a b) _ _ _ (jcX12_watch (Q' := fun _ u => mw_ μ u) (fun _ _ a b => And.intro a b) _ _ _ (rz_watch hv I) (jfX12_watch (I := mw_ μ) (wm_gw (by decide)) (fun _ _ i => i) _ _ _ ⟨rfl, rfl⟩)) (jfX12_watch (I := nm_ [1, 23] μ) nm_gw (fun _ _ i => i) _ _ _ nm_refl)) (vr_watch hv rfl h)
  refine ⟨a.1.1, ?_⟩
  have es : sm_ u = (z_watch p0 p1 (sm_ μ)).2.2 := congrArg (fun q => q.2.2) a.1.1.2
  have e2 : jn2_ (sm_ u).1 = jn2_ (sm_ μ).1 := by rw [es]; exact (nu_same nz_watch).2.1
  refine ⟨?_, a.1.2.1.trans hw, fS_nm hS a.2 (by decide)⟩
  show rQ_ (jn2_ (sm_ u).1) _ u
  rw [e2]
  exact b
set_option maxRecDepth 100000 in
theorem lm_crew {μ : km_S} {A : fu_T} {p0 p1 : Int32} (I : im_ μ) (K : fK_ (sm_ μ).1 A) (VR : fR_ A μ) : wX12_crew p0 p1 μ (fun r u => pz_ (z_crew p0 p1 (sm_ μ)) r u ∧ fR_ (fa_crew p0 p1 (sm_ μ) A) u) := by
  have sb := sB_im I
  obtain ⟨h, hw, hS⟩ := VR
  refine jcX12_crew (fun r u a b => ?_) _ _ _ (jcX12_crew (Q' := fun _ u => nm_ [1, 7, 44, 45, 46] μ u) (fun _ _ a b => And.intro a b) _ _ _ (jcX12_crew (Q' := fun _ u => mw_ μ u) (fun _ _ a b => And.intro a b) _ _ _ (rz_crew I) (jfX12_crew (I := mw_ μ) (wm_gw (by decide)) (fun _ _ i => i) _ _ _ ⟨rfl, rfl⟩)) (jfX12_crew (I := nm_ [1, 7, 44, 45, 46] μ) nm_gw (fun _ _ i => i) _ _ _ nm_refl)) (vr_crew (by rw [sb.2.2.1.1]; omega) rfl h)
  refine ⟨a.1.1, ?_⟩
  have es : sm_ u = (z_crew p0 p1 (sm_ μ)).2.2 := congrArg (fun q => q.2.2) a.1.1.2
  have e2 : jn2_ (sm_ u).1 = jn2_ (sm_ μ).1 := by rw [es]; exact (nu_crew sb.2.2.1.1 sb.2.2.1.2).2.1
  refine ⟨?_, a.1.2.1.trans hw, fS_nm hS a.2 (by decide)⟩
  show rQ_ (jn2_ (sm_ u).1) _ u
  rw [e2]
  exact b
set_option maxRecDepth 100000 in
theorem lm_feed {μ : km_S} {A : fu_T} {p0 p1 p2 p3 p4 : Int32} (I : im_ μ) (K : fK_ (sm_ μ).1 A) (VR : fR_ A μ) : wX12_feed p0 p1 p2 p3 p4 μ (fun r u => pz_ (z_feed (sm_ μ)) r u ∧ fR_ (fa_feed p0 p1 p2 p3 p4 (sm_ μ) A) u) := by
  have sb := sB_im I
  obtain ⟨h, hw, hS⟩ := VR
  refine jcX12_feed (fun r u a b => ?_) _ _ _ _ _ _ (jcX12_feed (Q' := fun _ u => nm_ [1, 9, 52] μ u) (fun _ _ a b => And.intro a b) _ _ _ _ _ _ (jcX12_feed (Q' := fun _ u => mw_ μ u) (fun _ _ a b => And.intro a b) _ _ _ _ _ _ (rz_feed I) (jfX12_feed (I := mw_ μ) (wm_gw (by decide)) (fun _ _ i => i) _ _ _ _ _ _ ⟨rfl, rfl⟩)) (jfX12_feed (I := nm_ [1, 9, 52] μ) nm_gw (fun _ _ i => i) _ _ _ _ _ _ nm_refl)) (vr_feed (s := sm_ μ) rfl sb.2.2.2.2.1 sb.2.2.2.2.2 hS.2.1)
  refine ⟨a.1.1, ?_⟩
  have es : sm_ u = (z_feed (sm_ μ)).2.2 := congrArg (fun q => q.2.2) a.1.1.2
  have e2 : jn2_ (sm_ u).1 = jn2_ (sm_ μ).1 := by rw [es]; exact nu_feed.2.1
  refine ⟨?_, a.1.2.1.trans hw, fL_nm hS.1 a.2 (by decide), b, (a.2.1 10 (by decide)).trans hS.2.2⟩
  rw [e2]
  exact rQ_nm h a.2 (by decide)
set_option maxRecDepth 100000 in
theorem lm_law {μ : km_S} {A : fu_T} {p0 p1 : Int32} (I : im_ μ) (K : fK_ (sm_ μ).1 A) (VR : fR_ A μ) : wX12_law p0 p1 μ (fun r u => py_ (z_law p0 p1 (sm_ μ)) r u ∧ fR_ (fa_law p0 p1 (sm_ μ) A) u) := by
  have sb := sB_im I
  obtain ⟨h, hw, hS⟩ := VR
  refine jcX12_law (fun r u a b => ?_) _ _ _ (jcX12_law (Q' := fun _ u => nm_ [1, 5, 9, 10, 53, 54, 55, 56, 58, 59, 60, 61, 62, 63, 64, 65, 66, 67] μ u) (fun _ _ a b => And.intro a b) _ _ _ (jcX12_law (Q' := fun _ u => mw_ μ u) (fun _ _ a b => And.intro a b) _ _ _ (rz_law I) (jfX12_law (I := mw_ μ) (wm_gw (by decide)) (fun _ _ i => i) _ _ _ ⟨rfl, rfl⟩)) (jfX12_law (I := nm_ [1, 5, 9, 10, 53, 54, 55, 56, 58, 59, 60, 61, 62, 63, 64, 65, 66, 67] μ) nm_gw (fun _ _ i => i) _ _ _ nm_refl)) (vr_law (s := sm_ μ) rfl sb.2.2.2.2.1 sb.2.2.2.2.2 hS.2.1 K.2.2.2.2 K.2.2.2.1 hS.1 hS.2.2)
  refine ⟨a.1.1, ?_⟩
  have es : sm_ u = (z_law p0 p1 (sm_ μ)).2 := congrArg (fun q => q.2) a.1.1.2
  have e2 : jn2_ (sm_ u).1 = jn2_ (sm_ μ).1 := by rw [es]; exact nu_law.2.1
  refine ⟨?_, a.1.2.1.trans hw, b.1, ?_, b.2⟩
  · rw [e2]
    exact rQ_nm h a.2 (by decide)
  · rw [a.2.2 52 (by decide)]
    exact hS.2.1
set_option maxRecDepth 100000 in
theorem lm_fault {μ : km_S} {A : fu_T} (I : im_ μ) (K : fK_ (sm_ μ).1 A) (VR : fR_ A μ) : wX12_fault μ (fun r u => pu_ (sm_ μ) r u ∧ fR_ A u ∧ r = A.2.2.2.2) := by
  have sb := sB_im I
  obtain ⟨h, hw, hS⟩ := VR
  refine jcX12_fault (Q' := fun r u => r = A.2.2.2.2) (fun r u a b => ⟨a.1.1, ?_, b⟩) _ (jcX12_fault (Q' := fun _ u => nm_ [1] μ u) (fun _ _ a b => And.intro a b) _ (jcX12_fault (Q' := fun _ u => mw_ μ u) (fun _ _ a b => And.intro a b) _ (rz_fault I) (jfX12_fault (I := mw_ μ) (wm_gw (by decide)) (fun _ _ i => i) _ ⟨rfl, rfl⟩)) (jfX12_fault (I := nm_ [1] μ) nm_gw (fun _ _ i => i) _ nm_refl)) (fun μ1 e1 => by rw [e1]; exact hS.2.2)
  refine ⟨?_, a.1.2.1.trans hw, fS_nm hS a.2 (by decide)⟩
  rw [a.1.1.2]
  exact rQ_nm h a.2 (by decide)
set_option maxRecDepth 100000 in
theorem lm_cut {μ : km_S} {A : fu_T} {p0 p1 p2 : Int32} (I : im_ μ) (K : fK_ (sm_ μ).1 A) (VR : fR_ A μ) : wX12_cut p0 p1 p2 μ (fun r u => pz_ (z_cut p0 p1 p2 (sm_ μ)) r u ∧ fR_ (fa_cut p0 p1 p2 (sm_ μ) A) u) := by
  have sb := sB_im I
  obtain ⟨h, hw, hS⟩ := VR
  refine jcX12_cut (fun r u a b => ?_) _ _ _ _ (jcX12_cut (Q' := fun _ u => nm_ [1, 4, 35, 36, 37, 38, 39, 40, 42] μ u) (fun _ _ a b => And.intro a b) _ _ _ _ (jcX12_cut (Q' := fun _ u => mw_ μ u) (fun _ _ a b => And.intro a b) _ _ _ _ (rz_cut I) (jfX12_cut (I := mw_ μ) (wm_gw (by decide)) (fun _ _ i => i) _ _ _ _ ⟨rfl, rfl⟩)) (jfX12_cut (I := nm_ [1, 4, 35, 36, 37, 38, 39, 40, 42] μ) nm_gw (fun _ _ i => i) _ _ _ _ nm_refl)) (vr_cut (nl := jn2_ (sm_ μ).1) rfl rfl h)
  refine ⟨a.1.1, ?_⟩
  have es : sm_ u = (z_cut p0 p1 p2 (sm_ μ)).2.2 := congrArg (fun q => q.2.2) a.1.1.2
  have e2 : jn2_ (sm_ u).1 = (if (sm_ μ).1.2.1 = 400 ∨ p0 < 0 ∨ 15 < p0 ∨ p1 < 1 ∨ 9 < p1 ∨ p2 < 0 ∨ ¬ p2 ≤ 1000000 then jn2_ (sm_ μ).1 else jn2_ (sm_ μ).1 + 1) := by rw [es]; exact (nu_cut sb.2.1.1 sb.2.1.2).2.1
  refine ⟨?_, a.1.2.1.trans hw, fS_nm hS a.2 (by decide)⟩
  show rQ_ (jn2_ (sm_ u).1) _ u
  rw [e2]
  exact b
set_option maxRecDepth 100000 in
theorem lm_let {μ : km_S} {A : fu_T} {p0 p1 p2 : Int32} (I : im_ μ) (K : fK_ (sm_ μ).1 A) (VR : fR_ A μ) : wX12_let p0 p1 p2 μ (fun r u => pu_ (sm_ μ) r u ∧ fR_ (fa_let p0 p1 p2 (sm_ μ) A) u ∧ an0_ ((fan_let p0 p1 p2 (sm_ μ) A).map Prod.fst) r u) := by
  have sb := sB_im I
  obtain ⟨h, hw, hS⟩ := VR
  refine jcX12_let (Q' := fun r u => (∃ b, rQ_ (jn2_ (sm_ μ).1) b u ∧ fa_let p0 p1 p2 (sm_ μ) A = (b, A.2)) ∧ an0_ ((fan_let p0 p1 p2 (sm_ μ) A).map Prod.fst) r u) (fun r u a b => ?_) _ _ _ _ (jcX12_let (Q' := fun _ u => nm_ [1, 31, 32, 38, 39, 40, 57, 68] μ u) (fun _ _ a b => And.intro a b) _ _ _ _ (jcX12_let (Q' := fun _ u => mw_ μ u) (fun _ _ a b => And.intro a b) _ _ _ _ (rz_let I) (jfX12_let (I := mw_ μ) (wm_gw (by decide)) (fun _ _ i => i) _ _ _ _ ⟨rfl, rfl⟩)) (jfX12_let (I := nm_ [1, 31, 32, 38, 39, 40, 57, 68] μ) nm_gw (fun _ _ i => i) _ _ _ _ nm_refl)) (vr_let sb.1.2 sb.2.1.2 K.1.1.1 K.1.1.2.1 sb.1.1 sb.2.1.1 hS.1.1 K.2.2.2.1.1 hS.1.2.1 (mM_L K.2.2.2.1 hS.1) h (fun e hr => ?_) (fun x b u e e1 hr => ?_))
  · refine ⟨a.1.1, ?_, b.2⟩
    obtain ⟨⟨b, b1, b2⟩, _⟩ := b
    rw [b2]
    refine ⟨?_, a.1.2.1.trans hw, fS_nm hS a.2 (by decide)⟩
    rw [a.1.1.2]
    exact b1
  · have e : fan_let p0 p1 p2 (sm_ μ) A = none := e
    refine ⟨⟨A.1, hr, ?_⟩, ?_⟩
    · unfold fa_let
      rw [e]
    · rw [e]
      exact ⟨rfl, fun q => absurd q (by decide)⟩
  · have e : fan_let p0 p1 p2 (sm_ μ) A = some (x, b) := e
    refine ⟨⟨b, hr, ?_⟩, ?_⟩
    · unfold fa_let
      rw [e]
    · rw [e]
      exact ⟨e1, fun _ => rfl⟩
set_option maxRecDepth 100000 in
theorem lm_hours {μ : km_S} {A : fu_T} {p0 : Int32} (I : im_ μ) (K : fK_ (sm_ μ).1 A) (VR : fR_ A μ) : wX12_hours p0 μ (fun r u => pz_ (z_hours p0 (sm_ μ)) r u ∧ fR_ (fa_hours p0 (sm_ μ) A) u) := by
  have sb := sB_im I
  obtain ⟨h, hw, hS⟩ := VR
  refine jcX12_hours (Q' := fun _ u => rQ_ (jn2_ (sm_ μ).1) (fa_hours p0 (sm_ μ) A).1 u ∧ wm_ u = (fa_hours p0 (sm_ μ) A).2.1) (fun r u a b => ?_) _ _ (jcX12_hours (Q' := fun _ u => nm_ [1, 2, 6, 11, 12, 18, 19, 20, 25, 29, 30, 31, 32, 33, 34, 38, 39, 40, 41, 42, 43, 46, 50, 57, 68, 69, 1000] μ u) (fun _ _ a b => And.intro a b) _ _ (rz_hours I) (jfX12_hours (I := nm_ [1, 2, 6, 11, 12, 18, 19, 20, 25, 29, 30, 31, 32, 33, 34, 38, 39, 40, 41, 42, 43, 46, 50, 57, 68, 69, 1000] μ) nm_gw (fun _ _ i => i) _ _ nm_refl)) (jaX12_hours (fun _ _ q => q) _ _ (wr_hours (S := sm_ μ) ⟨sb.1.1, sb.2.1.1, sb.2.2.1.1, sb.2.2.2.1.1⟩ K.1 K.2.2.1 (k0 := km_i μ 1) ⟨⟨I, rfl⟩, h.1, h.2, hw⟩ (fun c => ?_) (fun c q v eq e1 H1 _ _ => ?_)))
  · refine ⟨a.1, ?_⟩
    have es : sm_ u = (z_hours p0 (sm_ μ)).2.2 := congrArg (fun q => q.2.2) a.1.2
    have e2 : jn2_ (sm_ u).1 = jn2_ (sm_ μ).1 := by rw [es]; exact nu_hours.2.1
    have e3 : (fa_hours p0 (sm_ μ) A).2.2 = A.2.2 := by
      unfold fa_hours
      split <;> rfl
    refine ⟨?_, b.2, ?_⟩
    · rw [e2]
      exact b.1
    · unfold fS_
      rw [e3]
      exact fS_nm hS a.2 (by decide)
  · have ef : fa_hours p0 (sm_ μ) A = A := if_pos c
    rw [ef]
    exact ⟨rQ_si (rQ_si h (by decide)) (by decide), hw⟩
  · have ef : fa_hours p0 (sm_ μ) A = (q.2.1, q.2.2, A.2.2) := by
      unfold fa_hours
      rw [if_neg c, eq]
    rw [ef]
    exact ⟨⟨H1.2.1, H1.2.2.1⟩, H1.2.2.2⟩
set_option maxRecDepth 100000 in
theorem lm_order {μ : km_S} {A : fu_T} {p0 p1 p2 p3 : Int32} (I : im_ μ) (K : fK_ (sm_ μ).1 A) (VR : fR_ A μ) : wX12_order p0 p1 p2 p3 μ (fun r u => pz_ (z_order p0 p1 p2 p3 (sm_ μ)) r u ∧ fR_ (fa_order p0 p1 p2 p3 (sm_ μ) A) u) := by
  have sb := sB_im I
  obtain ⟨h, hw, hS⟩ := VR
  refine jcX12_order (fun r u a b => ?_) _ _ _ _ _ (jcX12_order (Q' := fun _ u => nm_ [1, 8, 47, 48, 49, 50] μ u) (fun _ _ a b => And.intro a b) _ _ _ _ _ (jcX12_order (Q' := fun _ u => mw_ μ u) (fun _ _ a b => And.intro a b) _ _ _ _ _ (rz_order I) (jfX12_order (I := mw_ μ) (wm_gw (by decide)) (fun _ _ i => i) _ _ _ _ _ ⟨rfl, rfl⟩)) (jfX12_order (I := nm_ [1, 8, 47, 48, 49, 50] μ) nm_gw (fun _ _ i => i) _ _ _ _ _ nm_refl)) (vr_order rfl h)
  refine ⟨a.1.1, ?_⟩
  have es : sm_ u = (z_order p0 p1 p2 p3 (sm_ μ)).2.2 := congrArg (fun q => q.2.2) a.1.1.2
  have e2 : jn2_ (sm_ u).1 = jn2_ (sm_ μ).1 := by rw [es]; exact (nu_order sb.2.2.2.1.1 sb.2.2.2.1.2).2.1
  refine ⟨?_, a.1.2.1.trans hw, fS_nm hS a.2 (by decide)⟩
  show rQ_ (jn2_ (sm_ u).1) _ u
  rw [e2]
  exact b
set_option maxRecDepth 100000 in
theorem lm_wants {μ : km_S} {A : fu_T} {p0 : Int32} (I : im_ μ) (K : fK_ (sm_ μ).1 A) (VR : fR_ A μ) : wX12_wants p0 μ (fun r u => pu_ (sm_ μ) r u ∧ fR_ A u ∧ an0_ (an_wants (jn4_ (sm_ μ).1) A.1 p0) r u) := by
  have sb := sB_im I
  obtain ⟨h, hw, hS⟩ := VR
  refine jcX12_wants (Q' := fun r u => an0_ (an_wants (jn4_ (sm_ μ).1) A.1 p0) r u) (fun r u a b => ⟨a.1.1, ?_, b⟩) _ _ (jcX12_wants (Q' := fun _ u => nm_ [1] μ u) (fun _ _ a b => And.intro a b) _ _ (jcX12_wants (Q' := fun _ u => mw_ μ u) (fun _ _ a b => And.intro a b) _ _ (rz_wants I) (jfX12_wants (I := mw_ μ) (wm_gw (by decide)) (fun _ _ i => i) _ _ ⟨rfl, rfl⟩)) (jfX12_wants (I := nm_ [1] μ) nm_gw (fun _ _ i => i) _ _ nm_refl)) (vr_wants sb.2.2.2.1.1 h.1 (fun v e => by rw [e]; exact ⟨rfl, fun _ => rfl⟩) (fun e => by rw [e]; exact ⟨rfl, fun q => absurd q (by decide)⟩))
  refine ⟨?_, a.1.2.1.trans hw, fS_nm hS a.2 (by decide)⟩
  rw [a.1.1.2]
  exact rQ_nm h a.2 (by decide)
set_option maxRecDepth 100000 in
theorem lm_log {μ : km_S} {A : fu_T} {p0 p1 : Int32} (I : im_ μ) (K : fK_ (sm_ μ).1 A) (VR : fR_ A μ) : wX12_log p0 p1 μ (fun r u => pu_ (sm_ μ) r u ∧ fR_ A u ∧ an0_ (an_log (jn2_ (sm_ μ).1) A.1 p0 p1) r u) := by
  have sb := sB_im I
  obtain ⟨h, hw, hS⟩ := VR
  refine jcX12_log (Q' := fun r u => an0_ (an_log (jn2_ (sm_ μ).1) A.1 p0 p1) r u) (fun r u a b => ⟨a.1.1, ?_, b⟩) _ _ _ (jcX12_log (Q' := fun _ u => nm_ [1] μ u) (fun _ _ a b => And.intro a b) _ _ _ (jcX12_log (Q' := fun _ u => mw_ μ u) (fun _ _ a b => And.intro a b) _ _ _ (rz_log I) (jfX12_log (I := mw_ μ) (wm_gw (by decide)) (fun _ _ i => i) _ _ _ ⟨rfl, rfl⟩)) (jfX12_log (I := nm_ [1] μ) nm_gw (fun _ _ i => i) _ _ _ nm_refl)) (vr_log sb.2.1.1 h.1 (fun v e => by rw [e]; exact ⟨rfl, fun _ => rfl⟩) (fun e => by rw [e]; exact ⟨rfl, fun q => absurd q (by decide)⟩))
  refine ⟨?_, a.1.2.1.trans hw, fS_nm hS a.2 (by decide)⟩
  rw [a.1.1.2]
  exact rQ_nm h a.2 (by decide)
set_option maxRecDepth 100000 in
theorem lm_cell {μ : km_S} {A : fu_T} {p0 p1 p2 : Int32} (I : im_ μ) (K : fK_ (sm_ μ).1 A) (VR : fR_ A μ) : wX12_cell p0 p1 p2 μ (fun r u => pu_ (sm_ μ) r u ∧ fR_ A u ∧ an0_ (an_cell (jn1_ (sm_ μ).1) A.1 p0 p1 p2) r u) := by
  have sb := sB_im I
  obtain ⟨h, hw, hS⟩ := VR
  refine jcX12_cell (Q' := fun r u => an0_ (an_cell (jn1_ (sm_ μ).1) A.1 p0 p1 p2) r u) (fun r u a b => ⟨a.1.1, ?_, b⟩) _ _ _ _ (jcX12_cell (Q' := fun _ u => nm_ [1] μ u) (fun _ _ a b => And.intro a b) _ _ _ _ (jcX12_cell (Q' := fun _ u => mw_ μ u) (fun _ _ a b => And.intro a b) _ _ _ _ (rz_cell I) (jfX12_cell (I := mw_ μ) (wm_gw (by decide)) (fun _ _ i => i) _ _ _ _ ⟨rfl, rfl⟩)) (jfX12_cell (I := nm_ [1] μ) nm_gw (fun _ _ i => i) _ _ _ _ nm_refl)) (vr_cell sb.1.2 K.1.1.1 sb.1.1 h.1 (fun v e => by rw [e]; exact ⟨rfl, fun _ => rfl⟩) (fun e => by rw [e]; exact ⟨rfl, fun q => absurd q (by decide)⟩))
  refine ⟨?_, a.1.2.1.trans hw, fS_nm hS a.2 (by decide)⟩
  rw [a.1.1.2]
  exact rQ_nm h a.2 (by decide)
set_option maxRecDepth 100000 in
theorem lm_inCell {μ : km_S} {A : fu_T} {p0 p1 p2 : Int32} (I : im_ μ) (K : fK_ (sm_ μ).1 A) (VR : fR_ A μ) : wX12_inCell p0 p1 p2 μ (fun r u => pu_ (sm_ μ) r u ∧ fR_ A u ∧ an0_ (an_inCell (jn1_ (sm_ μ).1) A.1 p0 p1 p2) r u) := by
  have sb := sB_im I
  obtain ⟨h, hw, hS⟩ := VR
  refine jcX12_inCell (Q' := fun r u => an0_ (an_inCell (jn1_ (sm_ μ).1) A.1 p0 p1 p2) r u) (fun r u a b => ⟨a.1.1, ?_, b⟩) _ _ _ _ (jcX12_inCell (Q' := fun _ u => nm_ [1] μ u) (fun _ _ a b => And.intro a b) _ _ _ _ (jcX12_inCell (Q' := fun _ u => mw_ μ u) (fun _ _ a b => And.intro a b) _ _ _ _ (rz_inCell I) (jfX12_inCell (I := mw_ μ) (wm_gw (by decide)) (fun _ _ i => i) _ _ _ _ ⟨rfl, rfl⟩)) (jfX12_inCell (I := nm_ [1] μ) nm_gw (fun _ _ i => i) _ _ _ _ nm_refl)) (vr_inCell sb.1.2 sb.2.1.2 K.1.1.1 sb.1.1 h.1 (fun v e => by rw [e]; exact ⟨rfl, fun _ => rfl⟩) (fun e => by rw [e]; exact ⟨rfl, fun q => absurd q (by decide)⟩))
  refine ⟨?_, a.1.2.1.trans hw, fS_nm hS a.2 (by decide)⟩
  rw [a.1.1.2]
  exact rQ_nm h a.2 (by decide)
set_option maxRecDepth 100000 in
theorem lm_heap {μ : km_S} {A : fu_T} {p0 p1 : Int32} (I : im_ μ) (K : fK_ (sm_ μ).1 A) (VR : fR_ A μ) : wX12_heap p0 p1 μ (fun r u => pu_ (sm_ μ) r u ∧ fR_ A u ∧ an0_ (an_heap (jn1_ (sm_ μ).1) A.1 p0 p1) r u) := by
  have sb := sB_im I
  obtain ⟨h, hw, hS⟩ := VR
  refine jcX12_heap (Q' := fun r u => an0_ (an_heap (jn1_ (sm_ μ).1) A.1 p0 p1) r u) (fun r u a b => ⟨a.1.1, ?_, b⟩) _ _ _ (jcX12_heap (Q' := fun _ u => nm_ [1] μ u) (fun _ _ a b => And.intro a b) _ _ _ (jcX12_heap (Q' := fun _ u => mw_ μ u) (fun _ _ a b => And.intro a b) _ _ _ (rz_heap I) (jfX12_heap (I := mw_ μ) (wm_gw (by decide)) (fun _ _ i => i) _ _ _ ⟨rfl, rfl⟩)) (jfX12_heap (I := nm_ [1] μ) nm_gw (fun _ _ i => i) _ _ _ nm_refl)) (vr_heap sb.1.2 sb.2.1.2 K.1.1.1 sb.1.1 h.1 (fun v e => by rw [e]; exact ⟨rfl, fun _ => rfl⟩) (fun e => by rw [e]; exact ⟨rfl, fun q => absurd q (by decide)⟩))
  refine ⟨?_, a.1.2.1.trans hw, fS_nm hS a.2 (by decide)⟩
  rw [a.1.1.2]
  exact rQ_nm h a.2 (by decide)
set_option maxRecDepth 100000 in
theorem lm_water {μ : km_S} {A : fu_T} {p0 p1 : Int32} (I : im_ μ) (K : fK_ (sm_ μ).1 A) (VR : fR_ A μ) : wX12_water p0 p1 μ (fun r u => pu_ (sm_ μ) r u ∧ fR_ A u ∧ an0_ (an_water (jn1_ (sm_ μ).1) A.1 A.2.1 p0 p1) r u) := by
  have sb := sB_im I
  obtain ⟨h, hw, hS⟩ := VR
  refine jcX12_water (Q' := fun r u => an0_ (an_water (jn1_ (sm_ μ).1) A.1 A.2.1 p0 p1) r u) (fun r u a b => ⟨a.1.1, ?_, b⟩) _ _ _ (jcX12_water (Q' := fun _ u => nm_ [1] μ u) (fun _ _ a b => And.intro a b) _ _ _ (jcX12_water (Q' := fun _ u => mw_ μ u) (fun _ _ a b => And.intro a b) _ _ _ (rz_water I) (jfX12_water (I := mw_ μ) (wm_gw (by decide)) (fun _ _ i => i) _ _ _ ⟨rfl, rfl⟩)) (jfX12_water (I := nm_ [1] μ) nm_gw (fun _ _ i => i) _ _ _ nm_refl)) (vr_water K.1.1.1 sb.1.1 h.1 hw (fun v e => by rw [e]; exact ⟨rfl, fun _ => rfl⟩) (fun e => by rw [e]; exact ⟨rfl, fun q => absurd q (by decide)⟩))
  refine ⟨?_, a.1.2.1.trans hw, fS_nm hS a.2 (by decide)⟩
  rw [a.1.1.2]
  exact rQ_nm h a.2 (by decide)
set_option maxRecDepth 100000 in
theorem lm_waters {μ : km_S} {A : fu_T} {p0 : Int32} (I : im_ μ) (K : fK_ (sm_ μ).1 A) (VR : fR_ A μ) : wX12_waters p0 μ (fun r u => pl_ (sm_ μ) r u ∧ fR_ A u ∧ km_i u 1 = zq_waters p0 ∧ (zq_waters p0 = 0 → r = zv_waters p0 A.2.1)) := by
  have sb := sB_im I
  obtain ⟨h, hw, hS⟩ := VR
  refine jcX12_waters (Q' := fun _ _ => True) (fun r u a _ => ⟨a.1.1, ?_, a.1.2.2.1, fun q => by rw [← hw]; exact a.1.2.2.2 q⟩) _ _ (jcX12_waters (Q' := fun _ u => nm_ [1] μ u) (fun _ _ a b => And.intro a b) _ _ (rm_waters I) (jfX12_waters (I := nm_ [1] μ) nm_gw (fun _ _ i => i) _ _ nm_refl)) (jfX12_waters (I := fun _ => True) gw_true (fun _ _ _ => trivial) _ _ trivial)
  refine ⟨?_, a.1.2.1.1.trans hw, fS_nm hS a.2 (by decide)⟩
  rw [a.1.1.2]
  exact rQ_nm h a.2 (by decide)
set_option maxRecDepth 100000 in
theorem lm_board {μ : km_S} {A : fu_T} {p0 : Int32} (I : im_ μ) (K : fK_ (sm_ μ).1 A) (VR : fR_ A μ) : wX12_board p0 μ (fun r u => pu_ (sm_ μ) r u ∧ fR_ A u ∧ an0_ (bo_ A.1 p0 (jn2_ (sm_ μ).1) 0) r u) := by
  have sb := sB_im I
  obtain ⟨h, hw, hS⟩ := VR
  refine jcX12_board (Q' := fun r u => an0_ (bo_ A.1 p0 (jn2_ (sm_ μ).1) 0) r u) (fun r u a b => ⟨a.1.1, ?_, b⟩) _ _ (jcX12_board (Q' := fun _ u => nm_ [1] μ u) (fun _ _ a b => And.intro a b) _ _ (jcX12_board (Q' := fun _ u => mw_ μ u) (fun _ _ a b => And.intro a b) _ _ (rz_board I) (jfX12_board (I := mw_ μ) (wm_gw (by decide)) (fun _ _ i => i) _ _ ⟨rfl, rfl⟩)) (jfX12_board (I := nm_ [1] μ) nm_gw (fun _ _ i => i) _ _ nm_refl)) (vr_board sb.2.1.2 h.2 h.1 (fun v e => by rw [e]; exact ⟨rfl, fun _ => rfl⟩) (fun e => by rw [e]; exact ⟨rfl, fun q => absurd q (by decide)⟩))
  refine ⟨?_, a.1.2.1.trans hw, fS_nm hS a.2 (by decide)⟩
  rw [a.1.1.2]
  exact rQ_nm h a.2 (by decide)
set_option maxRecDepth 100000 in
theorem lm_paid {μ : km_S} {A : fu_T} {p0 : Int32} (I : im_ μ) (K : fK_ (sm_ μ).1 A) (VR : fR_ A μ) : wX12_paid p0 μ (fun r u => pl_ (sm_ μ) r u ∧ fR_ A u) := by
  have sb := sB_im I
  obtain ⟨h, hw, hS⟩ := VR
  refine jcX12_paid (Q' := fun r u => True) (fun r u a b => ⟨a.1.1, ?_⟩) _ _ (jcX12_paid (Q' := fun _ u => nm_ [1] μ u) (fun _ _ a b => And.intro a b) _ _ (jcX12_paid (Q' := fun _ u => mw_ μ u) (fun _ _ a b => And.intro a b) _ _ (rz_paid I) (jfX12_paid (I := mw_ μ) (wm_gw (by decide)) (fun _ _ i => i) _ _ ⟨rfl, rfl⟩)) (jfX12_paid (I := nm_ [1] μ) nm_gw (fun _ _ i => i) _ _ nm_refl)) (jfX12_paid (I := fun _ => True) gw_true (fun _ _ _ => trivial) _ _ trivial)
  refine ⟨?_, a.1.2.1.trans hw, fS_nm hS a.2 (by decide)⟩
  rw [a.1.1.2]
  exact rQ_nm h a.2 (by decide)
set_option maxRecDepth 100000 in
theorem lm_count {μ : km_S} {A : fu_T} {p0 : Int32} (I : im_ μ) (K : fK_ (sm_ μ).1 A) (VR : fR_ A μ) : wX12_count p0 μ (fun r u => pu_ (sm_ μ) r u ∧ fR_ A u ∧ an0_ (an_count A.2.2.1.1 (sm_ μ) A.1 p0) r u) := by
  have sb := sB_im I
  obtain ⟨h, hw, hS⟩ := VR
  refine jcX12_count (Q' := fun r u => an0_ (an_count A.2.2.1.1 (sm_ μ) A.1 p0) r u) (fun r u a b => ⟨a.1.1, ?_, b⟩) _ _ (jcX12_count (Q' := fun _ u => nm_ [1] μ u) (fun _ _ a b => And.intro a b) _ _ (jcX12_count (Q' := fun _ u => mw_ μ u) (fun _ _ a b => And.intro a b) _ _ (rz_count I) (jfX12_count (I := mw_ μ) (wm_gw (by decide)) (fun _ _ i => i) _ _ ⟨rfl, rfl⟩)) (jfX12_count (I := nm_ [1] μ) nm_gw (fun _ _ i => i) _ _ nm_refl)) (vr_count K.2.2.2.1.1 rfl hS.1.1 h.1 (fun v e => by rw [e]; exact ⟨rfl, fun _ => rfl⟩) (fun e => by rw [e]; exact ⟨rfl, fun q => absurd q (by decide)⟩))
  refine ⟨?_, a.1.2.1.trans hw, fS_nm hS a.2 (by decide)⟩
  rw [a.1.1.2]
  exact rQ_nm h a.2 (by decide)
