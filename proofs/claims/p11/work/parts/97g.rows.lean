/-! water, a row a call -/
def nr_ (μ : km_S) : Nat := (km_i μ 3).toNatClampNeg
def lv_ (x : Nat) (σ : kx_S) (μ : km_S) : Prop := w_ok (nr_ μ) (wm_ μ) ∧ Yw_ (nr_ μ) (wm_ μ) x σ
def tw_ (n : Nat) (w : wt_T) (u : km_S) : Prop := ∀ x σ, Yw_ n w x σ → lv_ x σ u
theorem nr_int {μ : km_S} (I : im_ μ) : (sm_ μ).1.1.toInt = (nr_ μ : Int) := by
  have := I.1.1
  show (km_i μ 3).toInt = ((km_i μ 3).toNatClampNeg : Int)
  rw [ki_nat]
  omega
theorem tw_of {n : Nat} {w : wt_T} {u : km_S} (e1 : nr_ u = n) (e2 : wm_ u = w) (ok : w_ok n w) : tw_ n w u := by
  intro x σ y
  unfold lv_
  rw [e1, e2]
  exact ⟨ok, y⟩
theorem tw_same {μ u : km_S} (ok : w_ok (nr_ μ) (wm_ μ)) (h : mw_ μ u) : tw_ (nr_ μ) (wm_ μ) u := tw_of (by unfold nr_; rw [h.2]) h.1 ok
theorem yZ_tag {k : Nat} {s : sz_T} {L O : Nat} {σ : kx_S} (Z : yZ_ k s L O σ) : xt σ L ≠ 0 := by
  obtain ⟨g, κ, B, n, e, eO, J, _⟩ := Z
  rw [← e, yg0 J]
  decide
theorem gw_true {W : List Nat} : gw_ (fun _ => True) W := fun _ _ _ _ => ⟨fun _ => trivial, fun _ _ => trivial, fun _ => trivial, fun _ _ => trivial⟩
theorem w_ok_dam {r v : Int32} {s : sz_T} {n : Nat} {w : wt_T} (h : w_ok n w) (hn : s.1.1.toInt = (n : Int)) : w_ok n (wz_dam r v s w) := by
  unfold wz_dam
  split
  · next hz =>
    split
    · exact h
    · refine ⟨h.1, fun q hq => ?_⟩
      obtain ⟨a, b⟩ := h.2 q hq
      refine ⟨?_, b⟩
      refine (w_updN ?_).trans a
      have h1 := hz.1
      have h2 := hz.2
      rw [ki_nat]
      omega
  · exact h
theorem w_ok_hours {m : Int32} {s : sz_T} {n : Nat} {w : wt_T} (h : w_ok n w) : w_ok n (wz_hours m s n w) := by
  unfold wz_hours
  split
  · exact h
  · exact w_hours_ok _ _ h
theorem w_ok_reach {a b c d : Int32} {s : sz_T} {n : Nat} {w : wt_T} (h : w_ok n w) (hn : s.1.1.toInt = (n : Int)) (h10 : n ≤ 10) : w_ok (z_reach a b c d s).2.2.1.1.toNatClampNeg (wz_reach a b c d s w) := by
  unfold z_reach wz_reach
  split
  · show w_ok s.1.1.toNatClampNeg w
    rw [show s.1.1.toNatClampNeg = n by rw [ki_nat]; omega]
    exact h
  · next hz =>
    have en : s.1.1.toNatClampNeg = n := by rw [ki_nat]; omega
    have e1 : (s.1.1 + 1).toNatClampNeg = n + 1 := by
      obtain ⟨v, ev, vv⟩ := ki_incE (a := s.1.1) (by omega) (by omega)
      rw [← ev, ki_nat]
      omega
    show w_ok (s.1.1 + 1).toNatClampNeg (upd w.1 s.1.1.toNatClampNeg a, w.2)
    rw [e1, en]
    refine ⟨fun r hr => ?_, fun r hr => h.2 r (by omega)⟩
    show -1 ≤ (upd w.1 n a r).toInt ∧ (upd w.1 n a r).toInt < (r : Int)
    by_cases c : r = n
    · rw [c, w_updS]
      have h1 : ¬ a < -1 := fun q => hz (.inr (.inl q))
      have h2 : ¬ s.1.1 ≤ a := fun q => hz (.inr (.inr (.inl q)))
      rw [ki_lt, ki_zm] at h1
      rw [ki_le] at h2
      omega
    · rw [w_updN c]
      exact h.1 r (by omega)

set_option maxRecDepth 100000 in
theorem lk_reach {k : Nat} {L O : Nat} {σ : kx_S} {μ : km_S} {p0 p1 p2 p3 : Int32} (hk : k < 600) (Z : yZ_ k (sm_ μ) L O σ) (I : im_ μ) (V : lv_ L σ μ) : wX11_reach L p0 p1 p2 p3 σ (fun r u => qz_ k L O (z_reach p0 p1 p2 p3 (sm_ μ)) r u ∧ Yw_ (z_reach p0 p1 p2 p3 (sm_ μ)).2.2.1.1.toNatClampNeg (wz_reach p0 p1 p2 p3 (sm_ μ) (wm_ μ)) L u) := rv_reach hk Z (nr_int I) V.1 V.2
set_option maxRecDepth 100000 in
theorem lr_reach {μ : km_S} {p0 p1 p2 p3 : Int32} {x : Nat} {σ : kx_S} (I : im_ μ) (V : lv_ x σ μ) : wX12_reach p0 p1 p2 p3 μ (fun r u => pz_ (z_reach p0 p1 p2 p3 (sm_ μ)) r u ∧ tw_ (z_reach p0 p1 p2 p3 (sm_ μ)).2.2.1.1.toNatClampNeg (wz_reach p0 p1 p2 p3 (sm_ μ) (wm_ μ)) u) := jcX12_reach (Q' := fun _ _ => True) (fun _ u a _ => ⟨a.1, tw_of (by show (sm_ u).1.1.toNatClampNeg = _; rw [← a.1.2]) a.2 (w_ok_reach V.1 (nr_int I) (by have := I.1.1; have := nr_int I; have e : (sm_ μ).1.1 = km_i μ 3 := rfl; rw [e] at this; omega))⟩) _ _ _ _ _ (rm_reach I) (jfX12_reach (I := fun _ => True) gw_true (fun _ _ _ => trivial) _ _ _ _ _ trivial)
set_option maxRecDepth 100000 in
theorem lk_dam {k : Nat} {L O : Nat} {σ : kx_S} {μ : km_S} {p0 p1 : Int32} (hk : k < 600) (Z : yZ_ k (sm_ μ) L O σ) (I : im_ μ) (V : lv_ L σ μ) : wX11_dam L p0 p1 σ (fun r u => qz_ k L O (z_dam p0 p1 (sm_ μ)) r u ∧ Yw_ (nr_ μ) (wz_dam p0 p1 (sm_ μ) (wm_ μ)) L u) (fun e u => qe_ k L O pz_N (z_dam p0 p1 (sm_ μ)) e u ∧ Yw_ (nr_ μ) (wz_dam p0 p1 (sm_ μ) (wm_ μ)) L u) := rv_dam hk Z (nr_int I) V.2
set_option maxRecDepth 100000 in
theorem lr_dam {μ : km_S} {p0 p1 : Int32} {x : Nat} {σ : kx_S} (I : im_ μ) (V : lv_ x σ μ) : wX12_dam p0 p1 μ (fun r u => pz_ (z_dam p0 p1 (sm_ μ)) r u ∧ tw_ (nr_ μ) (wz_dam p0 p1 (sm_ μ) (wm_ μ)) u) := jcX12_dam (Q' := fun _ _ => True) (fun _ _ a _ => ⟨a.1, tw_of (by unfold nr_; rw [a.2.2]) a.2.1 (w_ok_dam V.1 (nr_int I))⟩) _ _ _ (rm_dam I) (jfX12_dam (I := fun _ => True) gw_true (fun _ _ _ => trivial) _ _ _ trivial)
set_option maxRecDepth 100000 in
theorem lk_gate {k : Nat} {L O : Nat} {σ : kx_S} {μ : km_S} {p0 p1 : Int32} (hk : k < 600) (Z : yZ_ k (sm_ μ) L O σ) (I : im_ μ) (V : lv_ L σ μ) : wX11_gate L p0 p1 σ (fun r u => qz_ k L O (z_gate p0 p1 (sm_ μ)) r u ∧ Yw_ (nr_ μ) (wm_ μ) L u) (fun e u => qe_ k L O pz_N (z_gate p0 p1 (sm_ μ)) e u ∧ Yw_ (nr_ μ) (wm_ μ) L u) := jcX11_gate (Q' := fun _ u => wf_ L σ u) (QX' := fun _ u => wf_ L σ u) (fun _ _ a b => ⟨a, Yw_wf V.2 b⟩) (fun _ _ a b => ⟨a, Yw_wf V.2 b⟩) _ _ _ _ (rx_gate hk Z) (jfX11_gate (I := wf_ L σ) (wf_fw (yZ_tag Z) (by decide)) (fun _ _ i => i) (fun _ _ i => i) _ _ _ _ wf_refl)
set_option maxRecDepth 100000 in
theorem lr_gate {μ : km_S} {p0 p1 : Int32} {x : Nat} {σ : kx_S} (I : im_ μ) (V : lv_ x σ μ) : wX12_gate p0 p1 μ (fun r u => pz_ (z_gate p0 p1 (sm_ μ)) r u ∧ tw_ (nr_ μ) (wm_ μ) u) := jcX12_gate (Q' := fun _ u => mw_ μ u) (fun _ _ a b => ⟨a, tw_same V.1 b⟩) _ _ _ (rz_gate I) (jfX12_gate (I := mw_ μ) (wm_gw (by decide)) (fun _ _ i => i) _ _ _ ⟨rfl, rfl⟩)
set_option maxRecDepth 100000 in
theorem lk_melt {k : Nat} {L O : Nat} {σ : kx_S} {μ : km_S} {p0 p1 : Int32} (hk : k < 600) (Z : yZ_ k (sm_ μ) L O σ) (I : im_ μ) (V : lv_ L σ μ) : wX11_melt L p0 p1 σ (fun r u => qz_ k L O (z_melt p0 p1 (sm_ μ)) r u ∧ Yw_ (nr_ μ) (wm_ μ) L u) (fun e u => qe_ k L O pz_N (z_melt p0 p1 (sm_ μ)) e u ∧ Yw_ (nr_ μ) (wm_ μ) L u) := jcX11_melt (Q' := fun _ u => wf_ L σ u) (QX' := fun _ u => wf_ L σ u) (fun _ _ a b => ⟨a, Yw_wf V.2 b⟩) (fun _ _ a b => ⟨a, Yw_wf V.2 b⟩) _ _ _ _ (rx_melt hk Z) (jfX11_melt (I := wf_ L σ) (wf_fw (yZ_tag Z) (by decide)) (fun _ _ i => i) (fun _ _ i => i) _ _ _ _ wf_refl)
set_option maxRecDepth 100000 in
theorem lr_melt {μ : km_S} {p0 p1 : Int32} {x : Nat} {σ : kx_S} (I : im_ μ) (V : lv_ x σ μ) : wX12_melt p0 p1 μ (fun r u => pz_ (z_melt p0 p1 (sm_ μ)) r u ∧ tw_ (nr_ μ) (wm_ μ) u) := jcX12_melt (Q' := fun _ u => mw_ μ u) (fun _ _ a b => ⟨a, tw_same V.1 b⟩) _ _ _ (rz_melt I) (jfX12_melt (I := mw_ μ) (wm_gw (by decide)) (fun _ _ i => i) _ _ _ ⟨rfl, rfl⟩)
set_option maxRecDepth 100000 in
theorem lk_boom {k : Nat} {L O : Nat} {σ : kx_S} {μ : km_S} {p0 p1 p2 : Int32} (hk : k < 600) (Z : yZ_ k (sm_ μ) L O σ) (I : im_ μ) (V : lv_ L σ μ) : wX11_boom L p0 p1 p2 σ (fun r u => qz_ k L O (z_boom p0 p2 (sm_ μ)) r u ∧ Yw_ (nr_ μ) (wm_ μ) L u) (fun e u => qe_ k L O pz_N (z_boom p0 p2 (sm_ μ)) e u ∧ Yw_ (nr_ μ) (wm_ μ) L u) := jcX11_boom (Q' := fun _ u => wf_ L σ u) (QX' := fun _ u => wf_ L σ u) (fun _ _ a b => ⟨a, Yw_wf V.2 b⟩) (fun _ _ a b => ⟨a, Yw_wf V.2 b⟩) _ _ _ _ _ (rx_boom hk Z) (jfX11_boom (I := wf_ L σ) (wf_fw (yZ_tag Z) (by decide)) (fun _ _ i => i) (fun _ _ i => i) _ _ _ _ _ wf_refl)
set_option maxRecDepth 100000 in
theorem lr_boom {μ : km_S} {p0 p1 p2 : Int32} {x : Nat} {σ : kx_S} (I : im_ μ) (V : lv_ x σ μ) : wX12_boom p0 p1 p2 μ (fun r u => pz_ (z_boom p0 p2 (sm_ μ)) r u ∧ tw_ (nr_ μ) (wm_ μ) u) := jcX12_boom (Q' := fun _ u => mw_ μ u) (fun _ _ a b => ⟨a, tw_same V.1 b⟩) _ _ _ _ (rz_boom I) (jfX12_boom (I := mw_ μ) (wm_gw (by decide)) (fun _ _ i => i) _ _ _ _ ⟨rfl, rfl⟩)
set_option maxRecDepth 100000 in
theorem lk_watch {k : Nat} {L O : Nat} {σ : kx_S} {μ : km_S} {p0 p1 : Int32} (hv : p1 = 0 ∨ p1 = 1) (hk : k < 600) (Z : yZ_ k (sm_ μ) L O σ) (I : im_ μ) (V : lv_ L σ μ) : wX11_watch L p0 p1 σ (fun r u => qz_ k L O (z_watch p0 p1 (sm_ μ)) r u ∧ Yw_ (nr_ μ) (wm_ μ) L u) (fun e u => qe_ k L O pz_N (z_watch p0 p1 (sm_ μ)) e u ∧ Yw_ (nr_ μ) (wm_ μ) L u) := jcX11_watch (Q' := fun _ u => wf_ L σ u) (QX' := fun _ u => wf_ L σ u) (fun _ _ a b => ⟨a, Yw_wf V.2 b⟩) (fun _ _ a b => ⟨a, Yw_wf V.2 b⟩) _ _ _ _ (rx_watch hv hk Z) (jfX11_watch (I := wf_ L σ) (wf_fw (yZ_tag Z) (by decide)) (fun _ _ i => i) (fun _ _ i => i) _ _ _ _ wf_refl)
set_option maxRecDepth 100000 in
theorem lr_watch {μ : km_S} {p0 p1 : Int32} (hv : p1 = 0 ∨ p1 = 1) {x : Nat} {σ : kx_S} (I : im_ μ) (V : lv_ x σ μ) : wX12_watch p0 p1 μ (fun r u => pz_ (z_watch p0 p1 (sm_ μ)) r u ∧ tw_ (nr_ μ) (wm_ μ) u) := jcX12_watch (Q' := fun _ u => mw_ μ u) (fun _ _ a b => ⟨a, tw_same V.1 b⟩) _ _ _ (rz_watch hv I) (jfX12_watch (I := mw_ μ) (wm_gw (by decide)) (fun _ _ i => i) _ _ _ ⟨rfl, rfl⟩)
set_option maxRecDepth 100000 in
theorem lk_crew {k : Nat} {L O : Nat} {σ : kx_S} {μ : km_S} {p0 p1 : Int32} (hk : k < 600) (Z : yZ_ k (sm_ μ) L O σ) (I : im_ μ) (V : lv_ L σ μ) : wX11_crew L p0 p1 σ (fun r u => qz_ k L O (z_crew p0 p1 (sm_ μ)) r u ∧ Yw_ (nr_ μ) (wm_ μ) L u) (fun e u => qe_ k L O pz_N (z_crew p0 p1 (sm_ μ)) e u ∧ Yw_ (nr_ μ) (wm_ μ) L u) := jcX11_crew (Q' := fun _ u => wf_ L σ u) (QX' := fun _ u => wf_ L σ u) (fun _ _ a b => ⟨a, Yw_wf V.2 b⟩) (fun _ _ a b => ⟨a, Yw_wf V.2 b⟩) _ _ _ _ (rx_crew hk Z) (jfX11_crew (I := wf_ L σ) (wf_fw (yZ_tag Z) (by decide)) (fun _ _ i => i) (fun _ _ i => i) _ _ _ _ wf_refl)
set_option maxRecDepth 100000 in
theorem lr_crew {μ : km_S} {p0 p1 : Int32} {x : Nat} {σ : kx_S} (I : im_ μ) (V : lv_ x σ μ) : wX12_crew p0 p1 μ (fun r u => pz_ (z_crew p0 p1 (sm_ μ)) r u ∧ tw_ (nr_ μ) (wm_ μ) u) := jcX12_crew (Q' := fun _ u => mw_ μ u) (fun _ _ a b => ⟨a, tw_same V.1 b⟩) _ _ _ (rz_crew I) (jfX12_crew (I := mw_ μ) (wm_gw (by decide)) (fun _ _ i => i) _ _ _ ⟨rfl, rfl⟩)
set_option maxRecDepth 100000 in
theorem lk_feed {k : Nat} {L O : Nat} {σ : kx_S} {μ : km_S} {p0 p1 p2 p3 p4 : Int32} (hk : k < 600) (Z : yZ_ k (sm_ μ) L O σ) (I : im_ μ) (V : lv_ L σ μ) : wX11_feed L p0 p1 p2 p3 p4 σ (fun r u => qz_ k L O (z_feed (sm_ μ)) r u ∧ Yw_ (nr_ μ) (wm_ μ) L u) := jcX11_feed (Q' := fun _ u => wf_ L σ u) (fun _ _ a b => ⟨a, Yw_wf V.2 b⟩) _ _ _ _ _ _ _ (rx_feed hk Z) (jfX11_feed (I := wf_ L σ) (wf_fw (yZ_tag Z) (by decide)) (fun _ _ i => i) _ _ _ _ _ _ _ wf_refl)
set_option maxRecDepth 100000 in
theorem lr_feed {μ : km_S} {p0 p1 p2 p3 p4 : Int32} {x : Nat} {σ : kx_S} (I : im_ μ) (V : lv_ x σ μ) : wX12_feed p0 p1 p2 p3 p4 μ (fun r u => pz_ (z_feed (sm_ μ)) r u ∧ tw_ (nr_ μ) (wm_ μ) u) := jcX12_feed (Q' := fun _ u => mw_ μ u) (fun _ _ a b => ⟨a, tw_same V.1 b⟩) _ _ _ _ _ _ (rz_feed I) (jfX12_feed (I := mw_ μ) (wm_gw (by decide)) (fun _ _ i => i) _ _ _ _ _ _ ⟨rfl, rfl⟩)
set_option maxRecDepth 100000 in
theorem lk_law {k : Nat} {L O : Nat} {σ : kx_S} {μ : km_S} {p0 p1 : Int32} (hk : k < 600) (Z : yZ_ k (sm_ μ) L O σ) (I : im_ μ) (V : lv_ L σ μ) : wX11_law L p0 p1 σ (fun r u => qy_ k L O (z_law p0 p1 (sm_ μ)) r u ∧ Yw_ (nr_ μ) (wm_ μ) L u) (fun e u => qx_ k L O (z_law p0 p1 (sm_ μ)) e u ∧ Yw_ (nr_ μ) (wm_ μ) L u) := jcX11_law (Q' := fun _ u => wf_ L σ u) (QX' := fun _ u => wf_ L σ u) (fun _ _ a b => ⟨a, Yw_wf V.2 b⟩) (fun _ _ a b => ⟨a, Yw_wf V.2 b⟩) _ _ _ _ (rx_law hk Z) (jfX11_law (I := wf_ L σ) (wf_fw (yZ_tag Z) (by decide)) (fun _ _ i => i) (fun _ _ i => i) _ _ _ _ wf_refl)
set_option maxRecDepth 100000 in
theorem lr_law {μ : km_S} {p0 p1 : Int32} {x : Nat} {σ : kx_S} (I : im_ μ) (V : lv_ x σ μ) : wX12_law p0 p1 μ (fun r u => py_ (z_law p0 p1 (sm_ μ)) r u ∧ tw_ (nr_ μ) (wm_ μ) u) := jcX12_law (Q' := fun _ u => mw_ μ u) (fun _ _ a b => ⟨a, tw_same V.1 b⟩) _ _ _ (rz_law I) (jfX12_law (I := mw_ μ) (wm_gw (by decide)) (fun _ _ i => i) _ _ _ ⟨rfl, rfl⟩)
set_option maxRecDepth 100000 in
theorem lk_fault {k : Nat} {L O : Nat} {σ : kx_S} {μ : km_S} (hk : k < 600) (Z : yZ_ k (sm_ μ) L O σ) (I : im_ μ) (V : lv_ L σ μ) : wX11_fault L σ (fun r u => qu_ k L O (sm_ μ) r u ∧ Yw_ (nr_ μ) (wm_ μ) L u) := jcX11_fault (Q' := fun _ u => wf_ L σ u) (fun _ _ a b => ⟨a, Yw_wf V.2 b⟩) _ _ (rx_fault hk Z) (jfX11_fault (I := wf_ L σ) (wf_fw (yZ_tag Z) (by decide)) (fun _ _ i => i) _ _ wf_refl)
set_option maxRecDepth 100000 in
theorem lr_fault {μ : km_S} {x : Nat} {σ : kx_S} (I : im_ μ) (V : lv_ x σ μ) : wX12_fault μ (fun r u => pu_ (sm_ μ) r u ∧ tw_ (nr_ μ) (wm_ μ) u) := jcX12_fault (Q' := fun _ u => mw_ μ u) (fun _ _ a b => ⟨a, tw_same V.1 b⟩) _ (rz_fault I) (jfX12_fault (I := mw_ μ) (wm_gw (by decide)) (fun _ _ i => i) _ ⟨rfl, rfl⟩)
set_option maxRecDepth 100000 in
theorem lk_cut {k : Nat} {L O : Nat} {σ : kx_S} {μ : km_S} {p0 p1 p2 : Int32} (hk : k < 600) (Z : yZ_ k (sm_ μ) L O σ) (I : im_ μ) (V : lv_ L σ μ) : wX11_cut L p0 p1 p2 σ (fun r u => qz_ k L O (z_cut p0 p1 p2 (sm_ μ)) r u ∧ Yw_ (nr_ μ) (wm_ μ) L u) := jcX11_cut (Q' := fun _ u => wf_ L σ u) (fun _ _ a b => ⟨a, Yw_wf V.2 b⟩) _ _ _ _ _ (rx_cut hk Z) (jfX11_cut (I := wf_ L σ) (wf_fw (yZ_tag Z) (by decide)) (fun _ _ i => i) _ _ _ _ _ wf_refl)
set_option maxRecDepth 100000 in
theorem lr_cut {μ : km_S} {p0 p1 p2 : Int32} {x : Nat} {σ : kx_S} (I : im_ μ) (V : lv_ x σ μ) : wX12_cut p0 p1 p2 μ (fun r u => pz_ (z_cut p0 p1 p2 (sm_ μ)) r u ∧ tw_ (nr_ μ) (wm_ μ) u) := jcX12_cut (Q' := fun _ u => mw_ μ u) (fun _ _ a b => ⟨a, tw_same V.1 b⟩) _ _ _ _ (rz_cut I) (jfX12_cut (I := mw_ μ) (wm_gw (by decide)) (fun _ _ i => i) _ _ _ _ ⟨rfl, rfl⟩)
set_option maxRecDepth 100000 in
theorem lk_let {k : Nat} {L O : Nat} {σ : kx_S} {μ : km_S} {p0 p1 p2 : Int32} (hk : k < 600) (Z : yZ_ k (sm_ μ) L O σ) (I : im_ μ) (V : lv_ L σ μ) : wX11_let L p0 p1 p2 σ (fun r u => qu_ k L O (sm_ μ) r u ∧ Yw_ (nr_ μ) (wm_ μ) L u) (fun e u => qf_ k L O (sm_ μ) e u ∧ Yw_ (nr_ μ) (wm_ μ) L u) := jcX11_let (Q' := fun _ u => wf_ L σ u) (QX' := fun _ u => wf_ L σ u) (fun _ _ a b => ⟨a, Yw_wf V.2 b⟩) (fun _ _ a b => ⟨a, Yw_wf V.2 b⟩) _ _ _ _ _ (rx_let hk Z) (jfX11_let (I := wf_ L σ) (wf_fw (yZ_tag Z) (by decide)) (fun _ _ i => i) (fun _ _ i => i) _ _ _ _ _ wf_refl)
set_option maxRecDepth 100000 in
theorem lr_let {μ : km_S} {p0 p1 p2 : Int32} {x : Nat} {σ : kx_S} (I : im_ μ) (V : lv_ x σ μ) : wX12_let p0 p1 p2 μ (fun r u => pu_ (sm_ μ) r u ∧ tw_ (nr_ μ) (wm_ μ) u) := jcX12_let (Q' := fun _ u => mw_ μ u) (fun _ _ a b => ⟨a, tw_same V.1 b⟩) _ _ _ _ (rz_let I) (jfX12_let (I := mw_ μ) (wm_gw (by decide)) (fun _ _ i => i) _ _ _ _ ⟨rfl, rfl⟩)
set_option maxRecDepth 100000 in
theorem lk_hours {k : Nat} {L O : Nat} {σ : kx_S} {μ : km_S} {p0 : Int32} (hk : k < 600) (Z : yZ_ k (sm_ μ) L O σ) (I : im_ μ) (V : lv_ L σ μ) : wX11_hours L p0 σ (fun r u => qz_ k L O (z_hours p0 (sm_ μ)) r u ∧ Yw_ (nr_ μ) (wz_hours p0 (sm_ μ) (nr_ μ) (wm_ μ)) L u) (fun e u => qe_ k L O pz_I (z_hours p0 (sm_ μ)) e u ∧ Yw_ (nr_ μ) (wz_hours p0 (sm_ μ) (nr_ μ) (wm_ μ)) L u) := rv_hours hk Z (nr_int I) V.2
set_option maxRecDepth 100000 in
theorem lr_hours {μ : km_S} {p0 : Int32} {x : Nat} {σ : kx_S} (I : im_ μ) (V : lv_ x σ μ) : wX12_hours p0 μ (fun r u => pz_ (z_hours p0 (sm_ μ)) r u ∧ tw_ (nr_ μ) (wz_hours p0 (sm_ μ) (nr_ μ) (wm_ μ)) u) := jcX12_hours (Q' := fun _ _ => True) (fun _ _ a _ => ⟨a.1, tw_of (by unfold nr_; rw [a.2.2]) a.2.1 (w_ok_hours V.1)⟩) _ _ (rm_hours I (nr_int I) V.1) (jfX12_hours (I := fun _ => True) gw_true (fun _ _ _ => trivial) _ _ trivial)
set_option maxRecDepth 100000 in
theorem lk_order {k : Nat} {L O : Nat} {σ : kx_S} {μ : km_S} {p0 p1 p2 p3 : Int32} (hk : k < 600) (Z : yZ_ k (sm_ μ) L O σ) (I : im_ μ) (V : lv_ L σ μ) : wX11_order L p0 p1 p2 p3 σ (fun r u => qz_ k L O (z_order p0 p1 p2 p3 (sm_ μ)) r u ∧ Yw_ (nr_ μ) (wm_ μ) L u) (fun e u => qe_ k L O pz_N (z_order p0 p1 p2 p3 (sm_ μ)) e u ∧ Yw_ (nr_ μ) (wm_ μ) L u) := jcX11_order (Q' := fun _ u => wf_ L σ u) (QX' := fun _ u => wf_ L σ u) (fun _ _ a b => ⟨a, Yw_wf V.2 b⟩) (fun _ _ a b => ⟨a, Yw_wf V.2 b⟩) _ _ _ _ _ _ (rx_order hk Z) (jfX11_order (I := wf_ L σ) (wf_fw (yZ_tag Z) (by decide)) (fun _ _ i => i) (fun _ _ i => i) _ _ _ _ _ _ wf_refl)
set_option maxRecDepth 100000 in
theorem lr_order {μ : km_S} {p0 p1 p2 p3 : Int32} {x : Nat} {σ : kx_S} (I : im_ μ) (V : lv_ x σ μ) : wX12_order p0 p1 p2 p3 μ (fun r u => pz_ (z_order p0 p1 p2 p3 (sm_ μ)) r u ∧ tw_ (nr_ μ) (wm_ μ) u) := jcX12_order (Q' := fun _ u => mw_ μ u) (fun _ _ a b => ⟨a, tw_same V.1 b⟩) _ _ _ _ _ (rz_order I) (jfX12_order (I := mw_ μ) (wm_gw (by decide)) (fun _ _ i => i) _ _ _ _ _ ⟨rfl, rfl⟩)
set_option maxRecDepth 100000 in
theorem lk_wants {k : Nat} {L O : Nat} {σ : kx_S} {μ : km_S} {p0 : Int32} (hk : k < 600) (Z : yZ_ k (sm_ μ) L O σ) (I : im_ μ) (V : lv_ L σ μ) : wX11_wants L p0 σ (fun r u => qu_ k L O (sm_ μ) r u ∧ Yw_ (nr_ μ) (wm_ μ) L u) (fun e u => qf_ k L O (sm_ μ) e u ∧ Yw_ (nr_ μ) (wm_ μ) L u) := jcX11_wants (Q' := fun _ u => wf_ L σ u) (QX' := fun _ u => wf_ L σ u) (fun _ _ a b => ⟨a, Yw_wf V.2 b⟩) (fun _ _ a b => ⟨a, Yw_wf V.2 b⟩) _ _ _ (rx_wants hk Z) (jfX11_wants (I := wf_ L σ) (wf_fw (yZ_tag Z) (by decide)) (fun _ _ i => i) (fun _ _ i => i) _ _ _ wf_refl)
set_option maxRecDepth 100000 in
theorem lr_wants {μ : km_S} {p0 : Int32} {x : Nat} {σ : kx_S} (I : im_ μ) (V : lv_ x σ μ) : wX12_wants p0 μ (fun r u => pu_ (sm_ μ) r u ∧ tw_ (nr_ μ) (wm_ μ) u) := jcX12_wants (Q' := fun _ u => mw_ μ u) (fun _ _ a b => ⟨a, tw_same V.1 b⟩) _ _ (rz_wants I) (jfX12_wants (I := mw_ μ) (wm_gw (by decide)) (fun _ _ i => i) _ _ ⟨rfl, rfl⟩)
set_option maxRecDepth 100000 in
theorem lk_log {k : Nat} {L O : Nat} {σ : kx_S} {μ : km_S} {p0 p1 : Int32} (hk : k < 600) (Z : yZ_ k (sm_ μ) L O σ) (I : im_ μ) (V : lv_ L σ μ) : wX11_log L p0 p1 σ (fun r u => qu_ k L O (sm_ μ) r u ∧ Yw_ (nr_ μ) (wm_ μ) L u) (fun e u => qf_ k L O (sm_ μ) e u ∧ Yw_ (nr_ μ) (wm_ μ) L u) := jcX11_log (Q' := fun _ u => wf_ L σ u) (QX' := fun _ u => wf_ L σ u) (fun _ _ a b => ⟨a, Yw_wf V.2 b⟩) (fun _ _ a b => ⟨a, Yw_wf V.2 b⟩) _ _ _ _ (rx_log hk Z) (jfX11_log (I := wf_ L σ) (wf_fw (yZ_tag Z) (by decide)) (fun _ _ i => i) (fun _ _ i => i) _ _ _ _ wf_refl)
set_option maxRecDepth 100000 in
theorem lr_log {μ : km_S} {p0 p1 : Int32} {x : Nat} {σ : kx_S} (I : im_ μ) (V : lv_ x σ μ) : wX12_log p0 p1 μ (fun r u => pu_ (sm_ μ) r u ∧ tw_ (nr_ μ) (wm_ μ) u) := jcX12_log (Q' := fun _ u => mw_ μ u) (fun _ _ a b => ⟨a, tw_same V.1 b⟩) _ _ _ (rz_log I) (jfX12_log (I := mw_ μ) (wm_gw (by decide)) (fun _ _ i => i) _ _ _ ⟨rfl, rfl⟩)
set_option maxRecDepth 100000 in
theorem lk_cell {k : Nat} {L O : Nat} {σ : kx_S} {μ : km_S} {p0 p1 p2 : Int32} (hk : k < 600) (Z : yZ_ k (sm_ μ) L O σ) (I : im_ μ) (V : lv_ L σ μ) : wX11_cell L p0 p1 p2 σ (fun r u => qu_ k L O (sm_ μ) r u ∧ Yw_ (nr_ μ) (wm_ μ) L u) (fun e u => qf_ k L O (sm_ μ) e u ∧ Yw_ (nr_ μ) (wm_ μ) L u) := jcX11_cell (Q' := fun _ u => wf_ L σ u) (QX' := fun _ u => wf_ L σ u) (fun _ _ a b => ⟨a, Yw_wf V.2 b⟩) (fun _ _ a b => ⟨a, Yw_wf V.2 b⟩) _ _ _ _ _ (rx_cell hk Z) (jfX11_cell (I := wf_ L σ) (wf_fw (yZ_tag Z) (by decide)) (fun _ _ i => i) (fun _ _ i => i) _ _ _ _ _ wf_refl)
set_option maxRecDepth 100000 in
theorem lr_cell {μ : km_S} {p0 p1 p2 : Int32} {x : Nat} {σ : kx_S} (I : im_ μ) (V : lv_ x σ μ) : wX12_cell p0 p1 p2 μ (fun r u => pu_ (sm_ μ) r u ∧ tw_ (nr_ μ) (wm_ μ) u) := jcX12_cell (Q' := fun _ u => mw_ μ u) (fun _ _ a b => ⟨a, tw_same V.1 b⟩) _ _ _ _ (rz_cell I) (jfX12_cell (I := mw_ μ) (wm_gw (by decide)) (fun _ _ i => i) _ _ _ _ ⟨rfl, rfl⟩)
set_option maxRecDepth 100000 in
theorem lk_inCell {k : Nat} {L O : Nat} {σ : kx_S} {μ : km_S} {p0 p1 p2 : Int32} (hk : k < 600) (Z : yZ_ k (sm_ μ) L O σ) (I : im_ μ) (V : lv_ L σ μ) : wX11_inCell L p0 p1 p2 σ (fun r u => qu_ k L O (sm_ μ) r u ∧ Yw_ (nr_ μ) (wm_ μ) L u) (fun e u => qf_ k L O (sm_ μ) e u ∧ Yw_ (nr_ μ) (wm_ μ) L u) := jcX11_inCell (Q' := fun _ u => wf_ L σ u) (QX' := fun _ u => wf_ L σ u) (fun _ _ a b => ⟨a, Yw_wf V.2 b⟩) (fun _ _ a b => ⟨a, Yw_wf V.2 b⟩) _ _ _ _ _ (rx_inCell hk Z) (jfX11_inCell (I := wf_ L σ) (wf_fw (yZ_tag Z) (by decide)) (fun _ _ i => i) (fun _ _ i => i) _ _ _ _ _ wf_refl)
set_option maxRecDepth 100000 in
theorem lr_inCell {μ : km_S} {p0 p1 p2 : Int32} {x : Nat} {σ : kx_S} (I : im_ μ) (V : lv_ x σ μ) : wX12_inCell p0 p1 p2 μ (fun r u => pu_ (sm_ μ) r u ∧ tw_ (nr_ μ) (wm_ μ) u) := jcX12_inCell (Q' := fun _ u => mw_ μ u) (fun _ _ a b => ⟨a, tw_same V.1 b⟩) _ _ _ _ (rz_inCell I) (jfX12_inCell (I := mw_ μ) (wm_gw (by decide)) (fun _ _ i => i) _ _ _ _ ⟨rfl, rfl⟩)
set_option maxRecDepth 100000 in
theorem lk_heap {k : Nat} {L O : Nat} {σ : kx_S} {μ : km_S} {p0 p1 : Int32} (hk : k < 600) (Z : yZ_ k (sm_ μ) L O σ) (I : im_ μ) (V : lv_ L σ μ) : wX11_heap L p0 p1 σ (fun r u => qu_ k L O (sm_ μ) r u ∧ Yw_ (nr_ μ) (wm_ μ) L u) (fun e u => qf_ k L O (sm_ μ) e u ∧ Yw_ (nr_ μ) (wm_ μ) L u) := jcX11_heap (Q' := fun _ u => wf_ L σ u) (QX' := fun _ u => wf_ L σ u) (fun _ _ a b => ⟨a, Yw_wf V.2 b⟩) (fun _ _ a b => ⟨a, Yw_wf V.2 b⟩) _ _ _ _ (rx_heap hk Z) (jfX11_heap (I := wf_ L σ) (wf_fw (yZ_tag Z) (by decide)) (fun _ _ i => i) (fun _ _ i => i) _ _ _ _ wf_refl)
set_option maxRecDepth 100000 in
theorem lr_heap {μ : km_S} {p0 p1 : Int32} {x : Nat} {σ : kx_S} (I : im_ μ) (V : lv_ x σ μ) : wX12_heap p0 p1 μ (fun r u => pu_ (sm_ μ) r u ∧ tw_ (nr_ μ) (wm_ μ) u) := jcX12_heap (Q' := fun _ u => mw_ μ u) (fun _ _ a b => ⟨a, tw_same V.1 b⟩) _ _ _ (rz_heap I) (jfX12_heap (I := mw_ μ) (wm_gw (by decide)) (fun _ _ i => i) _ _ _ ⟨rfl, rfl⟩)
set_option maxRecDepth 100000 in
theorem lk_water {k : Nat} {L O : Nat} {σ : kx_S} {μ : km_S} {p0 p1 : Int32} (hk : k < 600) (Z : yZ_ k (sm_ μ) L O σ) (I : im_ μ) (V : lv_ L σ μ) : wX11_water L p0 p1 σ (fun r u => qu_ k L O (sm_ μ) r u ∧ Yw_ (nr_ μ) (wm_ μ) L u) (fun e u => qf_ k L O (sm_ μ) e u ∧ Yw_ (nr_ μ) (wm_ μ) L u) := jcX11_water (Q' := fun _ u => wf_ L σ u) (QX' := fun _ u => wf_ L σ u) (fun _ _ a b => ⟨a, Yw_wf V.2 b⟩) (fun _ _ a b => ⟨a, Yw_wf V.2 b⟩) _ _ _ _ (rx_water hk Z) (jfX11_water (I := wf_ L σ) (wf_fw (yZ_tag Z) (by decide)) (fun _ _ i => i) (fun _ _ i => i) _ _ _ _ wf_refl)
set_option maxRecDepth 100000 in
theorem lr_water {μ : km_S} {p0 p1 : Int32} {x : Nat} {σ : kx_S} (I : im_ μ) (V : lv_ x σ μ) : wX12_water p0 p1 μ (fun r u => pu_ (sm_ μ) r u ∧ tw_ (nr_ μ) (wm_ μ) u) := jcX12_water (Q' := fun _ u => mw_ μ u) (fun _ _ a b => ⟨a, tw_same V.1 b⟩) _ _ _ (rz_water I) (jfX12_water (I := mw_ μ) (wm_gw (by decide)) (fun _ _ i => i) _ _ _ ⟨rfl, rfl⟩)
set_option maxRecDepth 100000 in
theorem lk_waters {k : Nat} {L O : Nat} {σ : kx_S} {μ : km_S} {p0 : Int32} (hk : k < 600) (Z : yZ_ k (sm_ μ) L O σ) (I : im_ μ) (V : lv_ L σ μ) : wX11_waters L p0 σ (fun r u => qu_ k L O (sm_ μ) r u ∧ Yw_ (nr_ μ) (wm_ μ) L u ∧ zq_waters p0 = 0 ∧ r = zv_waters p0 (wm_ μ)) (fun e u => qf_ k L O (sm_ μ) e u ∧ Yw_ (nr_ μ) (wm_ μ) L u ∧ zq_waters p0 = 1) := rv_waters hk Z V.2
set_option maxRecDepth 100000 in
theorem lr_waters {μ : km_S} {p0 : Int32} {x : Nat} {σ : kx_S} (I : im_ μ) (V : lv_ x σ μ) : wX12_waters p0 μ (fun r u => pl_ (sm_ μ) r u ∧ tw_ (nr_ μ) (wm_ μ) u ∧ km_i u 1 = zq_waters p0 ∧ (zq_waters p0 = 0 → r = zv_waters p0 (wm_ μ))) := jcX12_waters (Q' := fun _ _ => True) (fun _ _ a _ => ⟨a.1, tw_same V.1 a.2.1, a.2.2⟩) _ _ (rm_waters I) (jfX12_waters (I := fun _ => True) gw_true (fun _ _ _ => trivial) _ _ trivial)
set_option maxRecDepth 100000 in
theorem lk_board {k : Nat} {L O : Nat} {σ : kx_S} {μ : km_S} {p0 : Int32} (hk : k < 600) (Z : yZ_ k (sm_ μ) L O σ) (I : im_ μ) (V : lv_ L σ μ) : wX11_board L p0 σ (fun r u => qu_ k L O (sm_ μ) r u ∧ Yw_ (nr_ μ) (wm_ μ) L u) (fun e u => qf_ k L O (sm_ μ) e u ∧ Yw_ (nr_ μ) (wm_ μ) L u) := jcX11_board (Q' := fun _ u => wf_ L σ u) (QX' := fun _ u => wf_ L σ u) (fun _ _ a b => ⟨a, Yw_wf V.2 b⟩) (fun _ _ a b => ⟨a, Yw_wf V.2 b⟩) _ _ _ (rx_board hk Z) (jfX11_board (I := wf_ L σ) (wf_fw (yZ_tag Z) (by decide)) (fun _ _ i => i) (fun _ _ i => i) _ _ _ wf_refl)
set_option maxRecDepth 100000 in
theorem lr_board {μ : km_S} {p0 : Int32} {x : Nat} {σ : kx_S} (I : im_ μ) (V : lv_ x σ μ) : wX12_board p0 μ (fun r u => pu_ (sm_ μ) r u ∧ tw_ (nr_ μ) (wm_ μ) u) := jcX12_board (Q' := fun _ u => mw_ μ u) (fun _ _ a b => ⟨a, tw_same V.1 b⟩) _ _ (rz_board I) (jfX12_board (I := mw_ μ) (wm_gw (by decide)) (fun _ _ i => i) _ _ ⟨rfl, rfl⟩)
set_option maxRecDepth 100000 in
theorem lk_paid {k : Nat} {L O : Nat} {σ : kx_S} {μ : km_S} {p0 : Int32} (hk : k < 600) (Z : yZ_ k (sm_ μ) L O σ) (I : im_ μ) (V : lv_ L σ μ) : wX11_paid L p0 σ (fun r u => qu_ k L O (sm_ μ) r u ∧ Yw_ (nr_ μ) (wm_ μ) L u) (fun e u => qf_ k L O (sm_ μ) e u ∧ Yw_ (nr_ μ) (wm_ μ) L u) := jcX11_paid (Q' := fun _ u => wf_ L σ u) (QX' := fun _ u => wf_ L σ u) (fun _ _ a b => ⟨a, Yw_wf V.2 b⟩) (fun _ _ a b => ⟨a, Yw_wf V.2 b⟩) _ _ _ (rx_paid hk Z) (jfX11_paid (I := wf_ L σ) (wf_fw (yZ_tag Z) (by decide)) (fun _ _ i => i) (fun _ _ i => i) _ _ _ wf_refl)
set_option maxRecDepth 100000 in
theorem lr_paid {μ : km_S} {p0 : Int32} {x : Nat} {σ : kx_S} (I : im_ μ) (V : lv_ x σ μ) : wX12_paid p0 μ (fun r u => pl_ (sm_ μ) r u ∧ tw_ (nr_ μ) (wm_ μ) u) := jcX12_paid (Q' := fun _ u => mw_ μ u) (fun _ _ a b => ⟨a, tw_same V.1 b⟩) _ _ (rz_paid I) (jfX12_paid (I := mw_ μ) (wm_gw (by decide)) (fun _ _ i => i) _ _ ⟨rfl, rfl⟩)
set_option maxRecDepth 100000 in
theorem lk_count {k : Nat} {L O : Nat} {σ : kx_S} {μ : km_S} {p0 : Int32} (hk : k < 600) (Z : yZ_ k (sm_ μ) L O σ) (I : im_ μ) (V : lv_ L σ μ) : wX11_count L p0 σ (fun r u => qu_ k L O (sm_ μ) r u ∧ Yw_ (nr_ μ) (wm_ μ) L u) (fun e u => qf_ k L O (sm_ μ) e u ∧ Yw_ (nr_ μ) (wm_ μ) L u) := jcX11_count (Q' := fun _ u => wf_ L σ u) (QX' := fun _ u => wf_ L σ u) (fun _ _ a b => ⟨a, Yw_wf V.2 b⟩) (fun _ _ a b => ⟨a, Yw_wf V.2 b⟩) _ _ _ (rx_count hk Z) (jfX11_count (I := wf_ L σ) (wf_fw (yZ_tag Z) (by decide)) (fun _ _ i => i) (fun _ _ i => i) _ _ _ wf_refl)
set_option maxRecDepth 100000 in
theorem lr_count {μ : km_S} {p0 : Int32} {x : Nat} {σ : kx_S} (I : im_ μ) (V : lv_ x σ μ) : wX12_count p0 μ (fun r u => pu_ (sm_ μ) r u ∧ tw_ (nr_ μ) (wm_ μ) u) := jcX12_count (Q' := fun _ u => mw_ μ u) (fun _ _ a b => ⟨a, tw_same V.1 b⟩) _ _ (rz_count I) (jfX12_count (I := mw_ μ) (wm_gw (by decide)) (fun _ _ i => i) _ _ ⟨rfl, rfl⟩)
