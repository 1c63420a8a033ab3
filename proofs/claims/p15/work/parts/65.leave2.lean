/-! a part of what always holds, from one state to another that reads alike -/
theorem im_c_of {μ μ' : km_S} (a : km_a μ' 31 = km_a μ 31) (b : km_a μ' 32 = km_a μ 32) (c : km_a μ' 38 = km_a μ 38) (d : km_a μ' 39 = km_a μ 39) (e : km_a μ' 40 = km_a μ 40) (h : im_c μ) : im_c μ' := by
  unfold im_c
  rw [a, b, c, d, e]
  exact h
theorem im_g_of {μ μ' : km_S} (z : km_i μ' 4 = km_i μ 4) (a : km_a μ' 35 = km_a μ 35) (b : km_a μ' 36 = km_a μ 36) (c : km_a μ' 38 = km_a μ 38) (d : km_a μ' 39 = km_a μ 39) (e : km_a μ' 40 = km_a μ 40) (h : im_g μ) : im_g μ' := by
  unfold im_g
  rw [z, a, b, c, d, e]
  exact h
theorem im_s_of {μ μ' : km_S} (z : km_i μ' 6 = km_i μ 6) (c : km_a μ' 38 = km_a μ 38) (h : im_s μ) : im_s μ' := by
  unfold im_s
  rw [z, c]
  exact h
theorem ki_100 {r i : Int32} (h1 : 0 ≤ r.toInt) (h2 : r.toInt < 10) (h3 : 0 ≤ i.toInt) (h4 : i.toInt ≤ 100) : (100 * r + i).toInt = 100 * r.toInt + i.toInt := by
  have z : (100 : Int32).toInt = 100 := by decide
  have h : (100 * r).toInt = 100 * r.toInt := by rw [ki_mul (by rw [z]; omega) (by rw [z]; omega), z]
  rw [ki_add (by rw [h]; omega) (by rw [h]; omega), h]
/-- a log that lies in no cell comes onto its reach's heap -/
theorem ih_heap {σ : sz_T × Int32} {g r : Int32} {μ : km_S} (hg : vp_in g 400) (hr : vp_in r 10) (H : ih_ σ μ) (hf : im_free g μ) (hp : km_a μ 38 g.toNatClampNeg = 1) (hrr : km_a μ 39 g.toNatClampNeg = r) (hh : (km_a μ 29 r.toNatClampNeg).toInt < 100) :
    ih_ σ (km_sa (km_sa (km_sa (km_sa μ 30 (100 * r + km_a μ 29 r.toNatClampNeg).toNatClampNeg g) 29 r.toNatClampNeg (km_a μ 29 r.toNatClampNeg + 1)) 38 g.toNatClampNeg 2) 40 g.toNatClampNeg (-1)) := by
  have D := ih_drop (P := upd (km_a μ 38) g.toNatClampNeg 2) (X := km_a μ 39) (Y := upd (km_a μ 40) g.toNatClampNeg (-1)) hg H hf hp (by rw [ku_self]; decide) (by rw [ku_self]; decide) (fun q hq => ku_ne hq) (fun q _ => rfl) (fun q hq => ku_ne hq)
  obtain ⟨M, eM⟩ : ∃ M, M = km_sa (km_sa (km_sa (km_sa μ 30 (100 * r + km_a μ 29 r.toNatClampNeg).toNatClampNeg g) 29 r.toNatClampNeg (km_a μ 29 r.toNatClampNeg + 1)) 38 g.toNatClampNeg 2) 40 g.toNatClampNeg (-1) := ⟨_, rfl⟩
  have e29 : km_a M 29 = upd (km_a μ 29) r.toNatClampNeg (km_a μ 29 r.toNatClampNeg + 1) := by rw [eM]; rfl
  have e30 : km_a M 30 = upd (km_a μ 30) (100 * r + km_a μ 29 r.toNatClampNeg).toNatClampNeg g := by rw [eM]; rfl
  have e38 : km_a M 38 = upd (km_a μ 38) g.toNatClampNeg 2 := by rw [eM]; rfl
  have e39 : km_a M 39 = km_a μ 39 := by rw [eM]; rfl
  have e40 : km_a M 40 = upd (km_a μ 40) g.toNatClampNeg (-1) := by rw [eM]; rfl
  have r1 : im_n M ∧ im_r M ∧ im_w M ∧ im_l M ∧ (sm_ M, km_i M 1) = σ := by rw [eM]; exact ⟨H.1.1, H.1.2.1, H.1.2.2.2.2.2.2.1, H.1.2.2.2.2.2.2.2, H.2⟩
  have e31 : km_a M 31 = km_a μ 31 := by rw [eM]; rfl
  have e32 : km_a M 32 = km_a μ 32 := by rw [eM]; rfl
  have e35 : km_a M 35 = km_a μ 35 := by rw [eM]; rfl
  have e36 : km_a M 36 = km_a μ 36 := by rw [eM]; rfl
  have i4 : km_i M 4 = km_i μ 4 := by rw [eM]; rfl
  have i6 : km_i M 6 = km_i μ 6 := by rw [eM]; rfl
  rw [← eM]
  clear eM
  refine ⟨⟨r1.1, r1.2.1, im_c_of (μ := kd_ μ (upd (km_a μ 38) g.toNatClampNeg 2) (km_a μ 39) (upd (km_a μ 40) g.toNatClampNeg (-1))) e31 e32 e38 e39 e40 D.1.2.2.1, ?_, im_g_of (μ := kd_ μ (upd (km_a μ 38) g.toNatClampNeg 2) (km_a μ 39) (upd (km_a μ 40) g.toNatClampNeg (-1))) i4 e35 e36 e38 e39 e40 D.1.2.2.2.2.1, im_s_of (μ := kd_ μ (upd (km_a μ 38) g.toNatClampNeg 2) (km_a μ 39) (upd (km_a μ 40) g.toNatClampNeg (-1))) i6 e38 D.1.2.2.2.2.2.1, r1.2.2.1, r1.2.2.2.1⟩, r1.2.2.2.2⟩
  unfold im_h
  rw [e29, e30, e38, e39]
  have n4 := H.1.2.2.2.1
  have hr4 := ki_in.1 hr
  have hg4 := ki_in.1 hg
  obtain ⟨gn, egn⟩ : ∃ gn, gn = g.toNatClampNeg := ⟨_, rfl⟩
  have hgn : (gn : Int) = g.toInt := by rw [egn, ki_nat]; omega
  obtain ⟨rn, ern⟩ : ∃ rn, rn = r.toNatClampNeg := ⟨_, rfl⟩
  have hrn : (rn : Int) = r.toInt := by rw [ern, ki_nat]; omega
  rw [← egn] at hp hrr
  rw [← ern] at hh
  rw [← egn, ← ern]
  have b := (n4 rn (by omega)).1
  have h100 := ki_100 (r := r) (i := km_a μ 29 rn) (by omega) (by omega) (by omega) (by omega)
  obtain ⟨y, ey⟩ : ∃ y, y = (km_a μ 29 rn).toNatClampNeg := ⟨_, rfl⟩
  have hy : (y : Int) = (km_a μ 29 rn).toInt := by rw [ey, ki_nat]; omega
  have pt : (100 * r + km_a μ 29 rn).toNatClampNeg = 100 * rn + y := by rw [ki_nat, h100]; omega
  have inc := ki_inc (a := km_a μ 29 rn) (by omega) (by omega)
  rw [pt]
  obtain ⟨F, eF⟩ : ∃ F, F = upd (km_a μ 30) (100 * rn + y) g := ⟨_, rfl⟩
  obtain ⟨A, eA⟩ : ∃ A, A = upd (km_a μ 29) rn (km_a μ 29 rn + 1) := ⟨_, rfl⟩
  have A0 : ∀ q : Nat, q ≠ rn → A q = km_a μ 29 q := fun q hq => by rw [eA, ku_ne hq]
  have A1 : (A rn).toInt = (km_a μ 29 rn).toInt + 1 := by rw [eA, ku_self, inc]
  have F1 : F (100 * rn + y) = g := by rw [eF, ku_self]
  have F0 : ∀ p : Nat, p ≠ 100 * rn + y → F p = km_a μ 30 p := fun p hq => by rw [eF, ku_ne hq]
  intro q hq
  rw [← eF, ← eA]
  have o := n4 q hq
  have old : ∀ x : Nat, (x : Int) < (km_a μ 29 q).toInt → km_a μ 30 (100 * q + x) ≠ g := by
    intro x hx e
    have := (o.2 x hx).2.1
    rw [e, ← egn, hp] at this
    exact absurd this (by decide)
  by_cases e : q = rn
  · subst e
    rw [A1]
    refine ⟨by omega, fun x hx => ?_⟩
    by_cases ex : x = y
    · rw [ex, F1, ← egn, ku_self, hrr]
      refine ⟨by omega, rfl, by omega, fun j hj ej => ?_⟩
      by_cases ejy : j = y
      · exact ejy
      · rw [F0 _ (by omega)] at ej
        exact absurd ej (old j (by omega))
    · have o2 := o.2 x (by omega)
      rw [F0 _ (by omega)]
      refine ⟨o2.1, ku_r (P := fun z => z = 2) rfl o2.2.1, o2.2.2.1, fun j hj ej => ?_⟩
      by_cases ejy : j = y
      · rw [ejy, F1] at ej
        exact absurd ej.symm (old x (by omega))
      · rw [F0 _ (by omega)] at ej
        exact o2.2.2.2 j (by omega) ej
  · rw [A0 q e]
    refine ⟨o.1, fun x hx => ?_⟩
    have o2 := o.2 x hx
    have same : ∀ z : Nat, (z : Int) < (km_a μ 29 q).toInt → F (100 * q + z) = km_a μ 30 (100 * q + z) := fun z hz => F0 _ (by omega)
    rw [same x hx]
    refine ⟨o2.1, ku_r (P := fun z => z = 2) rfl o2.2.1, o2.2.2.1, fun j hj ej => ?_⟩
    rw [same j hj] at ej
    exact o2.2.2.2 j hj ej
theorem rz_leave113 {σ : sz_T × Int32} {g r : Int32} {μ : km_S} {Q : km_S → Prop} (H : ih_ σ μ) (hg : vp_in g 400) (hp : km_a μ 38 g.toNatClampNeg = 1) (hr : vp_in r 10) (kk : ∀ μ', gf_ σ g.toNatClampNeg μ μ' → Q μ') : wX12_leave_113 Q g r μ :=
  ⟨hr, fun _ => rz_leave134 H hg hp hr kk, fun _ => ⟨hr, fun _ => rz_leave134 H hg hp hr kk, fun _ => kk _ ⟨H, fun _ _ => rfl, rfl⟩⟩⟩
theorem rz_leave {σ : sz_T × Int32} {g r : Int32} {μ : km_S} {Q : km_S → Prop} (H : ih_ σ μ) (hg : vp_in g 400) (hp : km_a μ 38 g.toNatClampNeg = 1) (hrr : km_a μ 39 g.toNatClampNeg = r) (hr : vp_in r 10) (kk : ∀ μ', gf_ σ g.toNatClampNeg μ μ' → Q μ') : wX12_leave g r μ Q := by
  have hr4 := ki_in.1 hr
  have hg4 := ki_in.1 hg
  have hm := (H.1.2.2.2.2.1 g.toNatClampNeg (by rw [ki_nat]; omega)).1
  have hm16 : vp_in (km_a μ 35 g.toNatClampNeg) 16 := by rw [ki_in]; omega
  have hbr := (H.1.2.1 r.toNatClampNeg (by rw [ki_nat]; omega)).2.2.2.1
  have hhp := (H.1.2.2.2.1 r.toNatClampNeg (by rw [ki_nat]; omega)).1
  refine ⟨hr, fun _ => rz_leave113 H hg hp hr kk, fun _ => ⟨hr, hg, fun _ => rz_leave113 H hg hp hr kk, fun _ => ⟨hr, hr, fun c => ?_, fun _ => kk _ ⟨H, fun _ _ => rfl, rfl⟩⟩⟩⟩
  rw [ki_lt] at c
  have h100 := ki_100 (r := r) (i := km_a μ 29 r.toNatClampNeg) (by omega) (by omega) (by omega) (by omega)
  refine rz_lift H hg hp (fun F A H2 hf hA => ⟨hr, (by show vp_in (100 * r + km_a μ 29 r.toNatClampNeg) 1000; rw [ki_in]; omega), fun μ32 e32 => ⟨hr, hr, fun μ35 e35 => ⟨hg, fun μ37 e37 => ⟨hg, fun μ39 e39 => ?_⟩⟩⟩⟩)
  have D := ih_heap hg hr H2 hf hp hrr (by show (km_a μ 29 r.toNatClampNeg).toInt < 100; omega)
  subst e39; subst e37; subst e35; subst e32
  refine ⟨hg, hm16, rz_ruled D.1 hg (fun v S u => ⟨hm16, fun μ45 e45 => ?_⟩)⟩
  rw [e45]
  exact kk _ ⟨ih_sp (ih_kv D), fun q hq => ku_ne hq, rfl⟩
