/-! the reference: an hour -/
def nm_ (W : List Nat) (μ u : km_S) : Prop := (∀ j, j ∉ W → km_i u j = km_i μ j) ∧ ∀ f, f ∉ W → km_a u f = km_a μ f
theorem nm_refl {W : List Nat} {μ : km_S} : nm_ W μ μ := ⟨fun _ _ => rfl, fun _ _ => rfl⟩
theorem nm_trans {W : List Nat} {a b c : km_S} (h : nm_ W a b) (k : nm_ W b c) : nm_ W a c := ⟨fun j hj => (k.1 j hj).trans (h.1 j hj), fun f hf => (k.2 f hf).trans (h.2 f hf)⟩
theorem nm_gw {W : List Nat} {μ : km_S} : gw_ (nm_ W μ) W := by
  intro u h f hf
  refine ⟨fun v => ⟨fun j hj => ?_, h.2⟩, fun i v => ⟨h.1, fun e he => ?_⟩, fun v => h, fun i v => h⟩
  · show upd u.1 f v j = _
    rw [w_updN (fun e => hj (by rw [e]; exact hf))]
    exact h.1 j hj
  · show (if e = f then upd (u.2.1 f) i v else u.2.1 e) = _
    rw [if_neg (fun q => he (by rw [q]; exact hf))]
    exact h.2 e he
theorem gw_f0 {W : List Nat} {μ : km_S} {f0 : Nat} (h : f0 ∉ W) : gw_ (fun u => km_a u f0 = km_a μ f0) W := by
  intro u i f hf
  refine ⟨fun _ => i, fun j v => ?_, fun _ => i, fun _ _ => i⟩
  show (if f0 = f then upd (u.2.1 f) j v else u.2.1 f0) = _
  rw [if_neg (fun q => h (by rw [q]; exact hf))]
  exact i
theorem gw_and {I I' : km_S → Prop} {W : List Nat} (h : gw_ I W) (k : gw_ I' W) : gw_ (fun u => I u ∧ I' u) W := by
  intro u i f hf
  obtain ⟨a1, a2, a3, a4⟩ := h u i.1 f hf
  obtain ⟨b1, b2, b3, b4⟩ := k u i.2 f hf
  exact ⟨fun v => ⟨a1 v, b1 v⟩, fun j v => ⟨a2 j v, b2 j v⟩, fun v => ⟨a3 v, b3 v⟩, fun j v => ⟨a4 j v, b4 j v⟩⟩
abbrev m43_ (μ u : km_S) : Prop := mw_ μ u ∧ km_a u 43 = km_a μ 43
theorem m43_gw {μ : km_S} {W : List Nat} (hW : ∀ f ∈ W, f ≠ 3 ∧ f ≠ 11 ∧ f ≠ 12 ∧ f ≠ 13 ∧ f ≠ 18 ∧ f ≠ 19 ∧ f ≠ 24 ∧ f ≠ 25) (h43 : 43 ∉ W) : gw_ (m43_ μ) W := gw_and (wm_gw hW) (gw_f0 h43)
theorem rA_water {a : ra_T} {w : wt_T} {μ u : km_S} (h : rA_ a μ) (F : nm_ [11, 12, 18, 19, 20, 25] μ u) (hw : wm_ u = w) : rA_ (aw_ a w) u := by
  obtain ⟨h1, h2, h3, h4⟩ := h
  have e18 : km_a u 18 = w.2.2.2.1 := congrArg (fun w : wt_T => w.2.2.2.1) hw
  have e19 : km_a u 19 = w.2.2.2.2.1 := congrArg (fun w : wt_T => w.2.2.2.2.1) hw
  refine ⟨fun f hf => ?_, ?_, ?_, ?_⟩
  · by_cases c18 : f = 18
    · rw [c18, aw_18]; exact e18
    · by_cases c19 : f = 19
      · rw [c19, aw_19]; exact e19
      · rw [aw_f c18 c19, F.2 f ?_]
        · exact h1 f hf
        · intro q
          simp at q
          rcases q with q | q | q | q | q | q
          · rw [q] at hf; exact absurd hf (by decide)
          · rw [q] at hf; exact absurd hf (by decide)
          · exact c18 q
          · exact c19 q
          · rw [q] at hf; exact absurd hf (by decide)
          · rw [q] at hf; exact absurd hf (by decide)
  · rw [F.2 31 (by decide), F.2 32 (by decide)]; exact h2
  · rw [F.2 29 (by decide), F.2 30 (by decide)]; exact h3
  · rw [F.1 6 (by decide)]; exact h4
theorem p3_w {a : ra_T} {w : wt_T} : p3_ a (aw_ a w) := ⟨fun _ h => h, aw_f (by decide) (by decide), aw_f (by decide) (by decide), aw_f (by decide) (by decide)⟩
theorem p3_j {nr : Nat} {a : ra_T} : p3_ a (a_jam nr a) := ⟨fun _ h => h, ff_n (by decide), ff_n (by decide), ff_n (by decide)⟩
theorem p3_k {nr nc : Nat} {a : ra_T} : p3_ a (a_known nr nc a) := ⟨fun _ h => h, ff_n (by decide), ff_n (by decide), ff_n (by decide)⟩
theorem p3_f {now : Int32} {nc : Nat} {a : ra_T} : p3_ a (a_free now nc 0 a) := by
  have e := (a_free_c (now := now) nc 0 a).1
  exact ⟨fun y h => by rw [e 38 (by decide) (by decide) (by decide)]; exact h, e 42 (by decide) (by decide) (by decide), e 36 (by decide) (by decide) (by decide), e 6 (by decide) (by decide) (by decide)⟩
/-- all of the reference's river -/
def rF_ (nr nl no nc : Nat) (S : sz_T × Int32) (a : ra_T) (w : wt_T) (μ : km_S) : Prop := ih_ S μ ∧ rA_ a μ ∧ rB_ nl a μ ∧ wm_ μ = w
def sn_ (nr nl no nc : Nat) (S : sz_T × Int32) : Prop := S.1.1.1.toInt = (nr : Int) ∧ S.1.1.2.1.toInt = (nl : Int) ∧ S.1.1.2.2.1.toInt = (nc : Int) ∧ S.1.1.2.2.2.1.toInt = (no : Int)
theorem sn_at {nr nl no nc : Nat} {S : sz_T × Int32} {μ : km_S} (h : sn_ nr nl no nc S) (H : ih_ S μ) : (km_i μ 3).toInt = (nr : Int) ∧ (km_i μ 4).toInt = (nl : Int) ∧ (km_i μ 7).toInt = (nc : Int) ∧ (km_i μ 8).toInt = (no : Int) ∧ km_i μ 2 = S.1.1.2.2.2.2.2 ∧ nr ≤ 10 ∧ nl ≤ 400 ∧ nc ≤ 6 ∧ no ≤ 60 := by
  have e := congrArg (fun s : sz_T × Int32 => s.1.1) H.2
  have e3 : km_i μ 3 = S.1.1.1 := congrArg (fun p => p.1) e
  have e4 : km_i μ 4 = S.1.1.2.1 := congrArg (fun p => p.2.1) e
  have e7 : km_i μ 7 = S.1.1.2.2.1 := congrArg (fun p => p.2.2.1) e
  have e8 : km_i μ 8 = S.1.1.2.2.2.1 := congrArg (fun p => p.2.2.2.1) e
  have e2 : km_i μ 2 = S.1.1.2.2.2.2.2 := congrArg (fun p => p.2.2.2.2.2) e
  obtain ⟨n1, n2, n3, n4, n5, n6⟩ := H.1.1
  rw [e3] at n1
  rw [e4] at n2
  rw [e7] at n4
  rw [e8] at n5
  obtain ⟨h1, h2, h3, h4⟩ := h
  rw [e3, e4, e7, e8]
  exact ⟨h1, h2, h3, h4, e2, by omega, by omega, by omega, by omega⟩
theorem wr_hour {nr nl no nc : Nat} {S : sz_T × Int32} {a : ra_T} {w : wt_T} {now : Int32} {μ : km_S} {K : km_S → Prop} (sn : sn_ nr nl no nc S) (hnow : S.1.1.2.2.2.2.2 = now) (A : aK_ nr nl nc now 0 a) (ok : w_ok nr w) (H : rF_ nr nl no nc S a w μ)
    (kk : ∀ v, rF_ nr nl no nc S (a_hour nr nc no now (w_hour nr S.1.2.1 S.1.2.2.1 S.1.2.2.2.1 w) a) (w_hour nr S.1.2.1 S.1.2.2.1 S.1.2.2.2.1 w) v → aK_ nr nl nc now nc (a_hour nr nc no now (w_hour nr S.1.2.1 S.1.2.2.1 S.1.2.2.2.1 w) a) → K v) :
    wX12_waterGoes μ (fun μ4 => wX12_move μ4 (fun μ5 => wX12_jams μ5 (fun μ6 => wX12_older μ6 (fun μ7 => wX12_mills μ7 K)))) := by
  obtain ⟨H0, R0, B0, W0⟩ := H
  obtain ⟨i3, i4, i7, i8, i2, h10, l4, c6, n60⟩ := sn_at sn H0
  unfold a_hour at kk
  have hs : sm_ μ = S.1 := congrArg Prod.fst H0.2
  have d21 : km_a μ 21 = S.1.2.1 := congrArg (fun s : sz_T => s.2.1) hs
  have d26 : km_a μ 26 = S.1.2.2.1 := congrArg (fun s : sz_T => s.2.2.1) hs
  have d17 : km_a μ 17 = S.1.2.2.2.1 := congrArg (fun s : sz_T => s.2.2.2.1) hs
  generalize hw : w_hour nr S.1.2.1 S.1.2.2.1 S.1.2.2.2.1 w = w' at kk
  refine jcX12_waterGoes (Q := fun u => ih_ S u ∧ wm_ u = w') (Q' := nm_ [11, 12, 18, 19, 20, 25] μ) (fun μ1 K1 F1 => ?_) _ (jcX12_waterGoes (Q := fun u => ih_ S u) (Q' := fun u => wm_ u = w') (fun _ p q => ⟨p, q⟩) _ (rz_waterGoes H0 (fun _ h => h)) (vm_water i3 h10 (by rw [W0]; exact ok) (fun u h => by rw [h, d21, d26, d17, W0, hw]))) (jfX12_waterGoes nm_gw (fun _ h => h) _ nm_refl)
  obtain ⟨H1, W1⟩ := K1
  have R1 := rA_water R0 F1 W1
  have A1 : aK_ nr nl nc now 0 (aw_ a w') := aK_w A
  have B1 : rB_ nl (aw_ a w') μ1 := rB_p3 B0 p3_w (F1.2 43 (by decide))
  clear F1 B0 R0 W0 A d21 d26 d17 hs i3 i4 i7 i8 i2
  generalize aw_ a w' = a1 at *
  obtain ⟨i3, i4, i7, i8, i2, _⟩ := sn_at sn H1
  refine jcX12_move (Q := fun u => ih_ S u ∧ rA_ (a_move nr 0 a1) u) (Q' := m43_ μ1) (fun μ2 K2 F2 => ?_) _ (jcX12_move (Q := fun u => ih_ S u) (Q' := fun u => rA_ (a_move nr 0 a1) u) (fun _ p q => ⟨p, q⟩) _ (rz_move H1 (fun _ h => h)) (vr_move h10 i3 A1.1 R1 (fun _ _ p _ => p))) (jfX12_move (m43_gw (by decide) (by decide)) (fun _ h => h) _ ⟨⟨rfl, rfl⟩, rfl⟩)
  obtain ⟨H2, R2⟩ := K2
  have B2 := rB_p3 B1 (p3_move h10 nr 0 a1 (by omega) A1.1).1 F2.2
  have A2 := aK_m h10 A1
  have W2 : wm_ μ2 = w' := F2.1.1.trans W1
  clear F2 B1 R1 W1 A1 H1 i3 i4 i7 i8 i2
  generalize a_move nr 0 a1 = a2 at *
  obtain ⟨i3, i4, i7, i8, i2, _⟩ := sn_at sn H2
  refine jcX12_jams (Q := fun u => ih_ S u ∧ rA_ (a_known nr nc (a_free now nc 0 (a_jam nr a2))) u) (Q' := m43_ μ2) (fun μ3 K3 F3 => ?_) _ (jcX12_jams (Q := fun u => ih_ S u) (Q' := fun u => rA_ (a_known nr nc (a_free now nc 0 (a_jam nr a2))) u) (fun _ p q => ⟨p, q⟩) _ (rz_jams H2 (fun _ h => h)) ?_) (jfX12_jams (m43_gw (by decide) (by decide)) (fun _ h => h) _ ⟨⟨rfl, rfl⟩, rfl⟩)
  rotate_left 1
  · unfold vX12_jams
    refine fun j => vr_jam h10 A2.1.1 i3 R2 (fun v Rv gv => ?_) j
    unfold vX12_jams_79
    have A3 := aK_j A2
    have e2 : km_i v 2 = now := by rw [gv 2, i2]; exact hnow
    refine fun j => vr_free (nr := nr) (nl := nl) (nc := nc) (μ := v) h10 c6 (by rw [gv 7]; exact i7) j nc 0 (a_jam nr a2) 0 v (by decide) (by omega) (fun r hr => ⟨(A3.1.1.1 r hr).1, (A3.1.1.1 r hr).2.1⟩) (by rw [e2]; exact A3.2.2) Rv (fun _ => rfl) (fun v2 R2' g2 => ?_)
    rw [e2] at R2'
    have A4 := aK_f A3
    exact vr_known (nl := nl) h10 c6 (fun r hr => ⟨(A4.1.1.1 r hr).1, (A4.1.1.1 r hr).2.1⟩) (by rw [g2 3, gv 3]; exact i3) (by rw [g2 7, gv 7]; exact i7) R2' (fun u Ru _ => Ru)
  obtain ⟨H3, R3⟩ := K3
  have B3 := rB_p3 B2 (p3_trans (p3_j (nr := nr)) (p3_trans (p3_f (now := now) (nc := nc)) (p3_k (nr := nr) (nc := nc)))) F3.2
  have A3 := aK_k (nc := nc) (aK_f (aK_j A2))
  have W3 : wm_ μ3 = w' := F3.1.1.trans W2
  clear F3 B2 R2 W2 A2 H2 i3 i4 i7 i8 i2
  generalize a_known nr nc (a_free now nc 0 (a_jam nr a2)) = a3 at *
  obtain ⟨i3, i4, i7, i8, i2, _⟩ := sn_at sn H3
  refine jcX12_older (Q := fun u => ih_ S u ∧ rA_ (a_age a3) u) (Q' := m43_ μ3) (fun μ4 K4 F4 => ?_) _ (jcX12_older (Q := fun u => ih_ S u) (Q' := fun u => rA_ (a_age a3) u) (fun _ p q => ⟨p, q⟩) _ (rz_older H3 (fun _ h => h)) (vr_age h10 l4 A3.1.1 A3.1.2.1 i4 A3.2.1 R3 (fun _ p _ => p))) (jfX12_older (m43_gw (by decide) (by decide)) (fun _ h => h) _ ⟨⟨rfl, rfl⟩, rfl⟩)
  obtain ⟨H4, R4⟩ := K4
  have B4 := rB_p3 B3 p3_age F4.2
  have A4 := aK_a A3
  have W4 : wm_ μ4 = w' := F4.1.1.trans W3
  clear F4 B3 R3 W3 A3 H3 i3 i4 i7 i8 i2
  generalize a_age a3 = a4 at *
  obtain ⟨i3, i4, i7, i8, i2, _⟩ := sn_at sn H4
  refine jcX12_mills (Q := fun u => ih_ S u ∧ rB_ nl (a_mills no nr 0 a4) u ∧ rA_ (a_mills no nr 0 a4) u) (Q' := mw_ μ4) (fun μ5 K5 F5 => ?_) _ (jcX12_mills (Q := fun u => ih_ S u) (Q' := fun u => rB_ nl (a_mills no nr 0 a4) u ∧ rA_ (a_mills no nr 0 a4) u) (fun _ p q => ⟨p, q⟩) _ (rz_mills H4 (fun _ h => h)) (vr_mills h10 n60 i3 i8 A4.1.1 A4.1.2.1 B4 R4 (fun _ _ _ p q _ => ⟨p, q⟩))) (jfX12_mills (wm_gw (by decide)) (fun _ h => h) _ ⟨rfl, rfl⟩)
  exact kk μ5 ⟨K5.1, K5.2.2, K5.2.1, F5.1.trans W4⟩ (aK_s h10 A4)
theorem wr_hours {nr nl no nc : Nat} {S : sz_T} {a : ra_T} {w : wt_T} {mi : Int32} {μ : km_S} {Q : Int32 → km_S → Prop} (sn : sn_ nr nl no nc (S, 0)) (A : aK_ nr nl nc S.1.2.2.2.2.2 0 a) (ok : w_ok nr w) {k0 : Int32} (H : rF_ nr nl no nc (S, k0) a w μ)
    (kno : (mi < 0 ∨ 200 < mi ∨ ¬ (S.1.2.2.2.2.2 + mi ≤ 20000)) → Q 0 (km_si (km_si μ 1 0) 1 1))
    (kyes : ¬ (mi < 0 ∨ 200 < mi ∨ ¬ (S.1.2.2.2.2.2 + mi ≤ 20000)) → ∀ p v, p = ah_ nr nc no S.2.1 S.2.2.1 S.2.2.2.1 mi.toNatClampNeg (S.1.2.2.2.2.2, a, w) → p.1 = S.1.2.2.2.2.2 + mi → rF_ nr nl no nc (zn_ S p.1, 0) p.2.1 p.2.2 v → aK_ nr nl nc p.1 0 p.2.1 → w_ok nr p.2.2 → Q p.1 v) : wX12_hours mi μ Q := by
  intro μ1 e1
  have H1 : rF_ nr nl no nc (S, 0) a w μ1 := by
    obtain ⟨⟨I, es⟩, R, Bd, W⟩ := H
    rw [e1]
    have es1 : sm_ μ = S := congrArg Prod.fst es
    refine ⟨⟨im_code 0 I, ?_⟩, R, Bd, W⟩
    refine Prod.ext ?_ rfl
    exact es1
  have e2 : km_i μ1 2 = S.1.2.2.2.2.2 := congrArg (fun s : sz_T × Int32 => s.1.1.2.2.2.2.2) H1.1.2
  have no_ : (mi < 0 ∨ 200 < mi ∨ ¬ (km_i μ1 2 + mi ≤ 20000)) → wX12_hours_28 Q μ1 := fun c μ2 ed => by
    rw [e2] at c
    rw [ed, e1]
    exact kno c
  refine ⟨fun c => no_ (.inl c), fun c => ⟨fun d => no_ (.inr (.inl d)), fun d => ⟨fun e => ⟨202, ?_⟩, fun e => no_ (.inr (.inr e))⟩⟩⟩
  rw [e2] at e no_
  have kyes := kyes (fun h => h.elim c (fun h => h.elim d (fun h => h e)))
  clear kno no_
  rw [ki_lt, ki_z0] at c
  have z200 : (200 : Int32).toInt = 200 := by decide
  have z20 : (20000 : Int32).toInt = 20000 := by decide
  rw [ki_lt, z200] at d
  obtain ⟨mm, hm⟩ : ∃ mm : Nat, mi.toInt = (mm : Int) := ⟨mi.toInt.toNat, by omega⟩
  have em : mi.toNatClampNeg = mm := ki_toN hm
  rw [em] at kyes
  have hnow0 := A.2.2.1
  have c20 : S.1.2.2.2.2.2.toInt + mi.toInt ≤ 20000 := by
    rw [ki_le, z20, ki_add (by omega) (by omega)] at e
    exact e
  have loop : ∀ (j k : Nat) (i : Int32) (p : Int32 × ra_T × wt_T) (M : km_S), i.toInt + (k : Int) = mi.toInt → 0 ≤ i.toInt → k < j → p.1 = S.1.2.2.2.2.2 + i → ah_ nr nc no S.2.1 S.2.2.1 S.2.2.2.1 k p = ah_ nr nc no S.2.1 S.2.2.1 S.2.2.2.1 mm (S.1.2.2.2.2.2, a, w) → aK_ nr nl nc p.1 0 p.2.1 → w_ok nr p.2.2 → rF_ nr nl no nc (zn_ S p.1, 0) p.2.1 p.2.2 M → wX12_hours_35 (wX12_hours_76 Q) Q j mi i M := by
    intro j
    induction j with
    | zero => intro k i p M _ _ h; omega
    | succ j ih =>
      intro k i p M h1 h0 h2 h3 h4 A1 ok1 H1
      have eM : km_i M 2 = p.1 := congrArg (fun s : sz_T × Int32 => s.1.1.2.2.2.2.2) H1.1.2
      refine ⟨fun q => ?_, fun q => ?_⟩
      · rw [ki_le] at q
        have ek : k = 0 := by omega
        subst ek
        have en : i = mi := ki_eq.2 (by omega)
        show Q (km_i M 2) M
        rw [eM]
        have h4 : p = _ := h4
        exact kyes p M h4 (by rw [h3, en]) H1 A1 ok1
      · rw [ki_le] at q
        obtain ⟨k, rfl⟩ : ∃ x, k = x + 1 := ⟨k - 1, by omega⟩
        obtain ⟨i', ei, ii⟩ := ki_incE (a := i) (by omega) (by omega)
        have hp : p.1.toInt = S.1.2.2.2.2.2.toInt + i.toInt := by rw [h3, ki_add (by omega) (by omega)]
        have hp1 : (p.1 + 1).toInt = p.1.toInt + 1 := by rw [ki_add (by rw [ki_z1]; omega) (by rw [ki_z1]; omega), ki_z1]
        refine wr_hour (S := (zn_ S p.1, 0)) (now := p.1) sn rfl A1 ok1 H1 (fun v Hv Av => ?_)
        intro μ9 e9 v10 ev
        have ev2 : km_i v 2 = p.1 := congrArg (fun s : sz_T × Int32 => s.1.1.2.2.2.2.2) Hv.1.2
        rw [ev, ← ei, e9, ev2]
        refine ih k i' (p.1 + 1, a_hour nr nc no p.1 (w_hour nr S.2.1 S.2.2.1 S.2.2.2.1 p.2.2) p.2.1, w_hour nr S.2.1 S.2.2.1 S.2.2.2.1 p.2.2) _ (by omega) (by omega) (by omega) ?_ h4 (aK_next hp1 (by omega) Av) (w_hour_ok ok1) ?_
        · show p.1 + 1 = _
          rw [h3, ei, Int32.add_assoc]
        · obtain ⟨⟨Iv, ev⟩, Rv, Bv, Wv⟩ := Hv
          refine ⟨⟨Iv, ?_⟩, Rv, Bv, Wv⟩
          have h1 : sm_ v = zn_ S p.1 := congrArg Prod.fst ev
          have h2 : km_i v 1 = 0 := congrArg Prod.snd ev
          refine Prod.ext ?_ h2
          show zn_ (sm_ v) (p.1 + 1) = zn_ S (p.1 + 1)
          rw [h1]
  exact loop 202 mm 0 (S.1.2.2.2.2.2, a, w) μ1 (by rw [ki_z0]; omega) (by decide) (by omega) (by rw [Int32.add_zero]) rfl A ok H1
