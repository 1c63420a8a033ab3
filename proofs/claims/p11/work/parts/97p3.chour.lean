/-! the river keeps its order through an hour -/
theorem aK_same {nr nl nc k0 : Nat} {now : Int32} {a b : ra_T} (A : aK_ nr nl nc now k0 a) (e : ∀ f, f ∈ [13, 14, 15, 22, 28, 38, 39, 40, 44, 45, 46] → b.1 f = a.1 f) (e2 : b.2 = a.2) : aK_ nr nl nc now k0 b := by
  obtain ⟨⟨A1, A2, A3⟩, A4, A5, A6⟩ := A
  refine ⟨⟨ao_same A1 (e 14 (by decide)) (e 15 (by decide)) (e 13 (by decide)) (e 38 (by decide)) (e 39 (by decide)) (e 40 (by decide)) e2, rsz_same A2 e2, ?_⟩, ?_, A5, ?_⟩
  · rw [e 22 (by decide), e 28 (by decide)]; exact A3
  · rw [e 38 (by decide)]; exact A4
  · rw [e 44 (by decide), e 45 (by decide), e 46 (by decide)]; exact A6
theorem aw_f {a : ra_T} {w : wt_T} {f : Nat} (h1 : f ≠ 18) (h2 : f ≠ 19) : (aw_ a w).1 f = a.1 f := (ff_n h2).trans (ff_n h1)
theorem aw_18 {a : ra_T} {w : wt_T} : (aw_ a w).1 18 = w.2.2.2.1 := (ff_n (by decide)).trans ff_s
theorem aw_19 {a : ra_T} {w : wt_T} : (aw_ a w).1 19 = w.2.2.2.2.1 := ff_s
theorem aK_w {nr nl nc k0 : Nat} {now : Int32} {a : ra_T} {w : wt_T} (A : aK_ nr nl nc now k0 a) : aK_ nr nl nc now k0 (aw_ a w) :=
  aK_same A (fun f hf => aw_f (by intro e; rw [e] at hf; exact absurd hf (by decide)) (by intro e; rw [e] at hf; exact absurd hf (by decide))) rfl
theorem aK_m {nr nl nc k0 : Nat} {now : Int32} {a : ra_T} (h10 : nr ≤ 10) (A : aK_ nr nl nc now k0 a) : aK_ nr nl nc now k0 (a_move nr 0 a) := by
  obtain ⟨A1, A4, A5, A6⟩ := A
  obtain ⟨i1, i2, i3⟩ := p3_move h10 nr 0 a (by omega) A1
  refine ⟨i2, fun x hx => ?_, A5, ?_⟩
  · rw [n38_move h10 hx nr 0 a (by omega) A1]; exact A4 x hx
  · rw [i3 44 (by decide) (by decide) (by decide), i3 45 (by decide) (by decide) (by decide), i3 46 (by decide) (by decide) (by decide)]
    exact A6
theorem aK_j {nr nl nc k0 : Nat} {now : Int32} {a : ra_T} (A : aK_ nr nl nc now k0 a) : aK_ nr nl nc now k0 (a_jam nr a) :=
  aK_same A (fun f hf => ff_n (by intro e; rw [e] at hf; exact absurd hf (by decide))) rfl
theorem aK_k {nr nl nc k0 : Nat} {now : Int32} {a : ra_T} (A : aK_ nr nl nc now k0 a) : aK_ nr nl nc now k0 (a_known nr nc a) :=
  aK_same A (fun f hf => ff_n (by intro e; rw [e] at hf; exact absurd hf (by decide))) rfl
theorem aK_f {nr nl nc : Nat} {now : Int32} {a : ra_T} (A : aK_ nr nl nc now 0 a) : aK_ nr nl nc now nc (a_free now nc 0 a) := by
  obtain ⟨⟨A1, A2, A3⟩, A4, A5⟩ := A
  obtain ⟨e1, e2⟩ := a_free_c (now := now) nc 0 a
  have e : ∀ f, f ∈ [13, 14, 15, 22, 28, 38, 39, 40] → (a_free now nc 0 a).1 f = a.1 f := fun f hf => e1 f (by intro e; rw [e] at hf; exact absurd hf (by decide)) (by intro e; rw [e] at hf; exact absurd hf (by decide)) (by intro e; rw [e] at hf; exact absurd hf (by decide))
  refine ⟨⟨ao_same A1 (e 14 (by decide)) (e 15 (by decide)) (e 13 (by decide)) (e 38 (by decide)) (e 39 (by decide)) (e 40 (by decide)) e2, rsz_same A2 e2, ?_⟩, ?_, co_free nc 0 a (by omega) A5⟩
  · rw [e 22 (by decide), e 28 (by decide)]; exact A3
  · rw [e 38 (by decide)]; exact A4
theorem aK_a {nr nl nc k0 : Nat} {now : Int32} {a : ra_T} (A : aK_ nr nl nc now k0 a) : aK_ nr nl nc now k0 (a_age a) := by
  obtain ⟨⟨A1, A2, A3⟩, A4, A5, A6⟩ := A
  have e : ∀ f, f ≠ 38 → f ≠ 41 → (a_age a).1 f = a.1 f := fun f h1 h2 => by
    first
    | exact ag_o h1 h2
    | exact ag_o h2 h1
  refine ⟨⟨ao_age A1, rsz_age A2, ?_⟩, fun x hx => ?_, A5, ?_⟩
  · rw [e 22 (by decide) (by decide), e 28 (by decide) (by decide)]; exact A3
  · by_cases hs : su_ a x
    · rw [show (a_age a).1 38 x = 5 from ag_38y trivial hs]
      decide
    · rw [show (a_age a).1 38 x = a.1 38 x from ag_38n (fun z => hs z.2)]
      exact A4 x hx
  · rw [e 44 (by decide) (by decide), e 45 (by decide) (by decide), e 46 (by decide) (by decide)]; exact A6
def am_ (nr nl : Nat) (a : ra_T) : Prop := ao_ nr nl a ∧ rsz_ a ∧ ∀ x, nl ≤ x → ¬ a.1 38 x = 1
theorem am_saw1 {a b : ra_T} {r o nr nl : Nat} (h10 : nr ≤ 10) (hr : r < nr) (A : am_ nr nl a) (h : a_saw1 a r o = some b) : am_ nr nl b := by
  unfold a_saw1 at h
  split at h
  · exact absurd h (by simp)
  · cases e : (a.2 (120 + r)).find? (mt_b a o) with
    | none => rw [e] at h; exact absurd h (by simp)
    | some x =>
      rw [e] at h
      have h : some (a_sawn a r o x) = some b := h
      rw [← Option.some.inj h]
      have hx := List.mem_of_find?_eq_some e
      refine ⟨ao_sawn A.1 hr h10 hx, ⟨fun j hj => ?_, fun q hq => ?_⟩, fun y hy => ?_⟩
      · rw [(qm_sawn (a := a) (r := r) (o := o) (x := x)).2 j hj]; exact A.2.1.1 j hj
      · show (if 120 + q = 120 + r then (a.2 (120 + r)).filter (fun z => decide (¬ z = x)) else a.2 (120 + q)).length ≤ 100
        split
        · exact Nat.le_trans (List.length_filter_le _ _) (A.2.1.2 r (by omega))
        · exact A.2.1.2 q hq
      · have ne : ¬ y = x := fun e => by have := (A.1.2.1 _ x hx).1; omega
        rw [show (a_sawn a r o x).1 38 y = a.1 38 y from w_updN ne]
        exact A.2.2 y hy
theorem am_saws {r o nr nl : Nat} (h10 : nr ≤ 10) (hr : r < nr) : ∀ (l : Nat) (a : ra_T), am_ nr nl a → am_ nr nl (a_saws r o l a).1 := by
  intro l
  induction l with
  | zero => intro a A; exact A
  | succ l ih =>
    intro a A
    unfold a_saws
    split
    · exact A
    · next b e => exact ih b (am_saw1 h10 hr A e)
theorem am_millL {r nr nl : Nat} (h10 : nr ≤ 10) (hr : r < nr) : ∀ (L : List Nat) (l : Nat) (a : ra_T), am_ nr nl a → am_ nr nl (a_millL r L l a) := by
  intro L
  induction L with
  | nil => intro l a A; exact A
  | cons o L ih => intro l a A; exact ih _ _ (am_saws h10 hr l a A)
theorem am_mills {nr nl no : Nat} (h10 : nr ≤ 10) : ∀ (k r : Nat) (a : ra_T), r + k = nr → am_ nr nl a → am_ nr nl (a_mills no k r a) := by
  intro k
  induction k with
  | zero => intro r a _ A; exact A
  | succ k ih => intro r a hk A; exact ih (r + 1) _ (by omega) (am_millL h10 (by omega) _ _ _ A)
theorem aK_s {nr nl nc no k0 : Nat} {now : Int32} {a : ra_T} (h10 : nr ≤ 10) (A : aK_ nr nl nc now k0 a) : aK_ nr nl nc now k0 (a_mills no nr 0 a) := by
  obtain ⟨⟨A1, A2, A3⟩, A4, A5, A6⟩ := A
  obtain ⟨i1, i2, i3⟩ := am_mills (no := no) h10 nr 0 a (by omega) ⟨A1, A2, A4⟩
  have e := (qm_mills (no := no) nr 0 a).1
  refine ⟨⟨i1, i2, ?_⟩, i3, A5, ?_⟩
  · rw [e 22 (by decide) (by decide) (by decide) (by decide), e 28 (by decide) (by decide) (by decide) (by decide)]; exact A3
  · rw [e 44 (by decide) (by decide) (by decide) (by decide), e 45 (by decide) (by decide) (by decide) (by decide), e 46 (by decide) (by decide) (by decide) (by decide)]; exact A6
theorem aK_next {nr nl nc : Nat} {now nx : Int32} {a : ra_T} (hx : nx.toInt = now.toInt + 1) (h2 : now.toInt + 1 ≤ 20000) (A : aK_ nr nl nc now nc a) : aK_ nr nl nc nx 0 a := by
  obtain ⟨A1, A4, A5, A6⟩ := A
  refine ⟨A1, A4, ⟨by omega, by omega⟩, fun k hk => ?_⟩
  obtain ⟨b1, b2, b3, b4⟩ := A6 k hk
  exact ⟨b1, ⟨b2.1, by omega⟩, ⟨b3.1, by omega⟩, fun _ => by omega⟩
/-- many hours: the hour, the river, the water -/
noncomputable def ah_ (nr nc no : Nat) (dm gt ml : Nat → Int32) : Nat → Int32 × ra_T × wt_T → Int32 × ra_T × wt_T
  | 0, p => p
  | k + 1, p => ah_ nr nc no dm gt ml k (p.1 + 1, a_hour nr nc no p.1 (w_hour nr dm gt ml p.2.2) p.2.1, w_hour nr dm gt ml p.2.2)
/-! the class: an hour -/
abbrev nw_W : List Nat := [167, 169, 170, 220, 221]
/-- nothing but water changed -/
def nw_ (σ τ : kx_S) : Prop := (∀ f a, f ∉ nw_W → xi τ f a = xi σ f a) ∧ τ.1 = σ.1 ∧ (∀ f a, f ∉ nw_W → xr τ f a = xr σ f a) ∧ τ.2.2.2.2 = σ.2.2.2.2
theorem nw_fw {σ : kx_S} : fw_ (nw_ σ) nw_W := by
  intro u h
  have hi : ∀ x ∈ nw_W, x ≤ 221 := by decide
  refine ⟨fun f hf => ⟨fun a v => ⟨fun e b he => ?_, h.2.1, h.2.2.1, h.2.2.2⟩, fun a v => ⟨h.1, h.2.1, fun e b he => ?_, h.2.2.2⟩, fun a v => h⟩, fun q => absurd q (by decide), fun q => absurd q (by decide), fun q => absurd q (by decide), fun q => absurd q (by decide), fun q => absurd q (by decide), fun t ht => ?_, fun t ht => ?_⟩
  · refine Eq.trans ?_ (h.1 e b he)
    show (if e = f then va_up (u.2.1 f) a v else u.2.1 e) b = u.2.1 e b
    rw [if_neg (fun q => he (by rw [q]; exact hf))]
  · refine Eq.trans ?_ (h.2.2.1 e b he)
    show (if e = f then va_up (u.2.2.1 f) a v else u.2.2.1 e) b = u.2.2.1 e b
    rw [if_neg (fun q => he (by rw [q]; exact hf))]
  · have := hi _ ht
    omega
  · have := hi _ ht
    omega
theorem nw_refl {σ : kx_S} : nw_ σ σ := ⟨fun _ _ _ => rfl, rfl, fun _ _ _ => rfl, rfl⟩
theorem nw_xe {σ τ : kx_S} (h : nw_ σ τ) (l i : Nat) : xe τ l i = xe σ l i := by
  have e1 : xr τ 17 l = xr σ 17 l := h.2.2.1 17 l (by decide)
  unfold xe
  rw [e1]
  split
  · show τ.2.2.2.2.2.2.2.1 _ _ = σ.2.2.2.2.2.2.2.1 _ _
    rw [h.2.2.2]
  · rfl
theorem nw_hf {g κ : Nat → Nat} {st na : Nat} {σ τ : kx_S} (F : fg_ σ τ) (h : nw_ σ τ) : hf_ nw_W g κ st na σ τ :=
  ⟨F, fun f a h1 _ _ _ => h.1 f a h1, fun l _ _ => ⟨h.1 18 l (by decide), fun i _ => nw_xe h l i⟩, fun a _ _ _ => by show τ.2.2.2.2.2.1 a = σ.2.2.2.2.2.1 a; rw [h.2.2.2], fun a => .inl (by show τ.1 a = σ.1 a; rw [h.2.1])⟩
section
variable {T : Nat → Nat → Nat} {N : Nat → Nat} {g κ : Nat → Nat} {st na nr nl nc no m : Nat} {day : Nat → Int32} {RL : Nat → List (Bool × List Int32)} {s : sz_T} {B n : Nat}
theorem qa_water {a : ra_T} {w : wt_T} {σ τ : kx_S} (H : qa_ T N g κ st na nr nl m day RL s B n a σ) (J : yJ_ s g κ B n τ) (F : fg_ σ τ) (h : nw_ σ τ) (e : ∀ r, r < nr → xi τ 169 (T 10 r) = w.2.2.2.1 r ∧ xi τ 170 (T 10 r) = w.2.2.2.2.1 r) : qa_ T N g κ st na nr nl m day RL s B n (aw_ a w) τ := by
  obtain ⟨J0, h0, h1, h2, h3, h4, h7, hj⟩ := H
  have Fh : hf_ nw_W g κ st na σ τ := nw_hf F h
  have kc : ∀ r, r < nr → κ (T 21 r) = 3 := fun r hr => (h0.2.2.1 r hr).1
  have el : ∀ r, ln_ (aw_ a w) r = ln_ a r := fun r => rfl
  have r2 : q2_ T nr a τ := q2_hf h2 h1 Fh kc (by decide)
  have r4 : q4_ T (g 2) nl a τ := q4_hf h4 Fh (yg2 J0).2.1 (by decide)
  refine ⟨J, h0, ⟨by rw [h.1 18 _ (by decide)]; exact h1.1, fun r hr => ?_⟩, r2, fun k hk => ?_, r4, q7_hf h7 Fh (yg3 J0).2.1 (yg3 J0).2.2 (by decide), qj_hf hj Fh⟩
  · obtain ⟨⟨a1, a2⟩, a3, ⟨a4, a5, a6, a7, a8⟩, a9, a10, a11, a12, a13, a14⟩ := h1.2 r hr
    have tk : ∀ x, xt τ x = xt σ x := fun x => by show τ.1 x = σ.1 x; rw [h.2.1]
    refine ⟨⟨by rw [nw_xe h]; exact a1, by rw [tk]; exact a2⟩, by rw [h.1 160 _ (by decide)]; exact a3, ⟨by rw [h.1 162 _ (by decide)]; exact a4, by rw [h.1 165 _ (by decide)]; exact a5, ?_, ?_, by rw [h.1 171 _ (by decide)]; exact a8⟩, by rw [h.2.2.1 161 _ (by decide)]; exact a9, ?_, by rw [h.2.2.1 163 _ (by decide)]; exact a11, by rw [tk]; exact a12, by rw [h.1 18 _ (by decide)]; exact a13, a14⟩
    · rw [aw_18]; exact (e r hr).1
    · rw [aw_19]; exact (e r hr).2
    · rw [h.2.2.1 172 _ (by decide), tk, h.2.2.1 32 _ (by decide), h.2.2.1 33 _ (by decide), h.1 34 _ (by decide), h.1 35 _ (by decide)]
      exact a10
  · obtain ⟨b1, b2, b3⟩ := h3 k hk
    exact ⟨by show τ.1 _ = 1; rw [h.2.1]; exact b1, by rw [h.1 18 _ (by decide)]; exact b2, fun i x hx => by rw [nw_xe h]; exact b3 i x hx⟩
/-- all of the class's river -/
def qF_ (T : Nat → Nat → Nat) (N g κ : Nat → Nat) (st na nr nl m : Nat) (day : Nat → Int32) (RL : Nat → List (Bool × List Int32)) (s : sz_T) (B n no nc : Nat) (a : ra_T) (w : wt_T) (σ : kx_S) : Prop := qo_ T N g κ st na nr nl m day RL s B n no a σ ∧ q5_ T N (g 4) nr nc a σ ∧ Yw_ nr w (g 0) σ
abbrev hr_W : List Nat := [50, 51, 65, 82, 83, 132, 133, 134, 135, 136, 146, 167, 169, 170, 217, 218, 220, 221]
theorem qo_by {W : List Nat} {a b : ra_T} {σ τ : kx_S} (H : qo_ T N g κ st na nr nl m day RL s B n no a σ) (Hb : qa_ T N g κ st na nr nl m day RL s B n b τ) (F : hf_ W g κ st na σ τ) (hW : ∀ f ∈ W, f ∉ [144, 145, 146]) (h218 : 218 ∉ W) (e : ∀ f, f ∈ [6, 22, 47, 48, 49, 50] → b.1 f = a.1 f) : qo_ T N g κ st na nr nl m day RL s B n no b τ := by
  obtain ⟨Ha, h6, hb, k22⟩ := H
  refine ⟨Hb, q6_hf h6 F (yg5 Ha.1).2.1 (yg5 Ha.1).2.2 k22 hW (e 22 (by decide)) (e 47 (by decide)) (e 48 (by decide)) (e 49 (by decide)) (e 50 (by decide)), ?_, fun r hr => ?_⟩
  · rw [e 6 (by decide), F.2.1 218 _ h218 (by decide) (by decide) (by rw [yg0 Ha.1]; decide)]; exact hb
  · rw [e 22 (by decide)]; exact k22 r hr
theorem q5_by {W : List Nat} {a b : ra_T} {σ τ : kx_S} (J : yJ_ s g κ B n σ) (h : q5_ T N (g 4) nr nc a σ) (F : hf_ W g κ st na σ τ) (hW : 65 ∉ W) (e : ∀ f, f ∈ [44, 45, 46] → b.1 f = a.1 f) : q5_ T N (g 4) nr nc b τ := q5_hf h F (yg4 J).2.1 (yg4 J).2.2 hW (e 44 (by decide)) (e 45 (by decide)) (e 46 (by decide))
theorem wq_hour {a : ra_T} {w : wt_T} {now : Int32} {σ : kx_S} {K : kx_S → Prop} (hB : B ≤ 3000) (hn : n ≤ 200) (h10 : nr ≤ 10) (hs : s.1.1.toInt = (nr : Int)) (hnow : s.1.2.2.2.2.2 = now) (A : aK_ nr nl nc now 0 a) (H : qF_ T N g κ st na nr nl m day RL s B n no nc a w σ)
    (kk : ∀ v, qF_ T N g κ st na nr nl m day RL s B n no nc (a_hour nr nc no now (w_hour nr s.2.1 s.2.2.1 s.2.2.2.1 w) a) (w_hour nr s.2.1 s.2.2.1 s.2.2.2.1 w) v → aK_ nr nl nc now nc (a_hour nr nc no now (w_hour nr s.2.1 s.2.2.1 s.2.2.2.1 w) a) → hf_ hr_W g κ st na σ v → K v) :
    wX11_runWater (g 0) σ (fun σ4 => xt σ4 (g 0) = 13 ∧ wX11_moveLogs (g 0) σ4 (fun σ6 => xt σ6 (g 0) = 13 ∧ wX11_jamCells (g 0) σ6 (fun σ8 => xt σ8 (g 0) = 13 ∧ wX11_freeJams (g 0) σ8 (fun σ10 => xt σ10 (g 0) = 13 ∧ wX11_makeJamsKnown (g 0) σ10 (fun σ12 => xt σ12 (g 0) = 13 ∧ wX11_ageLogs (g 0) σ12 (fun σ14 => xt σ14 (g 0) = 13 ∧ wX11_runMills (g 0) σ14 (fun σ16 => xt σ16 (g 0) = 13 ∧ K σ16))))))) := by
  obtain ⟨Ho, h5, V⟩ := H
  have J1 := Ho.1.1
  have ti : ∀ {τ : kx_S}, yJ_ s g κ B n τ → xt τ (g 0) ≠ 0 := fun J => by rw [yg0 J]; decide
  unfold a_hour at kk
  generalize hw : w_hour nr s.2.1 s.2.2.1 s.2.2.2.1 w = w' at kk
  -- water
  refine jcX11_runWater (Q := fun τ => yK_ s g κ B n σ τ ∧ Yw_ nr w' (g 0) τ) (Q' := nw_ σ) (fun τ1 K1 F1 => ⟨yg0 K1.1.1, ?_⟩) _ _ (jcX11_runWater (Q := fun τ => yK_ s g κ B n σ τ) (Q' := fun τ => Yw_ nr w' (g 0) τ) (fun _ p q => ⟨p, q⟩) _ _ (rx_runWater J1 (fun _ K => K)) (vw_water J1 hs V (fun _ z => by rw [hw] at z; exact z))) (jfX11_runWater nw_fw (fun _ h => h) _ _ nw_refl)
  obtain ⟨⟨Jw, Fw, _⟩, V1⟩ := K1
  have G1 : hf_ nw_W g κ st na σ τ1 := nw_hf Fw.1 F1
  have H1 : qa_ T N g κ st na nr nl m day RL s B n (aw_ a w') τ1 := by
    refine qa_water Ho.1 Jw Fw.1 F1 (fun r hr => ?_)
    obtain ⟨ad, y⟩ := V1
    obtain ⟨b1, b2, b3, b4, b5, b6⟩ := y.2.1 r hr
    have e1 := (yw_at Jw hs y hr).1
    have e2 := ((Ho.1.2.2.1.2 r hr).1).1
    rw [← nw_xe F1] at e2
    rw [show ad r = T 10 r from Option.some.inj (e1.symm.trans e2)] at b4 b5
    exact ⟨b4, b5⟩
  have O1 := qo_by Ho H1 G1 (by decide) (by decide) (fun f hf => aw_f (by intro e; rw [e] at hf; exact absurd hf (by decide)) (by intro e; rw [e] at hf; exact absurd hf (by decide)))
  have C1 := q5_by (b := aw_ a w') J1 h5 G1 (by decide) (fun f hf => aw_f (by intro e; rw [e] at hf; exact absurd hf (by decide)) (by intro e; rw [e] at hf; exact absurd hf (by decide)))
  have A1 : aK_ nr nl nc now 0 (aw_ a w') := aK_w A
  have E1 : hf_ hr_W g κ st na σ τ1 := hf_sub G1 (by decide)
  generalize aw_ a w' = a1 at *
  -- moves
  refine jcX11_moveLogs (Q := fun τ => qa_ T N g κ st na nr nl m day RL s B n (a_move nr 0 a1) τ ∧ hf_ wm_W g κ st na τ1 τ) (Q' := wf_ (g 0) τ1) (fun τ2 K2 F2 => ⟨yg0 K2.1.1, ?_⟩) _ _ (jcX11_moveLogs (Q := fun _ => True) (Q' := fun τ => qa_ T N g κ st na nr nl m day RL s B n (a_move nr 0 a1) τ ∧ hf_ wm_W g κ st na τ1 τ) (fun _ _ q => q) _ _ (rx_moveLogs H1.1 hB hn (fun _ _ _ => trivial)) (vq_move hB hn h10 A1.1.2.2 H1 A1.1.1 (fun _ p _ q => ⟨p, q⟩))) (jfX11_moveLogs (wf_fw (ti H1.1) (by decide)) (fun _ h => h) _ _ wf_refl)
  obtain ⟨H2, G2⟩ := K2
  have q2 : qs_ a1 (a_move nr 0 a1) := (p3_move h10 nr 0 a1 (by omega) A1.1).2.2
  have O2 := qo_by O1 H2 G2 (by decide) (by decide) (fun f hf => q2 f (by intro e; rw [e] at hf; exact absurd hf (by decide)) (by intro e; rw [e] at hf; exact absurd hf (by decide)) (by intro e; rw [e] at hf; exact absurd hf (by decide)))
  have C2 := q5_by (b := a_move nr 0 a1) H1.1 C1 G2 (by decide) (fun f hf => q2 f (by intro e; rw [e] at hf; exact absurd hf (by decide)) (by intro e; rw [e] at hf; exact absurd hf (by decide)) (by intro e; rw [e] at hf; exact absurd hf (by decide)))
  have A2 := aK_m h10 A1
  have E2 : hf_ hr_W g κ st na σ τ2 := hf_trans E1 (hf_sub G2 (by decide))
  have V2 := Yw_wf V1 F2
  clear q2 G2 F2 E1 V1 C1 O1 H1 A1 G1
  generalize a_move nr 0 a1 = a2 at *
  -- jams
  refine jcX11_jamCells (Q := fun τ => qa_ T N g κ st na nr nl m day RL s B n (a_jam nr a2) τ ∧ hn_ [50] τ2 τ) (Q' := wf_ (g 0) τ2) (fun τ3 K3 F3 => ⟨yg0 K3.1.1, ?_⟩) _ _ (jcX11_jamCells (Q := fun _ => True) (Q' := fun τ => qa_ T N g κ st na nr nl m day RL s B n (a_jam nr a2) τ ∧ hn_ [50] τ2 τ) (fun _ _ q => q) _ _ (rx_jamCells H2.1 (fun _ _ _ => trivial)) (vq_jam h10 H2 (fun _ p q => ⟨p, q⟩))) (jfX11_jamCells (wf_fw (ti H2.1) (by decide)) (fun _ h => h) _ _ wf_refl)
  obtain ⟨H3, N3⟩ := K3
  have G3 : hf_ [50] g κ st na τ2 τ3 := hn_hf N3 (by decide)
  have O3 := qo_by O2 H3 G3 (by decide) (by decide) (fun f hf => ff_n (by intro e; rw [e] at hf; exact absurd hf (by decide)))
  have C3 := q5_by (b := a_jam nr a2) H2.1 C2 G3 (by decide) (fun f hf => ff_n (by intro e; rw [e] at hf; exact absurd hf (by decide)))
  have A3 := aK_j A2
  have E3 : hf_ hr_W g κ st na σ τ3 := hf_trans E2 (hf_sub G3 (by decide))
  have V3 := Yw_wf V2 F3
  clear G3 N3 F3 E2 V2 C2 O2 H2 A2
  generalize a_jam nr a2 = a3 at *
  -- crews
  refine jcX11_freeJams (Q := fun τ => qa_ T N g κ st na nr nl m day RL s B n (a_free now nc 0 a3) τ ∧ q5_ T N (g 4) nr nc (a_free now nc 0 a3) τ ∧ hn_ fr_W τ3 τ) (Q' := wf_ (g 0) τ3) (fun τ4 K4 F4 => ⟨yg0 K4.1.1, ?_⟩) _ _ (jcX11_freeJams (Q := fun _ => True) (Q' := fun τ => qa_ T N g κ st na nr nl m day RL s B n (a_free now nc 0 a3) τ ∧ q5_ T N (g 4) nr nc (a_free now nc 0 a3) τ ∧ hn_ fr_W τ3 τ) (fun _ _ q => q) _ _ (rx_freeJams H3.1 (fun _ _ _ => trivial)) (vq_freeJams h10 hnow A3.2.2 H3 C3 (fun _ p q r => ⟨p, q, r⟩))) (jfX11_freeJams (wf_fw (ti H3.1) (by decide)) (fun _ h => h) _ _ wf_refl)
  obtain ⟨H4, C4, N4⟩ := K4
  have G4 : hf_ fr_W g κ st na τ3 τ4 := hn_hf N4 (by decide)
  have O4 := qo_by O3 H4 G4 (by decide) (by decide) (fun f hf => (a_free_c (now := now) nc 0 a3).1 f (by intro e; rw [e] at hf; exact absurd hf (by decide)) (by intro e; rw [e] at hf; exact absurd hf (by decide)) (by intro e; rw [e] at hf; exact absurd hf (by decide)))
  have A4 := aK_f A3
  have E4 : hf_ hr_W g κ st na σ τ4 := hf_trans E3 (hf_sub G4 (by decide))
  have V4 := Yw_wf V3 F4
  clear G4 N4 F4 E3 V3 C3 O3 H3 A3
  generalize a_free now nc 0 a3 = a4 at *
  -- what is seen
  refine jcX11_makeJamsKnown (Q := fun τ => qa_ T N g κ st na nr nl m day RL s B n (a_known nr nc a4) τ ∧ hn_ [51] τ4 τ) (Q' := wf_ (g 0) τ4) (fun τ5 K5 F5 => ⟨yg0 K5.1.1, ?_⟩) _ _ (jcX11_makeJamsKnown (Q := fun _ => True) (Q' := fun τ => qa_ T N g κ st na nr nl m day RL s B n (a_known nr nc a4) τ ∧ hn_ [51] τ4 τ) (fun _ _ q => q) _ _ (rx_makeJamsKnown H4.1 (fun _ _ _ => trivial)) (vq_known h10 H4 C4 (fun _ p q => ⟨p, q⟩))) (jfX11_makeJamsKnown (wf_fw (ti H4.1) (by decide)) (fun _ h => h) _ _ wf_refl)
  obtain ⟨H5, N5⟩ := K5
  have G5 : hf_ [51] g κ st na τ4 τ5 := hn_hf N5 (by decide)
  have O5 := qo_by O4 H5 G5 (by decide) (by decide) (fun f hf => ff_n (by intro e; rw [e] at hf; exact absurd hf (by decide)))
  have C5 := q5_by (b := a_known nr nc a4) H4.1 C4 G5 (by decide) (fun f hf => ff_n (by intro e; rw [e] at hf; exact absurd hf (by decide)))
  have A5 := aK_k (nc := nc) A4
  have E5 : hf_ hr_W g κ st na σ τ5 := hf_trans E4 (hf_sub G5 (by decide))
  have V5 := Yw_wf V4 F5
  clear G5 N5 F5 E4 V4 C4 O4 H4 A4
  generalize a_known nr nc a4 = a5 at *
  -- ageing
  refine jcX11_ageLogs (Q := fun τ => qa_ T N g κ st na nr nl m day RL s B n (a_age a5) τ ∧ hf_ ag_W g κ st na τ5 τ) (Q' := wf_ (g 0) τ5) (fun τ6 K6 F6 => ⟨yg0 K6.1.1, ?_⟩) _ _ (jcX11_ageLogs (Q := fun _ => True) (Q' := fun τ => qa_ T N g κ st na nr nl m day RL s B n (a_age a5) τ ∧ hf_ ag_W g κ st na τ5 τ) (fun _ _ q => q) _ _ (rx_ageLogs H5.1 (fun _ _ _ => trivial)) (vq_age h10 A5.1.1 A5.2.1 H5 (fun _ p q => ⟨p, q⟩))) (jfX11_ageLogs (wf_fw (ti H5.1) (by decide)) (fun _ h => h) _ _ wf_refl)
  obtain ⟨H6, G6⟩ := K6
  have ga : ∀ f, f ≠ 38 → f ≠ 41 → (a_age a5).1 f = a5.1 f := fun f h1 h2 => by
    first
    | exact ag_o h1 h2
    | exact ag_o h2 h1
  have O6 := qo_by O5 H6 G6 (by decide) (by decide) (fun f hf => ga f (by intro e; rw [e] at hf; exact absurd hf (by decide)) (by intro e; rw [e] at hf; exact absurd hf (by decide)))
  have C6 := q5_by (b := a_age a5) H5.1 C5 G6 (by decide) (fun f hf => ga f (by intro e; rw [e] at hf; exact absurd hf (by decide)) (by intro e; rw [e] at hf; exact absurd hf (by decide)))
  have A6 := aK_a A5
  have E6 : hf_ hr_W g κ st na σ τ6 := hf_trans E5 (hf_sub G6 (by decide))
  have V6 := Yw_wf V5 F6
  clear ga G6 F6 E5 V5 C5 O5 H5 A5
  generalize a_age a5 = a6 at *
  -- mills
  refine jcX11_runMills (Q := fun τ => qo_ T N g κ st na nr nl m day RL s B n no (a_mills no nr 0 a6) τ ∧ hf_ ml_W g κ st na τ6 τ) (Q' := wf_ (g 0) τ6) (fun τ7 K7 F7 => ⟨yg0 K7.1.1.1, ?_⟩) _ _ (jcX11_runMills (Q := fun _ => True) (Q' := fun τ => qo_ T N g κ st na nr nl m day RL s B n no (a_mills no nr 0 a6) τ ∧ hf_ ml_W g κ st na τ6 τ) (fun _ _ q => q) _ _ (rx_runMills H6.1 (fun _ _ _ => trivial)) (vq_mills h10 A6.1.1 O6 (fun _ _ p q => ⟨p, q⟩))) (jfX11_runMills (wf_fw (ti H6.1) (by decide)) (fun _ h => h) _ _ wf_refl)
  obtain ⟨O7, G7⟩ := K7
  have gm := (qm_mills (no := no) nr 0 a6).1
  have C7 := q5_by (b := a_mills no nr 0 a6) H6.1 C6 G7 (by decide) (fun f hf => gm f (by intro e; rw [e] at hf; exact absurd hf (by decide)) (by intro e; rw [e] at hf; exact absurd hf (by decide)) (by intro e; rw [e] at hf; exact absurd hf (by decide)) (by intro e; rw [e] at hf; exact absurd hf (by decide)))
  exact kk τ7 ⟨O7, C7, Yw_wf V6 F7⟩ (aK_s h10 A6) (hf_trans E6 (hf_sub G7 (by decide)))
theorem qF_217 {a : ra_T} {w : wt_T} {σ : kx_S} {v : Int32} (H : qF_ T N g κ st na nr nl m day RL s B n no nc a w σ) : qF_ T N g κ st na nr nl m day RL (zn_ s v) B n no nc a w (xsi σ 217 (g 0) v) := by
  obtain ⟨⟨⟨J, h0, h1, h2, h3, h4, h7, hj⟩, h6, hb, k22⟩, h5, V⟩ := H
  exact ⟨⟨⟨yI_217 J, h0, h1, h2, h3, h4, h7, hj⟩, h6, hb, k22⟩, h5, V⟩
theorem wF_hours {a : ra_T} {w : wt_T} {mi : Int32} {σ : kx_S} {Q : Int32 → kx_S → Prop} {QX : String → kx_S → Prop} (hB : B ≤ 3000) (hn : n ≤ 200) (h10 : nr ≤ 10) (hs : s.1.1.toInt = (nr : Int)) (A : aK_ nr nl nc s.1.2.2.2.2.2 0 a) (H : qF_ T N g κ st na nr nl m day RL s B n no nc a w σ)
    (kno : (mi < 0 ∨ 200 < mi ∨ ¬ (s.1.2.2.2.2.2 + mi ≤ 20000)) → QX pz_I (xbump σ))
    (kyes : ¬ (mi < 0 ∨ 200 < mi ∨ ¬ (s.1.2.2.2.2.2 + mi ≤ 20000)) → ∀ p v, p = ah_ nr nc no s.2.1 s.2.2.1 s.2.2.2.1 mi.toNatClampNeg (s.1.2.2.2.2.2, a, w) → p.1 = s.1.2.2.2.2.2 + mi → qF_ T N g κ st na nr nl m day RL (zn_ s p.1) B n no nc p.2.1 p.2.2 v → aK_ nr nl nc p.1 0 p.2.1 → hf_ hr_W g κ st na σ v → Q p.1 v) : wX11_hours (g 0) mi σ Q QX := by
  have J := H.1.1.1
  have room := ry_room J.1 hB hn
  have z200 : (200 : Int32).toInt = 200 := by decide
  have z20 : (20000 : Int32).toInt = 20000 := by decide
  have e6 : xi σ 217 (g 0) = s.1.2.2.2.2.2 := congrArg (fun p => p.2.2.2.2.2) J.2.2.2.2.1
  have no_ : (mi < 0 ∨ 200 < mi ∨ ¬ (s.1.2.2.2.2.2 + mi ≤ 20000)) → wX11_hours_23 Q QX σ := fun c => ⟨room, kno c⟩
  refine rx_within (fun c => ⟨fun _ => no_ ?_, fun x => absurd rfl x⟩) (fun c1 c2 => ⟨fun x => absurd x (by decide), fun _ => ⟨yg0 J, fun c => ⟨202, ?_⟩, fun c => no_ ?_⟩⟩)
  · rw [ki_z0, z200] at c
    rw [ki_lt, ki_z0, ki_lt, z200]
    omega
  · rw [ki_z0] at c1
    rw [z200] at c2
    rw [e6] at c
    have hno : ¬ (mi < 0 ∨ 200 < mi ∨ ¬ (s.1.2.2.2.2.2 + mi ≤ 20000)) := by
      rw [ki_lt, ki_z0, ki_lt, z200]
      intro h
      rcases h with h | h | h
      · omega
      · omega
      · exact h c
    have kyes := kyes hno
    clear kno no_ hno
    obtain ⟨mm, hm⟩ : ∃ mm : Nat, mi.toInt = (mm : Int) := ⟨mi.toInt.toNat, by omega⟩
    have em : mi.toNatClampNeg = mm := ki_toN hm
    rw [em] at kyes
    have hnow0 := A.2.2.1
    have c20 : s.1.2.2.2.2.2.toInt + mi.toInt ≤ 20000 := by
      rw [ki_le, z20, ki_add (by omega) (by omega)] at c
      exact c
    have loop : ∀ (j k : Nat) (i : Int32) (p : Int32 × ra_T × wt_T) (τ : kx_S), i.toInt + (k : Int) = mi.toInt → 0 ≤ i.toInt → k < j → p.1 = s.1.2.2.2.2.2 + i → ah_ nr nc no s.2.1 s.2.2.1 s.2.2.2.1 k p = ah_ nr nc no s.2.1 s.2.2.1 s.2.2.2.1 mm (s.1.2.2.2.2.2, a, w) → aK_ nr nl nc p.1 0 p.2.1 → qF_ T N g κ st na nr nl m day RL (zn_ s p.1) B n no nc p.2.1 p.2.2 τ → hf_ hr_W g κ st na σ τ → wX11_hours_35 (wX11_hours_84 Q QX) Q QX j (g 0) mi i τ := by
      intro j
      induction j with
      | zero => intro k i p τ _ _ h; omega
      | succ j ih =>
        intro k i p τ h1 h0 h2 h3 h4 A1 H1 F1
        have J1 := H1.1.1.1
        have e217 : xi τ 217 (g 0) = p.1 := congrArg (fun p => p.2.2.2.2.2) J1.2.2.2.2.1
        refine ⟨fun q => ?_, fun q => ⟨yg0 J1, ?_⟩⟩
        · rw [ki_le] at q
          have ek : k = 0 := by omega
          subst ek
          have en : i = mi := ki_eq.2 (by omega)
          refine ⟨yg0 J1, ?_⟩
          rw [e217]
          have h4 : p = _ := h4
          exact kyes p τ h4 (by rw [h3, en]) H1 A1 F1
        · rw [ki_le] at q
          obtain ⟨k, rfl⟩ : ∃ x, k = x + 1 := ⟨k - 1, by omega⟩
          obtain ⟨i', ei, ii⟩ := ki_incE (a := i) (by omega) (by omega)
          have hp : p.1.toInt = s.1.2.2.2.2.2.toInt + i.toInt := by rw [h3, ki_add (by omega) (by omega)]
          have hp1 : (p.1 + 1).toInt = p.1.toInt + 1 := by rw [ki_add (by rw [ki_z1]; omega) (by rw [ki_z1]; omega), ki_z1]
          refine wq_hour (s := zn_ s p.1) (now := p.1) hB hn h10 hs rfl A1 H1 (fun v Hv Av Fv => ?_)
          intro τ9 e9 v21 ev
          have e217' : xi v 217 (g 0) = p.1 := congrArg (fun p => p.2.2.2.2.2) Hv.1.1.1.2.2.2.2.1
          rw [ev, ← ei, e9, e217']
          refine ih k i' (p.1 + 1, a_hour nr nc no p.1 (w_hour nr s.2.1 s.2.2.1 s.2.2.2.1 p.2.2) p.2.1, w_hour nr s.2.1 s.2.2.1 s.2.2.2.1 p.2.2) _ (by omega) (by omega) (by omega) ?_ h4 (aK_next hp1 (by omega) Av) (qF_217 (s := zn_ s p.1) Hv) (hf_trans F1 (hf_si Fv (by decide) (by decide)))
          show p.1 + 1 = _
          rw [h3, ei, Int32.add_assoc]
    refine loop 202 mm 0 (s.1.2.2.2.2.2, a, w) σ (by rw [ki_z0]; omega) (by decide) (by omega) (by rw [Int32.add_zero]) rfl A ?_ hf_refl
    exact H
  · rw [e6] at c
    exact .inr (.inr c)
end
