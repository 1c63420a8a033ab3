section
/-! the river keeps its order through an hour -/
theorem aK_same {nr nl nc k0 : Nat} {now : Int32} {a b : ra_T} (A : aK_ nr nl nc now k0 a) (e : ∀ f, f ∈ [13, 14, 15, 22, 28, 38, 39, 40, 44, 45, 46] → b.1 f = a.1 f) (e2 : b.2 = a.2) : aK_ nr nl nc now k0 b := by
  obtain ⟨⟨A1, A2, A3⟩, A4, A5, A6⟩ := A
  refine ⟨⟨ao_same A1 (e 14 (by decide)) (e 15 (by decide)) (e 13 (by decide)) (e 38 (by decide)) (e 39 (by decide)) (e 40 (by decide)) e2, rsz_same A2 e2, ?_⟩, ?_, A5, ?_⟩
  · rw [e 22 (by decide), e 28 (by decide)]; exact A3
  · rw [e 38 (by decide)]; exact A4
  · rw [e 44 (by decide), e 45 (by decide), e 46 (by decide)]; exact A6
theorem aw_f {a : ra_T} {w : wt_T} {f : Nat} (h1 : f ≠ 18) (h2 : f ≠ 19) : (aw_ a w).1 f = a.1 f := (ff_n h2).trans (ff_n h1)
theorem aw_18 {a : ra_T} {w : wt_T} : (aw_ a w).1 18 = w.2.2.2.1 := (ff_n (by decide)).trans ff_s
theorem aw_19 {a : ra_T} {w : wt_T} : (aw_ a w).1 19 = w.2.2.2.2.1 := ff_s
theorem aK_w {nr nl nc k0 : Nat} {now : Int32} {a : ra_T} {w : wt_T} (A : aK_ nr nl nc now k0 a) : aK_ nr nl nc now k0 (aw_ a w) :=
  aK_same A (fun f hf => aw_f (by intro e; rw [e] at hf; exact absurd hf (by decide)) (by intro e; rw [e] at hf; exact absurd hf (by decide))) rfl
theorem aK_m {nr nl nc k0 : Nat} {now : Int32} {a : ra_T} (h10 : nr ≤ 10) (A : aK_ nr nl nc now k0 a) : aK_ nr nl nc now k0 (a_move nr 0 a) := by
  obtain ⟨A1, A4, A5, A6⟩ := A
  obtain ⟨i1, i2, i3⟩ := p3_move h10 nr 0 a (by omega) A1
  refine ⟨i2, fun x hx => ?_, A5, ?_⟩
  · rw [n38_move h10 hx nr 0 a (by omega) A1]; exact A4 x hx
  · rw [i3 44 (by decide) (by decide) (by decide), i3 45 (by decide) (by decide) (by decide), i3 46 (by decide) (by decide) (by decide)]
    exact A6
theorem aK_j {nr nl nc k0 : Nat} {now : Int32} {a : ra_T} (A : aK_ nr nl nc now k0 a) : aK_ nr nl nc now k0 (a_jam nr a) :=
  aK_same A (fun f hf => ff_n (by intro e; rw [e] at hf; exact absurd hf (by decide))) rfl
theorem aK_k {nr nl nc k0 : Nat} {now : Int32} {a : ra_T} (A : aK_ nr nl nc now k0 a) : aK_ nr nl nc now k0 (a_known nr nc a) :=
  aK_same A (fun f hf => ff_n (by intro e; rw [e] at hf; exact absurd hf (by decide))) rfl
theorem aK_f {nr nl nc : Nat} {now : Int32} {a : ra_T} (A : aK_ nr nl nc now 0 a) : aK_ nr nl nc now nc (a_free now nc 0 a) := by
  obtain ⟨⟨A1, A2, A3⟩, A4, A5⟩ := A
  obtain ⟨e1, e2⟩ := a_free_c (now := now) nc 0 a
  have e : ∀ f, f ∈ [13, 14, 15, 22, 28, 38, 39, 40] → (a_free now nc 0 a).1 f = a.1 f := fun f hf => e1 f (by intro e; rw [e] at hf; exact absurd hf (by decide)) (by intro e; rw [e] at hf; exact absurd hf (by decide)) (by intro e; rw [e] at hf; exact absurd hf (by decide))
  refine ⟨⟨ao_same A1 (e 14 (by decide)) (e 15 (by decide)) (e 13 (by decide)) (e 38 (by decide)) (e 39 (by decide)) (e 40 (by decide)) e2, rsz_same A2 e2, ?_⟩, ?_, co_free nc 0 a (by omega) A5⟩
  · rw [e 22 (by decide), e 28 (by decide)]; exact A3
  · rw [e 38 (by decide)]; exact A4
theorem aK_a {nr nl nc k0 : Nat} {now : Int32} {a : ra_T} (A : aK_ nr nl nc now k0 a) : aK_ nr nl nc now k0 (a_age a) := by
  obtain ⟨⟨A1, A2, A3⟩, A4, A5, A6⟩ := A
  have e : ∀ f, f ≠ 38 → f ≠ 41 → (a_age a).1 f = a.1 f := fun f h1 h2 => by
    first
    | exact ag_o h1 h2
    | exact ag_o h2 h1
  refine ⟨⟨ao_age A1, rsz_age A2, ?_⟩, fun x hx => ?_, A5, ?_⟩
  · rw [e 22 (by decide) (by decide), e 28 (by decide) (by decide)]; exact A3
  · by_cases hs : su_ a x
    · rw [show (a_age a).1 38 x = 5 from ag_38y trivial hs]
      decide
    · rw [show (a_age a).1 38 x = a.1 38 x from ag_38n (fun z => hs z.2)]
      exact A4 x hx
  · rw [e 44 (by decide) (by decide), e 45 (by decide) (by decide), e 46 (by decide) (by decide)]; exact A6
def am_ (nr nl : Nat) (a : ra_T) : Prop := ao_ nr nl a ∧ rsz_ a ∧ ∀ x, nl ≤ x → ¬ a.1 38 x = 1
theorem am_saw1 {a b : ra_T} {r o nr nl : Nat} (h10 : nr ≤ 10) (hr : r < nr) (A : am_ nr nl a) (h : a_saw1 a r o = some b) : am_ nr nl b := by
  unfold a_saw1 at h
  split at h
  · exact absurd h (by simp)
  · cases e : (a.2 (120 + r)).find? (mt_b a o) with
    | none => rw [e] at h; exact absurd h (by simp)
    | some x =>
      rw [e] at h
      have h : some (a_sawn a r o x) = some b := h
      rw [← Option.some.inj h]
      have hx := List.mem_of_find?_eq_some e
      refine ⟨ao_sawn A.1 hr h10 hx, ⟨fun j hj => ?_, fun q hq => ?_⟩, fun y hy => ?_⟩
      · rw [(qm_sawn (a := a) (r := r) (o := o) (x := x)).2 j hj]; exact A.2.1.1 j hj
      · show (if 120 + q = 120 + r then (a.2 (120 + r)).filter (fun z => decide (¬ z = x)) else a.2 (120 + q)).length ≤ 100
        split
        · exact Nat.le_trans (List.length_filter_le _ _) (A.2.1.2 r (by omega))
        · exact A.2.1.2 q hq
      · have ne : ¬ y = x := fun e => by have := (A.1.2.1 _ x hx).1; omega
        rw [show (a_sawn a r o x).1 38 y = a.1 38 y from w_updN ne]
        exact A.2.2 y hy
theorem am_saws {r o nr nl : Nat} (h10 : nr ≤ 10) (hr : r < nr) : ∀ (l : Nat) (a : ra_T), am_ nr nl a → am_ nr nl (a_saws r o l a).1 := by
  intro l
  induction l with
  | zero => intro a A; exact A
  | succ l ih =>
    intro a A
    unfold a_saws
    split
    · exact A
    · next b e => exact ih b (am_saw1 h10 hr A e)
theorem am_millL {r nr nl : Nat} (h10 : nr ≤ 10) (hr : r < nr) : ∀ (L : List Nat) (l : Nat) (a : ra_T), am_ nr nl a → am_ nr nl (a_millL r L l a) := by
  intro L
  induction L with
  | nil => intro l a A; exact A
  | cons o L ih => intro l a A; exact ih _ _ (am_saws h10 hr l a A)
theorem am_mills {nr nl no : Nat} (h10 : nr ≤ 10) : ∀ (k r : Nat) (a : ra_T), r + k = nr → am_ nr nl a → am_ nr nl (a_mills no k r a) := by
  intro k
  induction k with
  | zero => intro r a _ A; exact A
  | succ k ih => intro r a hk A; exact ih (r + 1) _ (by omega) (am_millL h10 (by omega) _ _ _ A)
theorem aK_s {nr nl nc no k0 : Nat} {now : Int32} {a : ra_T} (h10 : nr ≤ 10) (A : aK_ nr nl nc now k0 a) : aK_ nr nl nc now k0 (a_mills no nr 0 a) := by
  obtain ⟨⟨A1, A2, A3⟩, A4, A5, A6⟩ := A
  obtain ⟨i1, i2, i3⟩ := am_mills (no := no) h10 nr 0 a (by omega) ⟨A1, A2, A4⟩
  have e := (qm_mills (no := no) nr 0 a).1
  refine ⟨⟨i1, i2, ?_⟩, i3, A5, ?_⟩
  · rw [e 22 (by decide) (by decide) (by decide) (by decide), e 28 (by decide) (by decide) (by decide) (by decide)]; exact A3
  · rw [e 44 (by decide) (by decide) (by decide) (by decide), e 45 (by decide) (by decide) (by decide) (by decide), e 46 (by decide) (by decide) (by decide) (by decide)]; exact A6
theorem aK_next {nr nl nc : Nat} {now nx : Int32} {a : ra_T} (hx : nx.toInt = now.toInt + 1) (h2 : now.toInt + 1 ≤ 20000) (A : aK_ nr nl nc now nc a) : aK_ nr nl nc nx 0 a := by
  obtain ⟨A1, A4, A5, A6⟩ := A
  refine ⟨A1, A4, ⟨by omega, by omega⟩, fun k hk => ?_⟩
  obtain ⟨b1, b2, b3, b4⟩ := A6 k hk
  exact ⟨b1, ⟨b2.1, by omega⟩, ⟨b3.1, by omega⟩, fun _ => by omega⟩
/-- many hours: the hour, the river, the water -/
noncomputable def ah_ (nr nc no : Nat) (dm gt ml : Nat → Int32) : Nat → Int32 × ra_T × wt_T → Int32 × ra_T × wt_T
  | 0, p => p
  | k + 1, p => ah_ nr nc no dm gt ml k (p.1 + 1, a_hour nr nc no p.1 (w_hour nr dm gt ml p.2.2) p.2.1, w_hour nr dm gt ml p.2.2)
/-! the class: an hour -/
abbrev nw_W : List Nat := [167, 169, 170, 220, 221]
/-- nothing but water changed -/
def nw_ (σ τ : kx_S) : Prop := (∀ f a, f ∉ nw_W → xi τ f a = xi σ f a) ∧ τ.1 = σ.1 ∧ (∀ f a, f ∉ nw_W → xr τ f a = xr σ f a) ∧ τ.2.2.2.2 = σ.2.2.2.2
theorem nw_fw {σ : kx_S} : fw_ (nw_ σ) nw_W := by
  intro u h
  have hi : ∀ x ∈ nw_W, x ≤ 221 := by decide
  refine ⟨fun f hf => ⟨fun a v => ⟨fun e b he => ?_, h.2.1, h.2.2.1, h.2.2.2⟩, fun a v => ⟨h.1, h.2.1, fun e b he => ?_, h.2.2.2⟩, fun a v => h⟩, fun q => absurd q (by decide), fun q => absurd q (by decide), fun q => absurd q (by decide), fun q => absurd q (by decide), fun q => absurd q (by decide), fun t ht => ?_, fun t ht => ?_⟩
  · refine Eq.trans ?_ (h.1 e b he)
    show (if e = f then va_up (u.2.1 f) a v else u.2.1 e) b = u.2.1 e b
    rw [if_neg (fun q => he (by rw [q]; exact hf))]
  · refine Eq.trans ?_ (h.2.2.1 e b he)
    show (if e = f then va_up (u.2.2.1 f) a v else u.2.2.1 e) b = u.2.2.1 e b
    rw [if_neg (fun q => he (by rw [q]; exact hf))]
  · have := hi _ ht
    omega
  · have := hi _ ht
    omega
theorem nw_refl {σ : kx_S} : nw_ σ σ := ⟨fun _ _ _ => rfl, rfl, fun _ _ _ => rfl, rfl⟩
theorem nw_xe {σ τ : kx_S} (h : nw_ σ τ) (l i : Nat) : xe τ l i = xe σ l i := by
  have e1 : xr τ 17 l = xr σ 17 l := h.2.2.1 17 l (by decide)
  unfold xe
  rw [e1]
  split
  · show τ.2.2.2.2.2.2.2.1 _ _ = σ.2.2.2.2.2.2.2.1 _ _
    rw [h.2.2.2]
  · rfl
theorem nw_hf {g κ : Nat → Nat} {st na : Nat} {σ τ : kx_S} (F : fg_ σ τ) (h : nw_ σ τ) : hf_ nw_W g κ st na σ τ :=
  ⟨F, fun f a h1 _ _ _ => h.1 f a h1, fun l _ _ => ⟨h.1 18 l (by decide), fun i _ => nw_xe h l i⟩, fun a _ _ _ => by show τ.2.2.2.2.2.1 a = σ.2.2.2.2.2.1 a; rw [h.2.2.2], fun a => .inl (by show τ.1 a = σ.1 a; rw [h.2.1])⟩
section
variable {T : Nat → Nat → Nat} {N : Nat → Nat} {g κ : Nat → Nat} {st na nr nl nc no m : Nat} {day : Nat → Int32} {RL : Nat → List (Bool × List Int32)} {s : sz_T} {B n : Nat}
theorem qa_water {a : ra_T} {w : wt_T} {σ τ : kx_S} (H : qa_ T N g κ st na nr nl m day RL s B n a σ) (J : yJ_ s g κ B n τ) (F : fg_ σ τ) (h : nw_ σ τ) (e : ∀ r, r < nr → xi τ 169 (T 10 r) = w.2.2.2.1 r ∧ xi τ 170 (T 10 r) = w.2.2.2.2.1 r) : qa_ T N g κ st na nr nl m day RL s B n (aw_ a w) τ := by
  obtain ⟨J0, h0, h1, h2, h3, h4, h7, hj⟩ := H
  have Fh : hf_ nw_W g κ st na σ τ := nw_hf F h
  have kc : ∀ r, r < nr → κ (T 21 r) = 3 := fun r hr => (h0.2.2.1 r hr).1
  have el : ∀ r, ln_ (aw_ a w) r = ln_ a r := fun r => rfl
  have r2 : q2_ T nr a τ := q2_hf h2 h1 Fh kc (by decide)
  have r4 : q4_ T (g 2) nl a τ := q4_hf h4 Fh (yg2 J0).2.1 (by decide)
  refine ⟨J, h0, ⟨by rw [h.1 18 _ (by decide)]; exact h1.1, fun r hr => ?_⟩, r2, fun k hk => ?_, r4, q7_hf h7 Fh (yg3 J0).2.1 (yg3 J0).2.2 (by decide), qj_hf hj Fh⟩
  · obtain ⟨⟨a1, a2⟩, a3, ⟨a4, a5, a6, a7, a8⟩, a9, a10, a11, a12, a13, a14⟩ := h1.2 r hr
    have tk : ∀ x, xt τ x = xt σ x := fun x => by show τ.1 x = σ.1 x; rw [h.2.1]
    refine ⟨⟨by rw [nw_xe h]; exact a1, by rw [tk]; exact a2⟩, by rw [h.1 160 _ (by decide)]; exact a3, ⟨by rw [h.1 162 _ (by decide)]; exact a4, by rw [h.1 165 _ (by decide)]; exact a5, ?_, ?_, by rw [h.1 171 _ (by decide)]; exact a8⟩, by rw [h.2.2.1 161 _ (by decide)]; exact a9, ?_, by rw [h.2.2.1 163 _ (by decide)]; exact a11, by rw [tk]; exact a12, by rw [h.1 18 _ (by decide)]; exact a13, a14⟩
    · rw [aw_18]; exact (e r hr).1
    · rw [aw_19]; exact (e r hr).2
    · rw [h.2.2.1 172 _ (by decide), tk, h.2.2.1 32 _ (by decide), h.2.2.1 33 _ (by decide), h.1 34 _ (by decide), h.1 35 _ (by decide)]
      exact a10
  · obtain ⟨b1, b2, b3⟩ := h3 k hk
    exact ⟨by show τ.1 _ = 1; rw [h.2.1]; exact b1, by rw [h.1 18 _ (by decide)]; exact b2, fun i x hx => by rw [nw_xe h]; exact b3 i x hx⟩
/-- all of the class's river -/
def qF_ (T : Nat → Nat → Nat) (N g κ : Nat → Nat) (st na nr nl m : Nat) (day : Nat → Int32) (RL : Nat → List (Bool × List Int32)) (s : sz_T) (B n no nc : Nat) (a : ra_T) (w : wt_T) (σ : kx_S) : Prop := qo_ T N g κ st na nr nl m day RL s B n no a σ ∧ q5_ T N (g 4) nr nc a σ ∧ Yw_ nr w (g 0) σ
abbrev hr_W : List Nat := [50, 51, 65, 82, 83, 132, 133, 134, 135, 136, 146, 167, 169, 170, 217, 218, 220, 221]
theorem qo_by {W : List Nat} {a b : ra_T} {σ τ : kx_S} (H : qo_ T N g κ st na nr nl m day RL s B n no a σ) (Hb : qa_ T N g κ st na nr nl m day RL s B n b τ) (F : hf_ W g κ st na σ τ) (hW : ∀ f ∈ W, f ∉ [144, 145, 146]) (h218 : 218 ∉ W) (e : ∀ f, f ∈ [6, 22, 47, 48, 49, 50] → b.1 f = a.1 f) : qo_ T N g κ st na nr nl m day RL s B n no b τ := by
  obtain ⟨Ha, h6, hb, k22⟩ := H
  refine ⟨Hb, q6_hf h6 F (yg5 Ha.1).2.1 (yg5 Ha.1).2.2 k22 hW (e 22 (by decide)) (e 47 (by decide)) (e 48 (by decide)) (e 49 (by decide)) (e 50 (by decide)), ?_, fun r hr => ?_⟩
  · rw [e 6 (by decide), F.2.1 218 _ h218 (by decide) (by decide) (by rw [yg0 Ha.1]; decide)]; exact hb
  · rw [e 22 (by decide)]; exact k22 r hr
theorem q5_by {W : List Nat} {a b : ra_T} {σ τ : kx_S} (J : yJ_ s g κ B n σ) (h : q5_ T N (g 4) nr nc a σ) (F : hf_ W g κ st na σ τ) (hW : 65 ∉ W) (e : ∀ f, f ∈ [44, 45, 46] → b.1 f = a.1 f) : q5_ T N (g 4) nr nc b τ := q5_hf h F (yg4 J).2.1 (yg4 J).2.2 hW (e 44 (by decide)) (e 45 (by decide)) (e 46 (by decide))
theorem wq_hour {a : ra_T} {w : wt_T} {now : Int32} {σ : kx_S} {K : kx_S → Prop} (hB : B ≤ 3000) (hn : n ≤ 200) (h10 : nr ≤ 10) (hs : s.1.1.toInt = (nr : Int)) (hnow : s.1.2.2.2.2.2 = now) (A : aK_ nr nl nc now 0 a) (H : qF_ T N g κ st na nr nl m day RL s B n no nc a w σ)
    (kk : ∀ v, qF_ T N g κ st na nr nl m day RL s B n no nc (a_hour nr nc no now (w_hour nr s.2.1 s.2.2.1 s.2.2.2.1 w) a) (w_hour nr s.2.1 s.2.2.1 s.2.2.2.1 w) v → aK_ nr nl nc now nc (a_hour nr nc no now (w_hour nr s.2.1 s.2.2.1 s.2.2.2.1 w) a) → hf_ hr_W g κ st na σ v → K v) :
    wX11_runWater (g 0) σ (fun σ4 => xt σ4 (g 0) = 13 ∧ wX11_moveLogs (g 0) σ4 (fun σ6 => xt σ6 (g 0) = 13 ∧ wX11_jamCells (g 0) σ6 (fun σ8 => xt σ8 (g 0) = 13 ∧ wX11_freeJams (g 0) σ8 (fun σ10 => xt σ10 (g 0) = 13 ∧ wX11_makeJamsKnown (g 0) σ10 (fun σ12 => xt σ12 (g 0) = 13 ∧ wX11_ageLogs (g 0) σ12 (fun σ14 => xt σ14 (g 0) = 13 ∧ wX11_runMills (g 0) σ14 (fun σ16 => xt σ16 (g 0) = 13 ∧ K σ16))))))) := by
  obtain ⟨Ho, h5, V⟩ := H
  have J1 := Ho.1.1
  have ti : ∀ {τ : kx_S}, yJ_ s g κ B n τ → xt τ (g 0) ≠ 0 := fun J => by rw [yg0 J]; decide
  unfold a_hour at kk
  generalize hw : w_hour nr s.2.1 s.2.2.1 s.2.2.2.1 w = w' at kk
  -- water
  refine jcX11_runWater (Q := fun τ => yK_ s g κ B n σ τ ∧ Yw_ nr w' (g 0) τ) (Q' := nw_ σ) (fun τ1 K1 F1 => ⟨yg0 K1.1.1, ?_⟩) _ _ (jcX11_runWater (Q := fun τ => yK_ s g κ B n σ τ) (Q' := fun τ => Yw_ nr w' (g 0) τ) (fun _ p q => ⟨p, q⟩) _ _ (rx_runWater J1 (fun _ K => K)) (vw_water J1 hs V (fun _ z => by rw [hw] at z; exact z))) (jfX11_runWater nw_fw (fun _ h => h) _ _ nw_refl)
  obtain ⟨⟨Jw, Fw, _⟩, V1⟩ := K1
  have G1 : hf_ nw_W g κ st na σ τ1 := nw_hf Fw.1 F1
  have H1 : qa_ T N g κ st na nr nl m day RL s B n (aw_ a w') τ1 := by
    refine qa_water Ho.1 Jw Fw.1 F1 (fun r hr => ?_)
    obtain ⟨ad, y⟩ := V1
    obtain ⟨b1, b2, b3, b4, b5, b6⟩ := y.2.1 r hr
    have e1 := (yw_at Jw hs y hr).1
    have e2 := ((Ho.1.2.2.1.2 r hr).1).1
    rw [← nw_xe F1] at e2
    rw [show ad r = T 10 r from Option.some.inj (e1.symm.trans e2)] at b4 b5
    exact ⟨b4, b5⟩
  have O1 := qo_by Ho H1 G1 (by decide) (by decide) (fun f hf => aw_f (by intro e; rw [e] at hf; exact absurd hf (by decide)) (by intro e; rw [e] at hf; exact absurd hf (by decide)))
  have C1 := q5_by (b := aw_ a w') J1 h5 G1 (by decide) (fun f hf => aw_f (by intro e; rw [e] at hf; exact absurd hf (by decide)) (by intro e; rw [e] at hf; exact absurd hf (by decide)))
  have A1 : aK_ nr nl nc now 0 (aw_ a w') := aK_w A
  have E1 : hf_ hr_W g κ st na σ τ1 := hf_sub G1 (by decide)
  generalize aw_ a w' = a1 at *
  -- moves
  refine jcX11_moveLogs (Q := fun τ => qa_ T N g κ st na nr nl m day RL s B n (a_move nr 0 a1) τ ∧ hf_ wm_W g κ st na τ1 τ) (Q' := wf_ (g 0) τ1) (fun τ2 K2 F2 => ⟨yg0 K2.1.1, ?_⟩) _ _ (jcX11_moveLogs (Q := fun _ => True) (Q' := fun τ => qa_ T N g κ st na nr nl m day RL s B n (a_move nr 0 a1) τ ∧ hf_ wm_W g κ st na τ1 τ) (fun _ _ q => q) _ _ (rx_moveLogs H1.1 hB hn (fun _ _ _ => trivial)) (vq_move hB hn h10 A1.1.2.2 H1 A1.1.1 (fun _ p _ q => ⟨p, q⟩))) (jfX11_moveLogs (wf_fw (ti H1.1) (by decide)) (fun _ h => h) _ _ wf_refl)
  obtain ⟨H2, G2⟩ := K2
  have q2 : qs_ a1 (a_move nr 0 a1) := (p3_move h10 nr 0 a1 (by omega) A1.1).2.2
  have O2 := qo_by O1 H2 G2 (by decide) (by decide) (fun f hf => q2 f (by intro e; rw [e] at hf; exact absurd hf (by decide)) (by intro e; rw [e] at hf; exact absurd hf (by decide)) (by intro e; rw [e] at hf; exact absurd hf (by decide)))
  have C2 := q5_by (b := a_move nr 0 a1) H1.1 C1 G2 (by decide) (fun f hf => q2 f (by intro e; rw [e] at hf; exact absurd hf (by decide)) (by intro e; rw [e] at hf; exact absurd hf (by decide)) (by intro e; rw [e] at hf; exact absurd hf (by decide)))
  have A2 := aK_m h10 A1
  have E2 : hf_ hr_W g κ st na σ τ2 := hf_trans E1 (hf_sub G2 (by decide))
  have V2 := Yw_wf V1 F2
  clear q2 G2 F2 E1 V1 C1 O1 H1 A1 G1
  generalize a_move nr 0 a1 = a2 at *
  -- jams
  refine jcX11_jamCells (Q := fun τ => qa_ T N g κ st na nr nl m day RL s B n (a_jam nr a2) τ ∧ hn_ [50] τ2 τ) (Q' := wf_ (g 0) τ2) (fun τ3 K3 F3 => ⟨yg0 K3.1.1, ?_⟩) _ _ (jcX11_jamCells (Q := fun _ => True) (Q' := fun τ => qa_ T N g κ st na nr nl m day RL s B n (a_jam nr a2) τ ∧ hn_ [50] τ2 τ) (fun _ _ q => q) _ _ (rx_jamCells H2.1 (fun _ _ _ => trivial)) (vq_jam h10 H2 (fun _ p q => ⟨p, q⟩))) (jfX11_jamCells (wf_fw (ti H2.1) (by decide)) (fun _ h => h) _ _ wf_refl)
  obtain ⟨H3, N3⟩ := K3
  have G3 : hf_ [50] g κ st na τ2 τ3 := hn_hf N3 (by decide)
  have O3 := qo_by O2 H3 G3 (by decide) (by decide) (fun f hf => ff_n (by intro e; rw [e] at hf; exact absurd hf (by decide)))
  have C3 := q5_by (b := a_jam nr a2) H2.1 C2 G3 (by decide) (fun f hf => ff_n (by intro e; rw [e] at hf; exact absurd hf (by decide)))
  have A3 := aK_j A2
  have E3 : hf_ hr_W g κ st na σ τ3 := hf_trans E2 (hf_sub G3 (by decide))
  have V3 := Yw_wf V2 F3
  clear G3 N3 F3 E2 V2 C2 O2 H2 A2
  generalize a_jam nr a2 = a3 at *
  -- crews
  refine jcX11_freeJams (Q := fun τ => qa_ T N g κ st na nr nl m day RL s B n (a_free now nc 0 a3) τ ∧ q5_ T N (g 4) nr nc (a_free now nc 0 a3) τ ∧ hn_ fr_W τ3 τ) (Q' := wf_ (g 0) τ3) (fun τ4 K4 F4 => ⟨yg0 K4.1.1, ?_⟩) _ _ (jcX11_freeJams (Q := fun _ => True) (Q' := fun τ => qa_ T N g κ st na nr nl m day RL s B n (a_free now nc 0 a3) τ ∧ q5_ T N (g 4) nr nc (a_free now nc 0 a3) τ ∧ hn_ fr_W τ3 τ) (fun _ _ q => q) _ _ (rx_freeJams H3.1 (fun _ _ _ => trivial)) (vq_freeJams h10 hnow A3.2.2 H3 C3 (fun _ p q r => ⟨p, q, r⟩))) (jfX11_freeJams (wf_fw (ti H3.1) (by decide)) (fun _ h => h) _ _ wf_refl)
  obtain ⟨H4, C4, N4⟩ := K4
  have G4 : hf_ fr_W g κ st na τ3 τ4 := hn_hf N4 (by decide)
  have O4 := qo_by O3 H4 G4 (by decide) (by decide) (fun f hf => (a_free_c (now := now) nc 0 a3).1 f (by intro e; rw [e] at hf; exact absurd hf (by decide)) (by intro e; rw [e] at hf; exact absurd hf (by decide)) (by intro e; rw [e] at hf; exact absurd hf (by decide)))
  have A4 := aK_f A3
  have E4 : hf_ hr_W g κ st na σ τ4 := hf_trans E3 (hf_sub G4 (by decide))
  have V4 := Yw_wf V3 F4
  clear G4 N4 F4 E3 V3 C3 O3 H3 A3
  generalize a_free now nc 0 a3 = a4 at *
  -- what is seen
  refine jcX11_makeJamsKnown (Q := fun τ => qa_ T N g κ st na nr nl m day RL s B n (a_known nr nc a4) τ ∧ hn_ [51] τ4 τ) (Q' := wf_ (g 0) τ4) (fun τ5 K5 F5 => ⟨yg0 K5.1.1, ?_⟩) _ _ (jcX11_makeJamsKnown (Q := fun _ => True) (Q' := fun τ => qa_ T N g κ st na nr nl m day RL s B n (a_known nr nc a4) τ ∧ hn_ [51] τ4 τ) (fun _ _ q => q) _ _ (rx_makeJamsKnown H4.1 (fun _ _ _ => trivial)) (vq_known h10 H4 C4 (fun _ p q => ⟨p, q⟩))) (jfX11_makeJamsKnown (wf_fw (ti H4.1) (by decide)) (fun _ h => h) _ _ wf_refl)
  obtain ⟨H5, N5⟩ := K5
  have G5 : hf_ [51] g κ st na τ4 τ5 := hn_hf N5 (by decide)
  have O5 := qo_by O4 H5 G5 (by decide) (by decide) (fun f hf => ff_n (by intro e; rw [e] at hf; exact absurd hf (by decide)))
  have C5 := q5_by (b := a_known nr nc a4) H4.1 C4 G5 (by decide) (fun f hf => ff_n (by intro e; rw [e] at hf; exact absurd hf (by decide)))
  have A5 := aK_k (nc := nc) A4
  have E5 : hf_ hr_W g κ st na σ τ5 := hf_trans E4 (hf_sub G5 (by decide))
  have V5 := Yw_wf V4 F5
  clear G5 N5 F5 E4 V4 C4 O4 H4 A4
  generalize a_known nr nc a4 = a5 at *
  -- ageing
  refine jcX11_ageLogs (Q := fun τ => qa_ T N g κ st na nr nl m day RL s B n (a_age a5) τ ∧ hf_ ag_W g κ st na τ5 τ) (Q' := wf_ (g 0) τ5) (fun τ6 K6 F6 => ⟨yg0 K6.1.1, ?_⟩) _ _ (jcX11_ageLogs (Q := fun _ => True) (Q' := fun τ => qa_ T N g κ st na nr nl m day RL s B n (a_age a5) τ ∧ hf_ ag_W g κ st na τ5 τ) (fun _ _ q => q) _ _ (rx_ageLogs H5.1 (fun _ _ _ => trivial)) (vq_age h10 A5.1.1 A5.2.1 H5 (fun _ p q => ⟨p, q⟩))) (jfX11_ageLogs (wf_fw (ti H5.1) (by decide)) (fun _ h => h) _ _ wf_refl)
  obtain ⟨H6, G6⟩ := K6
  have ga : ∀ f, f ≠ 38 → f ≠ 41 → (a_age a5).1 f = a5.1 f := fun f h1 h2 => by
    first
    | exact ag_o h1 h2
    | exact ag_o h2 h1
  have O6 := qo_by O5 H6 G6 (by decide) (by decide) (fun f hf => ga f (by intro e; rw [e] at hf; exact absurd hf (by decide)) (by intro e; rw [e] at hf; exact absurd hf (by decide)))
  have C6 := q5_by (b := a_age a5) H5.1 C5 G6 (by decide) (fun f hf => ga f (by intro e; rw [e] at hf; exact absurd hf (by decide)) (by intro e; rw [e] at hf; exact absurd hf (by decide)))
  have A6 := aK_a A5
  have E6 : hf_ hr_W g κ st na σ τ6 := hf_trans E5 (hf_sub G6 (by decide))
  have V6 := Yw_wf V5 F6
  clear ga G6 F6 E5 V5 C5 O5 H5 A5
  generalize a_age a5 = a6 at *
  -- mills
  refine jcX11_runMills (Q := fun τ => qo_ T N g κ st na nr nl m day RL s B n no (a_mills no nr 0 a6) τ ∧ hf_ ml_W g κ st na τ6 τ) (Q' := wf_ (g 0) τ6) (fun τ7 K7 F7 => ⟨yg0 K7.1.1.1, ?_⟩) _ _ (jcX11_runMills (Q := fun _ => True) (Q' := fun τ => qo_ T N g κ st na nr nl m day RL s B n no (a_mills no nr 0 a6) τ ∧ hf_ ml_W g κ st na τ6 τ) (fun _ _ q => q) _ _ (rx_runMills H6.1 (fun _ _ _ => trivial)) (vq_mills h10 A6.1.1 O6 (fun _ _ p q => ⟨p, q⟩))) (jfX11_runMills (wf_fw (ti H6.1) (by decide)) (fun _ h => h) _ _ wf_refl)
  obtain ⟨O7, G7⟩ := K7
  have gm := (qm_mills (no := no) nr 0 a6).1
  have C7 := q5_by (b := a_mills no nr 0 a6) H6.1 C6 G7 (by decide) (fun f hf => gm f (by intro e; rw [e] at hf; exact absurd hf (by decide)) (by intro e; rw [e] at hf; exact absurd hf (by decide)) (by intro e; rw [e] at hf; exact absurd hf (by decide)) (by intro e; rw [e] at hf; exact absurd hf (by decide)))
  exact kk τ7 ⟨O7, C7, Yw_wf V6 F7⟩ (aK_s h10 A6) (hf_trans E6 (hf_sub G7 (by decide)))
theorem qF_217 {a : ra_T} {w : wt_T} {σ : kx_S} {v : Int32} (H : qF_ T N g κ st na nr nl m day RL s B n no nc a w σ) : qF_ T N g κ st na nr nl m day RL (zn_ s v) B n no nc a w (xsi σ 217 (g 0) v) := by
  obtain ⟨⟨⟨J, h0, h1, h2, h3, h4, h7, hj⟩, h6, hb, k22⟩, h5, V⟩ := H
  exact ⟨⟨⟨yI_217 J, h0, h1, h2, h3, h4, h7, hj⟩, h6, hb, k22⟩, h5, V⟩
theorem wF_hours {a : ra_T} {w : wt_T} {mi : Int32} {σ : kx_S} {Q : Int32 → kx_S → Prop} {QX : String → kx_S → Prop} (hB : B ≤ 3000) (hn : n ≤ 200) (h10 : nr ≤ 10) (hs : s.1.1.toInt = (nr : Int)) (A : aK_ nr nl nc s.1.2.2.2.2.2 0 a) (H : qF_ T N g κ st na nr nl m day RL s B n no nc a w σ)
    (kno : (mi < 0 ∨ 200 < mi ∨ ¬ (s.1.2.2.2.2.2 + mi ≤ 20000)) → QX pz_I (xbump σ))
    (kyes : ¬ (mi < 0 ∨ 200 < mi ∨ ¬ (s.1.2.2.2.2.2 + mi ≤ 20000)) → ∀ p v, p = ah_ nr nc no s.2.1 s.2.2.1 s.2.2.2.1 mi.toNatClampNeg (s.1.2.2.2.2.2, a, w) → p.1 = s.1.2.2.2.2.2 + mi → qF_ T N g κ st na nr nl m day RL (zn_ s p.1) B n no nc p.2.1 p.2.2 v → aK_ nr nl nc p.1 0 p.2.1 → hf_ hr_W g κ st na σ v → Q p.1 v) : wX11_hours (g 0) mi σ Q QX := by
  have J := H.1.1.1
  have room := ry_room J.1 hB hn
  have z200 : (200 : Int32).toInt = 200 := by decide
  have z20 : (20000 : Int32).toInt = 20000 := by decide
  have e6 : xi σ 217 (g 0) = s.1.2.2.2.2.2 := congrArg (fun p => p.2.2.2.2.2) J.2.2.2.2.1
  have no_ : (mi < 0 ∨ 200 < mi ∨ ¬ (s.1.2.2.2.2.2 + mi ≤ 20000)) → wX11_hours_23 Q QX σ := fun c => ⟨room, kno c⟩
  refine rx_within (fun c => ⟨fun _ => no_ ?_, fun x => absurd rfl x⟩) (fun c1 c2 => ⟨fun x => absurd x (by decide), fun _ => ⟨yg0 J, fun c => ⟨202, ?_⟩, fun c => no_ ?_⟩⟩)
  · rw [ki_z0, z200] at c
    rw [ki_lt, ki_z0, ki_lt, z200]
    omega
  · rw [ki_z0] at c1
    rw [z200] at c2
    rw [e6] at c
    have hno : ¬ (mi < 0 ∨ 200 < mi ∨ ¬ (s.1.2.2.2.2.2 + mi ≤ 20000)) := by
      rw [ki_lt, ki_z0, ki_lt, z200]
      intro h
      rcases h with h | h | h
      · omega
      · omega
      · exact h c
    have kyes := kyes hno
    clear kno no_ hno
    obtain ⟨mm, hm⟩ : ∃ mm : Nat, mi.toInt = (mm : Int) := ⟨mi.toInt.toNat, by omega⟩
    have em : mi.toNatClampNeg = mm := ki_toN hm
    rw [em] at kyes
    have hnow0 := A.2.2.1
    have c20 : s.1.2.2.2.2.2.toInt + mi.toInt ≤ 20000 := by
      rw [ki_le, z20, ki_add (by omega) (by omega)] at c
      exact c
    have loop : ∀ (j k : Nat) (i : Int32) (p : Int32 × ra_T × wt_T) (τ : kx_S), i.toInt + (k : Int) = mi.toInt → 0 ≤ i.toInt → k < j → p.1 = s.1.2.2.2.2.2 + i → ah_ nr nc no s.2.1 s.2.2.1 s.2.2.2.1 k p = ah_ nr nc no s.2.1 s.2.2.1 s.2.2.2.1 mm (s.1.2.2.2.2.2, a, w) → aK_ nr nl nc p.1 0 p.2.1 → qF_ T N g κ st na nr nl m day RL (zn_ s p.1) B n no nc p.2.1 p.2.2 τ → hf_ hr_W g κ st na σ τ → wX11_hours_35 (wX11_hours_84 Q QX) Q QX j (g 0) mi i τ := by
      intro j
      induction j with
      | zero => intro k i p τ _ _ h; omega
      | succ j ih =>
        intro k i p τ h1 h0 h2 h3 h4 A1 H1 F1
        have J1 := H1.1.1.1
        have e217 : xi τ 217 (g 0) = p.1 := congrArg (fun p => p.2.2.2.2.2) J1.2.2.2.2.1
        refine ⟨fun q => ?_, fun q => ⟨yg0 J1, ?_⟩⟩
        · rw [ki_le] at q
          have ek : k = 0 := by omega
          subst ek
          have en : i = mi := ki_eq.2 (by omega)
          refine ⟨yg0 J1, ?_⟩
          rw [e217]
          have h4 : p = _ := h4
          exact kyes p τ h4 (by rw [h3, en]) H1 A1 F1
        · rw [ki_le] at q
          obtain ⟨k, rfl⟩ : ∃ x, k = x + 1 := ⟨k - 1, by omega⟩
          obtain ⟨i', ei, ii⟩ := ki_incE (a := i) (by omega) (by omega)
          have hp : p.1.toInt = s.1.2.2.2.2.2.toInt + i.toInt := by rw [h3, ki_add (by omega) (by omega)]
          have hp1 : (p.1 + 1).toInt = p.1.toInt + 1 := by rw [ki_add (by rw [ki_z1]; omega) (by rw [ki_z1]; omega), ki_z1]
          refine wq_hour (s := zn_ s p.1) (now := p.1) hB hn h10 hs rfl A1 H1 (fun v Hv Av Fv => ?_)
          intro τ9 e9 v21 ev
          have e217' : xi v 217 (g 0) = p.1 := congrArg (fun p => p.2.2.2.2.2) Hv.1.1.1.2.2.2.2.1
          rw [ev, ← ei, e9, e217']
          refine ih k i' (p.1 + 1, a_hour nr nc no p.1 (w_hour nr s.2.1 s.2.2.1 s.2.2.2.1 p.2.2) p.2.1, w_hour nr s.2.1 s.2.2.1 s.2.2.2.1 p.2.2) _ (by omega) (by omega) (by omega) ?_ h4 (aK_next hp1 (by omega) Av) (qF_217 (s := zn_ s p.1) Hv) (hf_trans F1 (hf_si Fv (by decide) (by decide)))
          show p.1 + 1 = _
          rw [h3, ei, Int32.add_assoc]
    refine loop 202 mm 0 (s.1.2.2.2.2.2, a, w) σ (by rw [ki_z0]; omega) (by decide) (by omega) (by rw [Int32.add_zero]) rfl A ?_ hf_refl
    exact H
  · rw [e6] at c
    exact .inr (.inr c)
end
end
section
/-! the reference: an hour -/
def nm_ (W : List Nat) (μ u : km_S) : Prop := (∀ j, j ∉ W → km_i u j = km_i μ j) ∧ ∀ f, f ∉ W → km_a u f = km_a μ f
theorem nm_refl {W : List Nat} {μ : km_S} : nm_ W μ μ := ⟨fun _ _ => rfl, fun _ _ => rfl⟩
theorem nm_trans {W : List Nat} {a b c : km_S} (h : nm_ W a b) (k : nm_ W b c) : nm_ W a c := ⟨fun j hj => (k.1 j hj).trans (h.1 j hj), fun f hf => (k.2 f hf).trans (h.2 f hf)⟩
theorem nm_gw {W : List Nat} {μ : km_S} : gw_ (nm_ W μ) W := by
  intro u h f hf
  refine ⟨fun v => ⟨fun j hj => ?_, h.2⟩, fun i v => ⟨h.1, fun e he => ?_⟩, fun v => h, fun i v => h⟩
  · show upd u.1 f v j = _
    rw [w_updN (fun e => hj (by rw [e]; exact hf))]
    exact h.1 j hj
  · show (if e = f then upd (u.2.1 f) i v else u.2.1 e) = _
    rw [if_neg (fun q => he (by rw [q]; exact hf))]
    exact h.2 e he
theorem gw_f0 {W : List Nat} {μ : km_S} {f0 : Nat} (h : f0 ∉ W) : gw_ (fun u => km_a u f0 = km_a μ f0) W := by
  intro u i f hf
  refine ⟨fun _ => i, fun j v => ?_, fun _ => i, fun _ _ => i⟩
  show (if f0 = f then upd (u.2.1 f) j v else u.2.1 f0) = _
  rw [if_neg (fun q => h (by rw [q]; exact hf))]
  exact i
theorem gw_and {I I' : km_S → Prop} {W : List Nat} (h : gw_ I W) (k : gw_ I' W) : gw_ (fun u => I u ∧ I' u) W := by
  intro u i f hf
  obtain ⟨a1, a2, a3, a4⟩ := h u i.1 f hf
  obtain ⟨b1, b2, b3, b4⟩ := k u i.2 f hf
  exact ⟨fun v => ⟨a1 v, b1 v⟩, fun j v => ⟨a2 j v, b2 j v⟩, fun v => ⟨a3 v, b3 v⟩, fun j v => ⟨a4 j v, b4 j v⟩⟩
abbrev m43_ (μ u : km_S) : Prop := mw_ μ u ∧ km_a u 43 = km_a μ 43
theorem m43_gw {μ : km_S} {W : List Nat} (hW : ∀ f ∈ W, f ≠ 3 ∧ f ≠ 11 ∧ f ≠ 12 ∧ f ≠ 13 ∧ f ≠ 18 ∧ f ≠ 19 ∧ f ≠ 24 ∧ f ≠ 25) (h43 : 43 ∉ W) : gw_ (m43_ μ) W := gw_and (wm_gw hW) (gw_f0 h43)
theorem rA_water {a : ra_T} {w : wt_T} {μ u : km_S} (h : rA_ a μ) (F : nm_ [11, 12, 18, 19, 20, 25] μ u) (hw : wm_ u = w) : rA_ (aw_ a w) u := by
  obtain ⟨h1, h2, h3, h4⟩ := h
  have e18 : km_a u 18 = w.2.2.2.1 := congrArg (fun w : wt_T => w.2.2.2.1) hw
  have e19 : km_a u 19 = w.2.2.2.2.1 := congrArg (fun w : wt_T => w.2.2.2.2.1) hw
  refine ⟨fun f hf => ?_, ?_, ?_, ?_⟩
  · by_cases c18 : f = 18
    · rw [c18, aw_18]; exact e18
    · by_cases c19 : f = 19
      · rw [c19, aw_19]; exact e19
      · rw [aw_f c18 c19, F.2 f ?_]
        · exact h1 f hf
        · intro q
          simp at q
          rcases q with q | q | q | q | q | q
          · rw [q] at hf; exact absurd hf (by decide)
          · rw [q] at hf; exact absurd hf (by decide)
          · exact c18 q
          · exact c19 q
          · rw [q] at hf; exact absurd hf (by decide)
          · rw [q] at hf; exact absurd hf (by decide)
  · rw [F.2 31 (by decide), F.2 32 (by decide)]; exact h2
  · rw [F.2 29 (by decide), F.2 30 (by decide)]; exact h3
  · rw [F.1 6 (by decide)]; exact h4
theorem p3_w {a : ra_T} {w : wt_T} : p3_ a (aw_ a w) := ⟨fun _ h => h, aw_f (by decide) (by decide), aw_f (by decide) (by decide), aw_f (by decide) (by decide)⟩
theorem p3_j {nr : Nat} {a : ra_T} : p3_ a (a_jam nr a) := ⟨fun _ h => h, ff_n (by decide), ff_n (by decide), ff_n (by decide)⟩
theorem p3_k {nr nc : Nat} {a : ra_T} : p3_ a (a_known nr nc a) := ⟨fun _ h => h, ff_n (by decide), ff_n (by decide), ff_n (by decide)⟩
theorem p3_f {now : Int32} {nc : Nat} {a : ra_T} : p3_ a (a_free now nc 0 a) := by
  have e := (a_free_c (now := now) nc 0 a).1
  exact ⟨fun y h => by rw [e 38 (by decide) (by decide) (by decide)]; exact h, e 42 (by decide) (by decide) (by decide), e 36 (by decide) (by decide) (by decide), e 6 (by decide) (by decide) (by decide)⟩
/-- all of the reference's river -/
def rF_ (nr nl no nc : Nat) (S : sz_T × Int32) (a : ra_T) (w : wt_T) (μ : km_S) : Prop := ih_ S μ ∧ rA_ a μ ∧ rB_ nl a μ ∧ wm_ μ = w
def sn_ (nr nl no nc : Nat) (S : sz_T × Int32) : Prop := S.1.1.1.toInt = (nr : Int) ∧ S.1.1.2.1.toInt = (nl : Int) ∧ S.1.1.2.2.1.toInt = (nc : Int) ∧ S.1.1.2.2.2.1.toInt = (no : Int)
theorem sn_at {nr nl no nc : Nat} {S : sz_T × Int32} {μ : km_S} (h : sn_ nr nl no nc S) (H : ih_ S μ) : (km_i μ 3).toInt = (nr : Int) ∧ (km_i μ 4).toInt = (nl : Int) ∧ (km_i μ 7).toInt = (nc : Int) ∧ (km_i μ 8).toInt = (no : Int) ∧ km_i μ 2 = S.1.1.2.2.2.2.2 ∧ nr ≤ 10 ∧ nl ≤ 400 ∧ nc ≤ 6 ∧ no ≤ 60 := by
  have e := congrArg (fun s : sz_T × Int32 => s.1.1) H.2
  have e3 : km_i μ 3 = S.1.1.1 := congrArg (fun p => p.1) e
  have e4 : km_i μ 4 = S.1.1.2.1 := congrArg (fun p => p.2.1) e
  have e7 : km_i μ 7 = S.1.1.2.2.1 := congrArg (fun p => p.2.2.1) e
  have e8 : km_i μ 8 = S.1.1.2.2.2.1 := congrArg (fun p => p.2.2.2.1) e
  have e2 : km_i μ 2 = S.1.1.2.2.2.2.2 := congrArg (fun p => p.2.2.2.2.2) e
  obtain ⟨n1, n2, n3, n4, n5, n6⟩ := H.1.1
  rw [e3] at n1
  rw [e4] at n2
  rw [e7] at n4
  rw [e8] at n5
  obtain ⟨h1, h2, h3, h4⟩ := h
  rw [e3, e4, e7, e8]
  exact ⟨h1, h2, h3, h4, e2, by omega, by omega, by omega, by omega⟩
theorem wr_hour {nr nl no nc : Nat} {S : sz_T × Int32} {a : ra_T} {w : wt_T} {now : Int32} {μ : km_S} {K : km_S → Prop} (sn : sn_ nr nl no nc S) (hnow : S.1.1.2.2.2.2.2 = now) (A : aK_ nr nl nc now 0 a) (ok : w_ok nr w) (H : rF_ nr nl no nc S a w μ)
    (kk : ∀ v, rF_ nr nl no nc S (a_hour nr nc no now (w_hour nr S.1.2.1 S.1.2.2.1 S.1.2.2.2.1 w) a) (w_hour nr S.1.2.1 S.1.2.2.1 S.1.2.2.2.1 w) v → aK_ nr nl nc now nc (a_hour nr nc no now (w_hour nr S.1.2.1 S.1.2.2.1 S.1.2.2.2.1 w) a) → K v) :
    wX12_waterGoes μ (fun μ4 => wX12_move μ4 (fun μ5 => wX12_jams μ5 (fun μ6 => wX12_older μ6 (fun μ7 => wX12_mills μ7 K)))) := by
  obtain ⟨H0, R0, B0, W0⟩ := H
  obtain ⟨i3, i4, i7, i8, i2, h10, l4, c6, n60⟩ := sn_at sn H0
  unfold a_hour at kk
  have hs : sm_ μ = S.1 := congrArg Prod.fst H0.2
  have d21 : km_a μ 21 = S.1.2.1 := congrArg (fun s : sz_T => s.2.1) hs
  have d26 : km_a μ 26 = S.1.2.2.1 := congrArg (fun s : sz_T => s.2.2.1) hs
  have d17 : km_a μ 17 = S.1.2.2.2.1 := congrArg (fun s : sz_T => s.2.2.2.1) hs
  generalize hw : w_hour nr S.1.2.1 S.1.2.2.1 S.1.2.2.2.1 w = w' at kk
  refine jcX12_waterGoes (Q := fun u => ih_ S u ∧ wm_ u = w') (Q' := nm_ [11, 12, 18, 19, 20, 25] μ) (fun μ1 K1 F1 => ?_) _ (jcX12_waterGoes (Q := fun u => ih_ S u) (Q' := fun u => wm_ u = w') (fun _ p q => ⟨p, q⟩) _ (rz_waterGoes H0 (fun _ h => h)) (vm_water i3 h10 (by rw [W0]; exact ok) (fun u h => by rw [h, d21, d26, d17, W0, hw]))) (jfX12_waterGoes nm_gw (fun _ h => h) _ nm_refl)
  obtain ⟨H1, W1⟩ := K1
  have R1 := rA_water R0 F1 W1
  have A1 : aK_ nr nl nc now 0 (aw_ a w') := aK_w A
  have B1 : rB_ nl (aw_ a w') μ1 := rB_p3 B0 p3_w (F1.2 43 (by decide))
  clear F1 B0 R0 W0 A d21 d26 d17 hs i3 i4 i7 i8 i2
  generalize aw_ a w' = a1 at *
  obtain ⟨i3, i4, i7, i8, i2, _⟩ := sn_at sn H1
  refine jcX12_move (Q := fun u => ih_ S u ∧ rA_ (a_move nr 0 a1) u) (Q' := m43_ μ1) (fun μ2 K2 F2 => ?_) _ (jcX12_move (Q := fun u => ih_ S u) (Q' := fun u => rA_ (a_move nr 0 a1) u) (fun _ p q => ⟨p, q⟩) _ (rz_move H1 (fun _ h => h)) (vr_move h10 i3 A1.1 R1 (fun _ _ p _ => p))) (jfX12_move (m43_gw (by decide) (by decide)) (fun _ h => h) _ ⟨⟨rfl, rfl⟩, rfl⟩)
  obtain ⟨H2, R2⟩ := K2
  have B2 := rB_p3 B1 (p3_move h10 nr 0 a1 (by omega) A1.1).1 F2.2
  have A2 := aK_m h10 A1
  have W2 : wm_ μ2 = w' := F2.1.1.trans W1
  clear F2 B1 R1 W1 A1 H1 i3 i4 i7 i8 i2
  generalize a_move nr 0 a1 = a2 at *
  obtain ⟨i3, i4, i7, i8, i2, _⟩ := sn_at sn H2
  refine jcX12_jams (Q := fun u => ih_ S u ∧ rA_ (a_known nr nc (a_free now nc 0 (a_jam nr a2))) u) (Q' := m43_ μ2) (fun μ3 K3 F3 => ?_) _ (jcX12_jams (Q := fun u => ih_ S u) (Q' := fun u => rA_ (a_known nr nc (a_free now nc 0 (a_jam nr a2))) u) (fun _ p q => ⟨p, q⟩) _ (rz_jams H2 (fun _ h => h)) ?_) (jfX12_jams (m43_gw (by decide) (by decide)) (fun _ h => h) _ ⟨⟨rfl, rfl⟩, rfl⟩)
  rotate_left 1
  · unfold vX12_jams
    refine fun j => vr_jam h10 A2.1.1 i3 R2 (fun v Rv gv => ?_) j
    unfold vX12_jams_79
    have A3 := aK_j A2
    have e2 : km_i v 2 = now := by rw [gv 2, i2]; exact hnow
    refine fun j => vr_free (nr := nr) (nl := nl) (nc := nc) (μ := v) h10 c6 (by rw [gv 7]; exact i7) j nc 0 (a_jam nr a2) 0 v (by decide) (by omega) (fun r hr => ⟨(A3.1.1.1 r hr).1, (A3.1.1.1 r hr).2.1⟩) (by rw [e2]; exact A3.2.2) Rv (fun _ => rfl) (fun v2 R2' g2 => ?_)
    rw [e2] at R2'
    have A4 := aK_f A3
    exact vr_known (nl := nl) h10 c6 (fun r hr => ⟨(A4.1.1.1 r hr).1, (A4.1.1.1 r hr).2.1⟩) (by rw [g2 3, gv 3]; exact i3) (by rw [g2 7, gv 7]; exact i7) R2' (fun u Ru _ => Ru)
  obtain ⟨H3, R3⟩ := K3
  have B3 := rB_p3 B2 (p3_trans (p3_j (nr := nr)) (p3_trans (p3_f (now := now) (nc := nc)) (p3_k (nr := nr) (nc := nc)))) F3.2
  have A3 := aK_k (nc := nc) (aK_f (aK_j A2))
  have W3 : wm_ μ3 = w' := F3.1.1.trans W2
  clear F3 B2 R2 W2 A2 H2 i3 i4 i7 i8 i2
  generalize a_known nr nc (a_free now nc 0 (a_jam nr a2)) = a3 at *
  obtain ⟨i3, i4, i7, i8, i2, _⟩ := sn_at sn H3
  refine jcX12_older (Q := fun u => ih_ S u ∧ rA_ (a_age a3) u) (Q' := m43_ μ3) (fun μ4 K4 F4 => ?_) _ (jcX12_older (Q := fun u => ih_ S u) (Q' := fun u => rA_ (a_age a3) u) (fun _ p q => ⟨p, q⟩) _ (rz_older H3 (fun _ h => h)) (vr_age h10 l4 A3.1.1 A3.1.2.1 i4 A3.2.1 R3 (fun _ p _ => p))) (jfX12_older (m43_gw (by decide) (by decide)) (fun _ h => h) _ ⟨⟨rfl, rfl⟩, rfl⟩)
  obtain ⟨H4, R4⟩ := K4
  have B4 := rB_p3 B3 p3_age F4.2
  have A4 := aK_a A3
  have W4 : wm_ μ4 = w' := F4.1.1.trans W3
  clear F4 B3 R3 W3 A3 H3 i3 i4 i7 i8 i2
  generalize a_age a3 = a4 at *
  obtain ⟨i3, i4, i7, i8, i2, _⟩ := sn_at sn H4
  refine jcX12_mills (Q := fun u => ih_ S u ∧ rB_ nl (a_mills no nr 0 a4) u ∧ rA_ (a_mills no nr 0 a4) u) (Q' := mw_ μ4) (fun μ5 K5 F5 => ?_) _ (jcX12_mills (Q := fun u => ih_ S u) (Q' := fun u => rB_ nl (a_mills no nr 0 a4) u ∧ rA_ (a_mills no nr 0 a4) u) (fun _ p q => ⟨p, q⟩) _ (rz_mills H4 (fun _ h => h)) (vr_mills h10 n60 i3 i8 A4.1.1 A4.1.2.1 B4 R4 (fun _ _ _ p q _ => ⟨p, q⟩))) (jfX12_mills (wm_gw (by decide)) (fun _ h => h) _ ⟨rfl, rfl⟩)
  exact kk μ5 ⟨K5.1, K5.2.2, K5.2.1, F5.1.trans W4⟩ (aK_s h10 A4)
theorem wr_hours {nr nl no nc : Nat} {S : sz_T} {a : ra_T} {w : wt_T} {mi : Int32} {μ : km_S} {Q : Int32 → km_S → Prop} (sn : sn_ nr nl no nc (S, 0)) (A : aK_ nr nl nc S.1.2.2.2.2.2 0 a) (ok : w_ok nr w) {k0 : Int32} (H : rF_ nr nl no nc (S, k0) a w μ)
    (kno : (mi < 0 ∨ 200 < mi ∨ ¬ (S.1.2.2.2.2.2 + mi ≤ 20000)) → Q 0 (km_si (km_si μ 1 0) 1 1))
    (kyes : ¬ (mi < 0 ∨ 200 < mi ∨ ¬ (S.1.2.2.2.2.2 + mi ≤ 20000)) → ∀ p v, p = ah_ nr nc no S.2.1 S.2.2.1 S.2.2.2.1 mi.toNatClampNeg (S.1.2.2.2.2.2, a, w) → p.1 = S.1.2.2.2.2.2 + mi → rF_ nr nl no nc (zn_ S p.1, 0) p.2.1 p.2.2 v → aK_ nr nl nc p.1 0 p.2.1 → w_ok nr p.2.2 → Q p.1 v) : wX12_hours mi μ Q := by
  intro μ1 e1
  have H1 : rF_ nr nl no nc (S, 0) a w μ1 := by
    obtain ⟨⟨I, es⟩, R, Bd, W⟩ := H
    rw [e1]
    have es1 : sm_ μ = S := congrArg Prod.fst es
    refine ⟨⟨im_code 0 I, ?_⟩, R, Bd, W⟩
    refine Prod.ext ?_ rfl
    exact es1
  have e2 : km_i μ1 2 = S.1.2.2.2.2.2 := congrArg (fun s : sz_T × Int32 => s.1.1.2.2.2.2.2) H1.1.2
  have no_ : (mi < 0 ∨ 200 < mi ∨ ¬ (km_i μ1 2 + mi ≤ 20000)) → wX12_hours_28 Q μ1 := fun c μ2 ed => by
    rw [e2] at c
    rw [ed, e1]
    exact kno c
  refine ⟨fun c => no_ (.inl c), fun c => ⟨fun d => no_ (.inr (.inl d)), fun d => ⟨fun e => ⟨202, ?_⟩, fun e => no_ (.inr (.inr e))⟩⟩⟩
  rw [e2] at e no_
  have kyes := kyes (fun h => h.elim c (fun h => h.elim d (fun h => h e)))
  clear kno no_
  rw [ki_lt, ki_z0] at c
  have z200 : (200 : Int32).toInt = 200 := by decide
  have z20 : (20000 : Int32).toInt = 20000 := by decide
  rw [ki_lt, z200] at d
  obtain ⟨mm, hm⟩ : ∃ mm : Nat, mi.toInt = (mm : Int) := ⟨mi.toInt.toNat, by omega⟩
  have em : mi.toNatClampNeg = mm := ki_toN hm
  rw [em] at kyes
  have hnow0 := A.2.2.1
  have c20 : S.1.2.2.2.2.2.toInt + mi.toInt ≤ 20000 := by
    rw [ki_le, z20, ki_add (by omega) (by omega)] at e
    exact e
  have loop : ∀ (j k : Nat) (i : Int32) (p : Int32 × ra_T × wt_T) (M : km_S), i.toInt + (k : Int) = mi.toInt → 0 ≤ i.toInt → k < j → p.1 = S.1.2.2.2.2.2 + i → ah_ nr nc no S.2.1 S.2.2.1 S.2.2.2.1 k p = ah_ nr nc no S.2.1 S.2.2.1 S.2.2.2.1 mm (S.1.2.2.2.2.2, a, w) → aK_ nr nl nc p.1 0 p.2.1 → w_ok nr p.2.2 → rF_ nr nl no nc (zn_ S p.1, 0) p.2.1 p.2.2 M → wX12_hours_35 (wX12_hours_76 Q) Q j mi i M := by
    intro j
    induction j with
    | zero => intro k i p M _ _ h; omega
    | succ j ih =>
      intro k i p M h1 h0 h2 h3 h4 A1 ok1 H1
      have eM : km_i M 2 = p.1 := congrArg (fun s : sz_T × Int32 => s.1.1.2.2.2.2.2) H1.1.2
      refine ⟨fun q => ?_, fun q => ?_⟩
      · rw [ki_le] at q
        have ek : k = 0 := by omega
        subst ek
        have en : i = mi := ki_eq.2 (by omega)
        show Q (km_i M 2) M
        rw [eM]
        have h4 : p = _ := h4
        exact kyes p M h4 (by rw [h3, en]) H1 A1 ok1
      · rw [ki_le] at q
        obtain ⟨k, rfl⟩ : ∃ x, k = x + 1 := ⟨k - 1, by omega⟩
        obtain ⟨i', ei, ii⟩ := ki_incE (a := i) (by omega) (by omega)
        have hp : p.1.toInt = S.1.2.2.2.2.2.toInt + i.toInt := by rw [h3, ki_add (by omega) (by omega)]
        have hp1 : (p.1 + 1).toInt = p.1.toInt + 1 := by rw [ki_add (by rw [ki_z1]; omega) (by rw [ki_z1]; omega), ki_z1]
        refine wr_hour (S := (zn_ S p.1, 0)) (now := p.1) sn rfl A1 ok1 H1 (fun v Hv Av => ?_)
        intro μ9 e9 v10 ev
        have ev2 : km_i v 2 = p.1 := congrArg (fun s : sz_T × Int32 => s.1.1.2.2.2.2.2) Hv.1.2
        rw [ev, ← ei, e9, ev2]
        refine ih k i' (p.1 + 1, a_hour nr nc no p.1 (w_hour nr S.2.1 S.2.2.1 S.2.2.2.1 p.2.2) p.2.1, w_hour nr S.2.1 S.2.2.1 S.2.2.2.1 p.2.2) _ (by omega) (by omega) (by omega) ?_ h4 (aK_next hp1 (by omega) Av) (w_hour_ok ok1) ?_
        · show p.1 + 1 = _
          rw [h3, ei, Int32.add_assoc]
        · obtain ⟨⟨Iv, ev⟩, Rv, Bv, Wv⟩ := Hv
          refine ⟨⟨Iv, ?_⟩, Rv, Bv, Wv⟩
          have h1 : sm_ v = zn_ S p.1 := congrArg Prod.fst ev
          have h2 : km_i v 1 = 0 := congrArg Prod.snd ev
          refine Prod.ext ?_ h2
          show zn_ (sm_ v) (p.1 + 1) = zn_ S (p.1 + 1)
          rw [h1]
  exact loop 202 mm 0 (S.1.2.2.2.2.2, a, w) μ1 (by rw [ki_z0]; omega) (by decide) (by omega) (by rw [Int32.add_zero]) rfl A ok H1
end
section
/-! what is asked: the answers, once for both (none: there is no such thing) -/
abbrev in_ (l : Int32) (n : Nat) : Prop := 0 ≤ l.toInt ∧ l.toInt < (n : Int)
theorem in_of {l : Int32} {n q : Nat} (h : l.toInt = (q : Int)) (hq : q < n) : in_ l n := ⟨by omega, by omega⟩
def an_wants (no : Nat) (a : ra_T) (l : Int32) : Option Int32 := if in_ l no then some (a.1 50 l.toNatClampNeg) else none
def fl_ (w : Int32) : Option Nat := if w = 0 then some 35 else if w = 1 then some 36 else if w = 2 then some 37 else if w = 3 then some 38 else if w = 4 then some 39 else if w = 5 then some 40 else if w = 6 then some 41 else if w = 7 then some 42 else none
def an_log (nl : Nat) (a : ra_T) (l w : Int32) : Option Int32 := if in_ l nl then (fl_ w).map (fun f => a.1 f l.toNatClampNeg) else none
def b01_ (v : Int32) : Int32 := if v = 0 then 0 else 1
def an_cell (nr : Nat) (a : ra_T) (r c w : Int32) : Option Int32 := if in_ r nr ∧ in_ c (ln_ a r.toNatClampNeg) then (if w = 0 then some (nI (a.2 (12 * r.toNatClampNeg + c.toNatClampNeg)).length) else if w = 1 then some (b01_ (a.1 33 (12 * r.toNatClampNeg + c.toNatClampNeg))) else if w = 2 then some (b01_ (a.1 34 (12 * r.toNatClampNeg + c.toNatClampNeg))) else none) else none
def at_ (L : List Nat) (i : Int32) : Int32 := if 0 ≤ i.toInt then (match L[i.toNatClampNeg]? with
  | some x => nI x
  | none => -1) else -1
def an_inCell (nr : Nat) (a : ra_T) (r c i : Int32) : Option Int32 := if in_ r nr ∧ in_ c (ln_ a r.toNatClampNeg) then some (at_ (a.2 (12 * r.toNatClampNeg + c.toNatClampNeg)) i) else none
def an_heap (nr : Nat) (a : ra_T) (r i : Int32) : Option Int32 := if in_ r nr then (if a.1 22 r.toNatClampNeg = 0 then some (-1) else if i = -1 then some (nI (a.2 (120 + r.toNatClampNeg)).length) else some (at_ (a.2 (120 + r.toNatClampNeg)) i)) else none
def an_water (nr : Nat) (a : ra_T) (w : wt_T) (r i : Int32) : Option Int32 := if in_ r nr then (if i = 0 then some (w.2.2.2.1 r.toNatClampNeg) else if i = 1 then some (w.2.2.2.2.1 r.toNatClampNeg) else if i = 2 then some (if a.1 21 r.toNatClampNeg = 0 then -1 else w.2.2.1 r.toNatClampNeg) else if i = 3 then some (w.1 r.toNatClampNeg) else if i = 4 then some (nI (ln_ a r.toNatClampNeg)) else none) else none
theorem fl_no {w : Int32} (h0 : ¬ w = 0) (h1 : ¬ w = 1) (h2 : ¬ w = 2) (h3 : ¬ w = 3) (h4 : ¬ w = 4) (h5 : ¬ w = 5) (h6 : ¬ w = 6) (h7 : ¬ w = 7) : fl_ w = none := by
  unfold fl_
  rw [if_neg h0, if_neg h1, if_neg h2, if_neg h3, if_neg h4, if_neg h5, if_neg h6, if_neg h7]
theorem ki_pred {x : Int32} {n : Nat} (h : x.toInt = (n : Int)) (hb : n ≤ 100000) : (x - 1).toInt = (n : Int) - 1 := by
  rw [ki_sub (by rw [h, ki_z1]; omega) (by rw [h, ki_z1]; omega), h, ki_z1]
theorem nI_w {x : Int32} {n : Nat} (h : x.toInt = (n : Int)) (hb : n ≤ 500) : x = nI n := nI_at h hb
section
variable {T : Nat → Nat → Nat} {N : Nat → Nat} {g κ : Nat → Nat} {st na nr nl nc no m : Nat} {day : Nat → Int32} {RL : Nat → List (Bool × List Int32)} {s : sz_T} {B n : Nat} {a : ra_T} {w : wt_T} {σ : kx_S}
/-! the class -/
theorem vq_reachAt {l : Int32} {Q : Nat → kx_S → Prop} {QX : String → kx_S → Prop} (h10 : nr ≤ 10) (J : yJ_ s g κ B n σ) (h1 : q1_ T (g 1) nr a σ) (k1 : ∀ q : Nat, l.toInt = (q : Int) → q < nr → Q (T 10 q) σ) (k0 : ¬ in_ l nr → QX pz_N (xbump σ)) : vX11_reachAt (g 0) l σ Q QX := by
  unfold vX11_reachAt
  intro _ a2 e2 _
  obtain rfl := Option.some.inj ((yg1 J).1.symm.trans e2)
  unfold vJx4a65c_size_8abf5
  intro _
  have hs := ki_pred h1.1 (by omega)
  refine vy_within (fun d => ⟨fun x => absurd rfl x, fun _ _ => k0 (fun q => d ?_)⟩) (fun c1 c2 => ⟨fun _ _ a11 e11 _ => ?_, fun x => absurd x (by decide)⟩)
  · rw [ki_z0, hs]
    exact ⟨q.1, by have := q.2; omega⟩
  · rw [ki_z0] at c1
    rw [hs] at c2
    obtain rfl := Option.some.inj ((yg1 J).1.symm.trans e11)
    obtain ⟨q, hq⟩ : ∃ q : Nat, l.toInt = (q : Int) := ⟨l.toInt.toNat, by omega⟩
    refine vy_get (fun _ _ => ?_)
    rw [ki_toN hq, ((h1.2 q (by omega)).1).1]
    intro a16 e16 _
    obtain rfl := Option.some.inj e16
    exact k1 q hq (by omega)
theorem vq_logAt {l : Int32} {Q : Nat → kx_S → Prop} {QX : String → kx_S → Prop} (h4b : nl ≤ 400) (J : yJ_ s g κ B n σ) (h4 : q4_ T (g 2) nl a σ) (k1 : ∀ q : Nat, l.toInt = (q : Int) → q < nl → Q (T 8 q) σ) (k0 : ¬ in_ l nl → QX pz_N (xbump σ)) : vX11_logAt (g 0) l σ Q QX := by
  unfold vX11_logAt
  intro _ a2 e2 _
  obtain rfl := Option.some.inj ((yg2 J).1.symm.trans e2)
  unfold vJx4a65c_size_8abf5
  intro _
  have hs := ki_pred h4.1 (by omega)
  refine vy_within (fun d => ⟨fun x => absurd rfl x, fun _ _ => k0 (fun q => d ?_)⟩) (fun c1 c2 => ⟨fun _ _ a11 e11 _ => ?_, fun x => absurd x (by decide)⟩)
  · rw [ki_z0, hs]
    exact ⟨q.1, by have := q.2; omega⟩
  · rw [ki_z0] at c1
    rw [hs] at c2
    obtain rfl := Option.some.inj ((yg2 J).1.symm.trans e11)
    obtain ⟨q, hq⟩ : ∃ q : Nat, l.toInt = (q : Int) := ⟨l.toInt.toNat, by omega⟩
    refine vy_get (fun _ _ => ?_)
    rw [ki_toN hq, ((h4.2 q (by omega)).1).1]
    intro a16 e16 _
    obtain rfl := Option.some.inj e16
    exact k1 q hq (by omega)
theorem vq_checkCell {r : Nat} {c : Int32} {Q : kx_S → Prop} {QX : String → kx_S → Prop} (h1 : q1_ T (g 1) nr a σ) (hr : r < nr) (k1 : ∀ q : Nat, c.toInt = (q : Int) → q < ln_ a r → Q σ) (k0 : ¬ in_ c (ln_ a r) → QX pz_N (xbump σ)) : vX11_checkCell (T 10 r) c σ Q QX := by
  obtain ⟨_, _, _, _, _, b1, b2, b3, b4, b5⟩ := h1.2 r hr
  unfold vX11_checkCell
  intro _ a2 e2 _
  obtain rfl := Option.some.inj (b1.symm.trans e2)
  unfold vJx4a65c_size_8abf5
  intro _
  have hs := ki_pred b3 (by omega)
  refine vy_within (fun d => ⟨fun x => absurd rfl x, fun _ _ => k0 (fun q => d ?_)⟩) (fun c1 c2 => ⟨fun _ => ?_, fun x => absurd x (by decide)⟩)
  · rw [ki_z0, hs]
    exact ⟨q.1, by have := q.2; omega⟩
  · rw [ki_z0] at c1
    rw [hs] at c2
    obtain ⟨q, hq⟩ : ∃ q : Nat, c.toInt = (q : Int) := ⟨c.toInt.toNat, by omega⟩
    exact k1 q hq (by omega)
theorem vq_numberAt {k : Nat} {i : Int32} {Q : Int32 → kx_S → Prop} (hk : vk_ nr a k) (hl : (a.2 k).length ≤ 100) (h3 : q3_ T nr a σ) (h4 : q4_ T (g 2) nl a σ) (A2 : ∀ x, x ∈ a.2 k → x < nl) (l4 : nl ≤ 400) (kk : Q (at_ (a.2 k) i) σ) : vX11_numberAt (T 1 k) i σ Q := by
  obtain ⟨d1, d2, d3⟩ := h3 k hk
  unfold vX11_numberAt
  intro _
  unfold vJx4a65c_size_8abf5
  intro _
  have hs := ki_pred d2 (by omega)
  refine vy_within (fun d => ⟨fun _ => ?_, fun x => absurd rfl x⟩) (fun c1 c2 => ⟨fun x => absurd x (by decide), fun _ _ => ?_⟩)
  · rw [ki_z0, hs] at d
    have e : at_ (a.2 k) i = -1 := by
      unfold at_
      split
      · next h0 =>
        have : (a.2 k)[i.toNatClampNeg]? = none := by
          rw [List.getElem?_eq_none_iff, ki_nat]
          omega
        rw [this]
      · rfl
    rw [e] at kk
    exact kk
  · rw [ki_z0] at c1
    rw [hs] at c2
    obtain ⟨q, hq⟩ : ∃ q : Nat, i.toInt = (q : Int) := ⟨i.toInt.toNat, by omega⟩
    have hlt : q < (a.2 k).length := by omega
    have hx : (a.2 k)[q]? = some ((a.2 k)[q]) := List.getElem?_eq_getElem hlt
    refine vy_get (fun _ _ => ?_)
    rw [ki_toN hq, d3 q _ hx]
    intro a10 e10 _
    obtain rfl := Option.some.inj e10
    have hxl := A2 _ (List.getElem_mem hlt)
    have e128 := (h4.2 _ hxl).2.1
    have e : at_ (a.2 k) i = xi σ 128 (T 8 ((a.2 k)[q])) := by
      unfold at_
      rw [if_pos c1, ki_toN hq, hx]
      exact (nI_w e128 (by omega)).symm
    rw [e] at kk
    exact kk
theorem vq_wants {l : Int32} {Q : Int32 → kx_S → Prop} {QX : String → kx_S → Prop} (J : yJ_ s g κ B n σ) (h6 : q6_ T N (g 5) nr no a σ) (k1 : ∀ v, an_wants no a l = some v → Q v σ) (k0 : an_wants no a l = none → QX pz_N (xbump σ)) : vX11_wants (g 0) l σ Q QX := by
  unfold vX11_wants
  intro _ a2 e2 _
  obtain rfl := Option.some.inj ((yg5 J).1.symm.trans e2)
  unfold vJx4a65c_size_8abf5
  intro _
  have hs := ki_pred h6.1 (by have := h6.2.1; omega)
  refine vy_within (fun d => ⟨fun x => absurd rfl x, fun _ _ => k0 (if_neg (fun q => d ?_))⟩) (fun c1 c2 => ⟨fun _ _ a11 e11 _ => ?_, fun x => absurd x (by decide)⟩)
  · rw [ki_z0, hs]
    exact ⟨q.1, by have := q.2; omega⟩
  · rw [ki_z0] at c1
    rw [hs] at c2
    obtain rfl := Option.some.inj ((yg5 J).1.symm.trans e11)
    obtain ⟨q, hq⟩ : ∃ q : Nat, l.toInt = (q : Int) := ⟨l.toInt.toNat, by omega⟩
    obtain ⟨⟨b1, b2⟩, _, _, b5, _⟩ := h6.2.2.1 q (by omega)
    refine vy_get (fun _ _ => ?_)
    rw [ki_toN hq, b1]
    intro a16 e16 _
    obtain rfl := Option.some.inj e16
    rw [b5]
    refine k1 _ ?_
    unfold an_wants
    rw [if_pos (in_of hq (by omega)), ki_toN hq]
theorem vq_log {l i : Int32} {Q : Int32 → kx_S → Prop} {QX : String → kx_S → Prop} (l4 : nl ≤ 400) (J : yJ_ s g κ B n σ) (h4 : q4_ T (g 2) nl a σ) (k1 : ∀ v, an_log nl a l i = some v → Q v σ) (k0 : an_log nl a l i = none → QX pz_N (xbump σ)) : vX11_log (g 0) l i σ Q QX := by
  unfold vX11_log
  intro _
  refine vq_logAt l4 J h4 (fun q hq hlt => ?_) (fun h => k0 (if_neg h))
  obtain ⟨_, _, ⟨b1, b2, b3⟩, b4, b5, b6, b7, b8⟩ := h4.2 q hlt
  have z : ∀ {f : Nat}, fl_ i = some f → an_log nl a l i = some (a.1 f q) := fun {f} e => by
    unfold an_log
    rw [if_pos (in_of hq hlt), e, ki_toN hq]
    rfl
  rintro v4 rfl
  rw [b1, b2, b3, b4, b5, b6, b7, b8]
  refine ⟨fun c _ => k1 _ (z (by rw [c]; decide)), fun c _ => k1 _ (z (by rw [c]; decide)), fun c _ => k1 _ (z (by rw [c]; decide)), fun c _ => k1 _ (z (by rw [c]; decide)), fun c _ => k1 _ (z (by rw [c]; decide)), fun c _ => k1 _ (z (by rw [c]; decide)), fun c _ => k1 _ (z (by rw [c]; decide)), fun c _ => k1 _ (z (by rw [c]; decide)), fun h0 h1 h2 h3 h4 h5 h6 h7 _ => k0 ?_⟩
  unfold an_log
  rw [if_pos (in_of hq hlt), fl_no h0 h1 h2 h3 h4 h5 h6 h7]
  rfl
theorem vq_cellAt {r c : Int32} {Q : Nat → Nat → kx_S → Prop} {QX : String → kx_S → Prop} {P : Nat → kx_S → Prop} (h10 : nr ≤ 10) (H : qa_ T N g κ st na nr nl m day RL s B n a σ) (k0 : ¬ (in_ r nr ∧ in_ c (ln_ a r.toNatClampNeg)) → QX pz_N (xbump σ)) (k1 : ∀ q p : Nat, r.toInt = (q : Int) → c.toInt = (p : Int) → q < nr → p < ln_ a q → P (T 3 (12 * q + p)) σ) : vX11_reachAt (g 0) r σ (fun b2 σ1 => vX11_checkCell b2 c σ1 (fun σ4 => xt σ4 b2 = 10 → ∀ a6, xr σ4 163 b2 = some a6 → xt σ4 a6 = 1 → vJx4a65c_get_915e3 a6 c σ4 (fun q9 σ8 => ∀ a11, q9 = some a11 → xt σ8 a11 = 3 → P a11 σ8)) QX) QX := by
  obtain ⟨J, h0, h1, h2, h3, h4, h7, hj⟩ := H
  refine vq_reachAt h10 J h1 (fun q hq hlt => ?_) (fun h => k0 (fun z => h z.1))
  obtain ⟨_, _, _, _, _, b1, b2, b3, b4, b5⟩ := h1.2 q hlt
  refine vq_checkCell h1 hlt (fun p hp hpl => ?_) (fun h => k0 (fun z => h (by have := z.2; rw [ki_toN hq] at this; exact this)))
  intro _ a6 e6 _
  obtain rfl := Option.some.inj (b1.symm.trans e6)
  refine vy_get (fun _ _ => ?_)
  rw [ki_toN hp, ((h2 q hlt p hpl).1).1]
  intro a11 e11 _
  obtain rfl := Option.some.inj e11
  exact k1 q p hq hp hlt hpl
theorem vq_cell0 {r c i : Int32} {Q : Int32 → kx_S → Prop} {QX : String → kx_S → Prop} (h10 : nr ≤ 10) (A : ao_ nr nl a) (H : qa_ T N g κ st na nr nl m day RL s B n a σ) (k1 : ∀ v, an_cell nr a r c i = some v → Q v σ) (k0 : an_cell nr a r c i = none → QX pz_N (xbump σ)) : vX11_cell (g 0) r c i σ Q QX := by
  have HH := H
  obtain ⟨J, h0, h1, h2, h3, h4, h7, hj⟩ := H
  unfold vX11_cell
  intro _
  refine vq_cellAt (Q := fun _ _ _ => True) h10 HH (fun h => k0 (if_neg h)) (fun q p hq hp hlt hpl => ?_)
  obtain ⟨_, c3, c4, c5, c6⟩ := h2 q hlt p hpl
  obtain ⟨d1, d2, d3⟩ := h3 _ (vk_cell hlt hpl)
  have hin : in_ r nr ∧ in_ c (ln_ a r.toNatClampNeg) := ⟨in_of hq hlt, by rw [ki_toN hq]; exact in_of hp hpl⟩
  have ea : an_cell nr a r c i = if i = 0 then some (nI (a.2 (12 * q + p)).length) else if i = 1 then some (b01_ (a.1 33 (12 * q + p))) else if i = 2 then some (b01_ (a.1 34 (12 * q + p))) else none := by
    unfold an_cell
    rw [if_pos hin, ki_toN hq, ki_toN hp]
  have n20 : (a.2 (12 * q + p)).length ≤ 20 := by
    have := (A.2.2.2.1 q p hlt hpl).1
    have := (A.1 q hlt).2.2.1.2
    omega
  rintro v14 rfl
  refine ⟨fun c0 => ?_, fun c1 => ?_, fun c2 => ?_, fun n0 n1 n2 _ => k0 ?_⟩
  · intro a16 e16 _
    obtain rfl := Option.some.inj (c4.symm.trans e16)
    unfold vJx4a65c_size_8abf5
    intro _
    refine k1 _ ?_
    rw [ea, if_pos c0, nI_w d2 (by omega)]
  · rw [c5]
    refine ⟨fun z => k1 _ ?_, fun z => k1 _ ?_⟩
    · rw [ea, c1, if_neg (by decide), if_pos rfl]
      unfold b01_
      rw [if_pos z]
    · rw [ea, c1, if_neg (by decide), if_pos rfl]
      unfold b01_
      rw [if_neg z]
  · rw [c6]
    refine ⟨fun z => k1 _ ?_, fun z => k1 _ ?_⟩
    · rw [ea, c2, if_neg (by decide), if_neg (by decide), if_pos rfl]
      unfold b01_
      rw [if_pos z]
    · rw [ea, c2, if_neg (by decide), if_neg (by decide), if_pos rfl]
      unfold b01_
      rw [if_neg z]
  · rw [ea, if_neg n0, if_neg n1, if_neg n2]
theorem vq_inCell {r c i : Int32} {Q : Int32 → kx_S → Prop} {QX : String → kx_S → Prop} (h10 : nr ≤ 10) (l4 : nl ≤ 400) (A : ao_ nr nl a) (H : qa_ T N g κ st na nr nl m day RL s B n a σ) (k1 : ∀ v, an_inCell nr a r c i = some v → Q v σ) (k0 : an_inCell nr a r c i = none → QX pz_N (xbump σ)) : vX11_inCell (g 0) r c i σ Q QX := by
  have HH := H
  obtain ⟨J, h0, h1, h2, h3, h4, h7, hj⟩ := H
  unfold vX11_inCell
  intro _
  refine vq_cellAt (Q := fun _ _ _ => True) h10 HH (fun h => k0 (if_neg h)) (fun q p hq hp hlt hpl => ?_)
  obtain ⟨_, c3, c4, c5, c6⟩ := h2 q hlt p hpl
  have hin : in_ r nr ∧ in_ c (ln_ a r.toNatClampNeg) := ⟨in_of hq hlt, by rw [ki_toN hq]; exact in_of hp hpl⟩
  have n20 : (a.2 (12 * q + p)).length ≤ 20 := by
    have := (A.2.2.2.1 q p hlt hpl).1
    have := (A.1 q hlt).2.2.1.2
    omega
  intro a14 e14
  obtain rfl := Option.some.inj (c4.symm.trans e14)
  refine vq_numberAt (vk_cell hlt hpl) (by omega) h3 h4 (fun x hx => (A.2.1 _ x hx).1) l4 (k1 _ ?_)
  unfold an_inCell
  rw [if_pos hin, ki_toN hq, ki_toN hp]
theorem vq_heap {r i : Int32} {Q : Int32 → kx_S → Prop} {QX : String → kx_S → Prop} (h10 : nr ≤ 10) (l4 : nl ≤ 400) (A : ao_ nr nl a) (H : qa_ T N g κ st na nr nl m day RL s B n a σ) (k1 : ∀ v, an_heap nr a r i = some v → Q v σ) (k0 : an_heap nr a r i = none → QX pz_N (xbump σ)) : vX11_heap (g 0) r i σ Q QX := by
  obtain ⟨J, h0, h1, h2, h3, h4, h7, hj⟩ := H
  unfold vX11_heap
  intro _
  refine vq_reachAt h10 J h1 (fun q hq hlt => ?_) (fun h => k0 (if_neg h))
  obtain ⟨_, _, _, _, b172, _⟩ := h1.2 q hlt
  have ea : an_heap nr a r i = if a.1 22 q = 0 then some (-1) else if i = -1 then some (nI (a.2 (120 + q)).length) else some (at_ (a.2 (120 + q)) i) := by
    unfold an_heap
    rw [if_pos (in_of hq hlt), ki_toN hq]
  intro _
  refine ⟨fun a6 e6 => ?_, fun e6 => k1 _ ?_⟩
  · obtain ⟨z0, z1, z2, z3, _⟩ : ¬ a.1 22 q = 0 ∧ xr σ 172 (T 10 q) = some (T 2 q) ∧ xt σ (T 2 q) = 2 ∧ xr σ 32 (T 2 q) = some (T 1 (120 + q)) ∧ True := by
      rcases b172 with z | z
      · rw [z.1] at e6; exact absurd e6 (by simp)
      · exact ⟨z.1, z.2.1, z.2.2.1, z.2.2.2.1, trivial⟩
    have vk : vk_ nr a (120 + q) := .inr ⟨q, hlt, z0, rfl⟩
    have n100 : (a.2 (120 + q)).length ≤ 100 := by have := (A.2.2.2.2.1 q hlt).1; omega
    refine ⟨fun c a8 e8 _ a11 e11 => ?_, fun c a15 e15 _ a18 e18 _ => ?_⟩
    · obtain rfl := Option.some.inj (z1.symm.trans e8)
      obtain rfl := Option.some.inj (z3.symm.trans e11)
      refine vq_numberAt vk n100 h3 h4 (fun x hx => (A.2.1 _ x hx).1) l4 (k1 _ ?_)
      rw [ea, if_neg z0, if_neg c]
    · obtain rfl := Option.some.inj (z1.symm.trans e15)
      obtain rfl := Option.some.inj (z3.symm.trans e18)
      unfold vJx4a65c_size_8abf5
      intro _
      refine k1 _ ?_
      rw [ea, if_neg z0, if_pos c, nI_w (h3 _ vk).2.1 (by omega)]
  · have z0 : a.1 22 q = 0 := by
      rcases b172 with z | ⟨_, z, _⟩
      · exact z.2
      · rw [z] at e6; exact absurd e6 (by simp)
    rw [ea, if_pos z0]
theorem vq_water {r i : Int32} {Q : Int32 → kx_S → Prop} {QX : String → kx_S → Prop} (h10 : nr ≤ 10) (hs : s.1.1.toInt = (nr : Int)) (V : Yw_ nr w (g 0) σ) (H : qa_ T N g κ st na nr nl m day RL s B n a σ) (k1 : ∀ v, an_water nr a w r i = some v → Q v σ) (k0 : an_water nr a w r i = none → QX pz_N (xbump σ)) : vX11_water (g 0) r i σ Q QX := by
  obtain ⟨J, h0, h1, h2, h3, h4, h7, hj⟩ := H
  obtain ⟨ad, y⟩ := V
  unfold vX11_water
  intro _
  refine vq_reachAt h10 J h1 (fun q hq hlt => ?_) (fun h => k0 (if_neg h))
  obtain ⟨⟨b0, b00⟩, b160, ⟨b4, b5, b6, b7, b8⟩, b9, b10, b11, b12, b13, b14⟩ := h1.2 q hlt
  obtain ⟨y1, y2, y3, y4, y5, y6⟩ := y.2.1 q hlt
  have ead : ∀ p, p < nr → ad p = T 10 p := fun p hp => Option.some.inj ((yw_at J hs y hp).1.symm.trans ((h1.2 p hp).1).1)
  rw [ead q hlt] at y1 y2 y3 y4 y5 y6
  have ea : an_water nr a w r i = if i = 0 then some (w.2.2.2.1 q) else if i = 1 then some (w.2.2.2.2.1 q) else if i = 2 then some (if a.1 21 q = 0 then -1 else w.2.2.1 q) else if i = 3 then some (w.1 q) else if i = 4 then some (nI (ln_ a q)) else none := by
    unfold an_water
    rw [if_pos (in_of hq hlt), ki_toN hq]
  rintro v4 rfl
  refine ⟨fun c _ => k1 _ ?_, fun c _ => k1 _ ?_, fun c _ => ⟨fun z => k1 _ ?_, fun z => k1 _ ?_⟩, fun c _ => ⟨fun a15 _ a16 e16 _ => k1 _ ?_, fun e16 => k1 _ ?_⟩, fun c _ a21 e21 _ => ?_, fun n0 n1 n2 n3 n4 _ => k0 ?_⟩
  · rw [ea, if_pos c, y4]
  · rw [ea, c, if_neg (by decide), if_pos rfl, y5]
  · rw [b5] at z
    rw [ea, c, if_neg (by decide), if_neg (by decide), if_pos rfl, if_pos z]
  · rw [b5] at z
    rw [ea, c, if_neg (by decide), if_neg (by decide), if_pos rfl, if_neg z, y3]
  · rw [ea, c, if_neg (by decide), if_neg (by decide), if_neg (by decide), if_pos rfl]
    rcases y6 with z | ⟨p, p1, p2, p3⟩
    · rw [z.1] at e16; exact absurd e16 (by simp)
    · rw [p3] at e16
      obtain rfl := Option.some.inj e16
      have := (y.2.1 p (by omega)).1
      rw [ki_eq.2 (p1.trans this.symm)]
  · rw [ea, c, if_neg (by decide), if_neg (by decide), if_neg (by decide), if_pos rfl]
    rcases y6 with z | ⟨p, p1, p2, p3⟩
    · rw [z.2]
    · rw [p3] at e16; exact absurd e16 (by simp)
  · obtain rfl := Option.some.inj (b11.symm.trans e21)
    unfold vJx4a65c_size_8abf5
    intro _
    refine k1 _ ?_
    rw [ea, c, if_neg (by decide), if_neg (by decide), if_neg (by decide), if_neg (by decide), if_pos rfl, nI_w b13 (by omega)]
  · rw [ea, if_neg n0, if_neg n1, if_neg n2, if_neg n3, if_neg n4]
end
end
section
/-! the reference: what is asked -/
section
variable {nr nl no nc : Nat} {a : ra_T} {w : wt_T} {μ : km_S}
abbrev mc0_ (μ : km_S) : km_S := km_si μ 1 0
abbrev mc1_ (μ : km_S) : km_S := km_si (km_si μ 1 0) 1 1
theorem rA_mc0 (h : rA_ a μ) : rA_ a (mc0_ μ) := h
theorem vr_isReach {r : Int32} {Q : Int32 → km_S → Prop} (hn : (km_i μ 3).toInt = (nr : Int)) (k0 : ¬ in_ r nr → Q 0 μ) (k1 : ∀ q : Nat, r.toInt = (q : Int) → q < nr → Q 1 μ) : vX12_isReach r μ Q := by
  refine vm_isReach (fun h => k0 (fun z => h ⟨z.1, by rw [hn]; exact z.2⟩)) (fun h1 h2 => ?_)
  rw [hn] at h2
  exact k1 r.toInt.toNat (by omega) (by omega)
theorem vr_isLog {r : Int32} {Q : Int32 → km_S → Prop} (hn : (km_i μ 4).toInt = (nl : Int)) (k0 : ¬ in_ r nl → Q 0 μ) (k1 : ∀ q : Nat, r.toInt = (q : Int) → q < nl → Q 1 μ) : vX12_isLog r μ Q := by
  unfold vX12_isLog
  rw [ki_lt, ki_z0, ki_le, hn]
  refine ⟨fun c => k0 (fun z => by have := z.1; omega), fun c => ⟨fun d => k0 (fun z => by have := z.2; omega), fun d => k1 r.toInt.toNat (by omega) (by omega)⟩⟩
theorem vr_isCell {r c : Int32} {Q : Int32 → km_S → Prop} (A : ao_ nr nl a) (hn : (km_i μ 3).toInt = (nr : Int)) (h : rA_ a μ) (k0 : ¬ (in_ r nr ∧ in_ c (ln_ a r.toNatClampNeg)) → Q 0 μ) (k1 : ∀ q p : Nat, r.toInt = (q : Int) → c.toInt = (p : Int) → q < nr → p < ln_ a q → Q 1 μ) : vX12_isCell r c μ Q := by
  unfold vX12_isCell
  refine vr_isReach hn (fun z => ⟨fun _ => k0 (fun x => z x.1), fun x => absurd rfl x⟩) (fun q hq hlt => ⟨fun x => absurd x (by decide), fun _ => ?_⟩)
  have e14 : (a.1 14 q).toInt = (ln_ a q : Int) := by
    have := (A.1 q hlt).2.1
    unfold ln_ at this ⊢
    rw [ki_nat] at this ⊢
    omega
  rw [ki_toN hq, h.1 14 (by decide), ki_lt, ki_z0, ki_le, e14]
  refine ⟨fun d => k0 (fun x => by have := x.2.1; omega), fun d _ => ⟨fun e => k0 (fun x => ?_), fun e => ?_⟩⟩
  · have := x.2.2
    rw [ki_toN hq] at this
    omega
  · exact k1 q c.toInt.toNat hq (by omega) hlt (by omega)
theorem vr_wants {l : Int32} {Q : Int32 → km_S → Prop} (hn : (km_i μ 8).toInt = (no : Int)) (h : rA_ a μ) (k1 : ∀ v, an_wants no a l = some v → Q v (mc0_ μ)) (k0 : an_wants no a l = none → Q 0 (mc1_ μ)) : vX12_wants l μ Q := by
  unfold vX12_wants
  rintro μ3 rfl
  have hn' : (km_i (km_si μ 1 0) 8).toInt = (no : Int) := hn
  have h' : rA_ a (km_si μ 1 0) := h
  rw [ki_lt, ki_z0, ki_lt, hn', h'.1 50 (by decide)]
  refine ⟨fun c => ?_, fun c => ⟨fun d _ => k1 _ (if_pos ⟨by omega, d⟩), fun d => ?_⟩⟩
  · rintro _ rfl
    exact k0 (if_neg (fun z => by have := z.1; omega))
  · rintro _ rfl
    exact k0 (if_neg (fun z => d z.2))
theorem vr_log {l i : Int32} {Q : Int32 → km_S → Prop} (hn : (km_i μ 4).toInt = (nl : Int)) (h : rA_ a μ) (k1 : ∀ v, an_log nl a l i = some v → Q v (mc0_ μ)) (k0 : an_log nl a l i = none → Q 0 (mc1_ μ)) : vX12_log l i μ Q := by
  unfold vX12_log
  rintro μ1 rfl
  have hn' : (km_i (km_si μ 1 0) 4).toInt = (nl : Int) := hn
  have h' : rA_ a (km_si μ 1 0) := h
  refine vr_isLog hn' (fun z => ⟨fun x => absurd rfl x, fun _ => ?_⟩) (fun q hq hlt => ⟨fun _ => ?_, fun x => absurd x (by decide)⟩)
  · rintro _ rfl
    exact k0 (if_neg z)
  · have z : ∀ {f : Nat}, fl_ i = some f → an_log nl a l i = some (a.1 f q) := fun {f} e => by
      unfold an_log
      rw [if_pos (in_of hq hlt), e, ki_toN hq]
      rfl
    rintro v4 rfl
    rw [ki_toN hq, h'.1 35 (by decide), h'.1 36 (by decide), h'.1 37 (by decide), h'.1 38 (by decide), h'.1 39 (by decide), h'.1 40 (by decide), h'.1 41 (by decide), h'.1 42 (by decide)]
    refine ⟨fun c _ => k1 _ (z (by rw [c]; decide)), fun c _ => k1 _ (z (by rw [c]; decide)), fun c _ => k1 _ (z (by rw [c]; decide)), fun c _ => k1 _ (z (by rw [c]; decide)), fun c _ => k1 _ (z (by rw [c]; decide)), fun c _ => k1 _ (z (by rw [c]; decide)), fun c _ => k1 _ (z (by rw [c]; decide)), fun c _ => k1 _ (z (by rw [c]; decide)), fun h0 h1 h2 h3 h4 h5 h6 h7 => ?_⟩
    rintro _ rfl
    refine k0 ?_
    unfold an_log
    rw [if_pos (in_of hq hlt), fl_no h0 h1 h2 h3 h4 h5 h6 h7]
    rfl
theorem at_km {L : List Nat} {F : Nat → Int32} {b : Nat} {cnt i : Int32} (h : la_ F b cnt L) (hx : ∀ x ∈ L, x ≤ 400) {q : Nat} (hq : i.toInt = (q : Int)) : (i < cnt → F (b + q) = at_ L i) ∧ (¬ i < cnt → at_ L i = -1) := by
  obtain ⟨h1, h2⟩ := h
  rw [ki_lt, h1, hq]
  unfold at_
  rw [if_pos (by omega), ki_toN hq]
  constructor
  · intro c
    have hl : q < L.length := by omega
    rw [List.getElem?_eq_getElem hl]
    exact nI_w (h2 q _ (List.getElem?_eq_getElem hl)) (Nat.le_trans (hx _ (List.getElem_mem hl)) (by decide))
  · intro c
    rw [List.getElem?_eq_none_iff.2 (by omega)]
theorem at_neg {L : List Nat} {i : Int32} (h : i.toInt < 0) : at_ L i = -1 := if_neg (by omega)
theorem vr_cell {r c i : Int32} {Q : Int32 → km_S → Prop} (h10 : nr ≤ 10) (A : ao_ nr nl a) (hn : (km_i μ 3).toInt = (nr : Int)) (h : rA_ a μ) (k1 : ∀ v, an_cell nr a r c i = some v → Q v (mc0_ μ)) (k0 : an_cell nr a r c i = none → Q 0 (mc1_ μ)) : vX12_cell r c i μ Q := by
  unfold vX12_cell
  rintro μ1 rfl
  have z12 : (12 : Int32).toInt = ((12 : Nat) : Int) := by decide
  have z2 : (2 : Int32).toInt = 2 := by decide
  have hn' : (km_i (km_si μ 1 0) 3).toInt = (nr : Int) := hn
  have h' : rA_ a (km_si μ 1 0) := h
  refine vr_isCell A hn' h' (fun z => ⟨fun _ => ?_, fun x => absurd rfl x⟩) (fun q p hq hp hlt hpl => ⟨fun x => absurd x (by decide), fun _ => ?_⟩)
  · rintro _ rfl
    exact k0 (if_neg z)
  · have hin : in_ r nr ∧ in_ c (ln_ a r.toNatClampNeg) := ⟨in_of hq hlt, by rw [ki_toN hq]; exact in_of hp hpl⟩
    have p12 := (A.1 q hlt).1
    have ea : an_cell nr a r c i = if i = 0 then some (nI (a.2 (12 * q + p)).length) else if i = 1 then some (b01_ (a.1 33 (12 * q + p))) else if i = 2 then some (b01_ (a.1 34 (12 * q + p))) else none := by
      unfold an_cell
      rw [if_pos hin, ki_toN hq, ki_toN hp]
    have no_ : ¬ i = 0 → ¬ i = 1 → ¬ i = 2 → vX12_cell_23 Q (km_si μ 1 0) := by
      intro n0 n1 n2
      rintro _ rfl
      exact k0 (by rw [ea, if_neg n0, if_neg n1, if_neg n2])
    refine ⟨fun d => no_ ?_ ?_ ?_, fun d => ⟨fun e => ?_, fun e => no_ ?_ ?_ ?_⟩⟩
    · intro x; rw [x] at d; exact absurd d (by decide)
    · intro x; rw [x] at d; exact absurd d (by decide)
    · intro x; rw [x] at d; exact absurd d (by decide)
    · unfold vX12_at0
      dsimp only
      obtain ⟨k, ek, hk⟩ : ∃ k, k = 12 * r + c ∧ k.toInt = ((12 * q + p : Nat) : Int) := ⟨_, rfl, ki_addN (ki_mulN z12 hq (by omega)) hp (by omega)⟩
      rw [← ek, ki_toN hk, h'.1 34 (by decide), h'.1 33 (by decide)]
      refine ⟨fun n0 => ⟨fun n1 _ => ?_, fun n1 _ => ?_⟩, fun n0 _ => k1 _ ?_⟩
      · have e2 : i = 2 := ki_eq.2 (by
          rw [ki_lt, ki_z0] at d
          rw [ki_le, z2] at e
          rw [ki_eq, ki_z0] at n0
          rw [ki_eq, ki_z1] at n1
          omega)
        refine ⟨fun z => k1 _ ?_, fun z => k1 _ ?_⟩
        · rw [ea, if_neg n0, if_neg n1, if_pos e2]
          unfold b01_
          rw [if_pos z]
        · rw [ea, if_neg n0, if_neg n1, if_pos e2]
          unfold b01_
          rw [if_neg z]
      · refine ⟨fun z => k1 _ ?_, fun z => k1 _ ?_⟩
        · rw [ea, if_neg n0, if_pos n1]
          unfold b01_
          rw [if_pos z]
        · rw [ea, if_neg n0, if_pos n1]
          unfold b01_
          rw [if_neg z]
      · have n20 : (a.2 (12 * q + p)).length ≤ 20 := by
          have := (A.2.2.2.1 q p hlt hpl).1
          have := (A.1 q hlt).2.2.1.2
          omega
        rw [ea, if_pos n0, nI_w (h'.2.1 (12 * q + p) (by omega)).1 (by omega)]
    · intro x; rw [x] at e; exact absurd (by decide) e
    · intro x; rw [x] at e; exact absurd (by decide) e
    · intro x; rw [x] at e; exact absurd (by decide) e
theorem vr_inCell {r c i : Int32} {Q : Int32 → km_S → Prop} (h10 : nr ≤ 10) (l4 : nl ≤ 400) (A : ao_ nr nl a) (hn : (km_i μ 3).toInt = (nr : Int)) (h : rA_ a μ) (k1 : ∀ v, an_inCell nr a r c i = some v → Q v (mc0_ μ)) (k0 : an_inCell nr a r c i = none → Q 0 (mc1_ μ)) : vX12_inCell r c i μ Q := by
  unfold vX12_inCell
  rintro μ1 rfl
  have z12 : (12 : Int32).toInt = ((12 : Nat) : Int) := by decide
  have z20 : (20 : Int32).toInt = ((20 : Nat) : Int) := by decide
  have hn' : (km_i (km_si μ 1 0) 3).toInt = (nr : Int) := hn
  have h' : rA_ a (km_si μ 1 0) := h
  refine vr_isCell A hn' h' (fun z => ⟨fun x => absurd rfl x, fun _ => ?_⟩) (fun q p hq hp hlt hpl => ⟨fun _ => ?_, fun x => absurd x (by decide)⟩)
  · rintro _ rfl
    exact k0 (if_neg z)
  · have hin : in_ r nr ∧ in_ c (ln_ a r.toNatClampNeg) := ⟨in_of hq hlt, by rw [ki_toN hq]; exact in_of hp hpl⟩
    have p12 := (A.1 q hlt).1
    have ea : an_inCell nr a r c i = some (at_ (a.2 (12 * q + p)) i) := by
      unfold an_inCell
      rw [if_pos hin, ki_toN hq, ki_toN hp]
    obtain ⟨k, ek, hk⟩ : ∃ k, k = 12 * r + c ∧ k.toInt = ((12 * q + p : Nat) : Int) := ⟨_, rfl, ki_addN (ki_mulN z12 hq (by omega)) hp (by omega)⟩
    unfold vX12_at0
    dsimp only
    rw [← ek, ki_toN hk]
    refine ⟨fun d => k1 _ ?_, fun d _ => ?_⟩
    · rw [ki_lt, ki_z0] at d
      rw [ea, at_neg d]
    · rw [ki_lt, ki_z0] at d
      obtain ⟨j, hj⟩ : ∃ j : Nat, i.toInt = (j : Int) := ⟨i.toInt.toNat, by omega⟩
      have la := h'.2.1 (12 * q + p) (by omega)
      obtain ⟨z1, z2⟩ := at_km la (fun x hx => by have := (A.2.1 _ x hx).1; omega) hj
      refine ⟨fun e _ => k1 _ ?_, fun e => k1 _ ?_⟩
      · have n20 : (a.2 (12 * q + p)).length ≤ 20 := by
          have := (A.2.2.2.1 q p hlt hpl).1
          have := (A.1 q hlt).2.2.1.2
          omega
        have e' := e
        rw [ki_lt, la.1, hj] at e'
        rw [ki_toN (ki_addN (ki_mulN z20 hk (by omega)) hj (by omega)), ea, z1 e]
      · rw [ea, z2 e]
theorem vr_heap {r i : Int32} {Q : Int32 → km_S → Prop} (h10 : nr ≤ 10) (l4 : nl ≤ 400) (A : ao_ nr nl a) (hn : (km_i μ 3).toInt = (nr : Int)) (h : rA_ a μ) (k1 : ∀ v, an_heap nr a r i = some v → Q v (mc0_ μ)) (k0 : an_heap nr a r i = none → Q 0 (mc1_ μ)) : vX12_heap r i μ Q := by
  unfold vX12_heap
  rintro μ1 rfl
  have z100 : (100 : Int32).toInt = ((100 : Nat) : Int) := by decide
  have hn' : (km_i (km_si μ 1 0) 3).toInt = (nr : Int) := hn
  have h' : rA_ a (km_si μ 1 0) := h
  refine vr_isReach hn' (fun z => ⟨fun x => absurd rfl x, fun _ => ?_⟩) (fun q hq hlt => ⟨fun _ _ => ?_, fun x => absurd x (by decide)⟩)
  · rintro _ rfl
    exact k0 (if_neg z)
  · have ea : an_heap nr a r i = if a.1 22 q = 0 then some (-1) else if i = -1 then some (nI (a.2 (120 + q)).length) else some (at_ (a.2 (120 + q)) i) := by
      unfold an_heap
      rw [if_pos (in_of hq hlt), ki_toN hq]
    have la := h'.2.2.1 q (by omega)
    have n100 : (a.2 (120 + q)).length ≤ 100 := by have := (A.2.2.2.2.1 q hlt).1; omega
    rw [ki_toN hq, h'.1 22 (by decide)]
    refine ⟨fun z0 => ⟨fun c => ⟨fun d => k1 _ ?_, fun d _ => ?_⟩, fun c _ => k1 _ ?_⟩, fun z0 => k1 _ ?_⟩
    · rw [ki_lt, ki_z0] at d
      rw [ea, if_neg z0, if_neg c, at_neg d]
    · rw [ki_lt, ki_z0] at d
      obtain ⟨j, hj⟩ : ∃ j : Nat, i.toInt = (j : Int) := ⟨i.toInt.toNat, by omega⟩
      obtain ⟨z1, z2⟩ := at_km la (fun x hx => by have := (A.2.1 _ x hx).1; omega) hj
      refine ⟨fun e _ => k1 _ ?_, fun e => k1 _ ?_⟩
      · have e' := e
        rw [ki_lt, la.1, hj] at e'
        rw [ki_toN (ki_addN (ki_mulN z100 hq (by omega)) hj (by omega)), ea, if_neg z0, if_neg c, z1 e]
      · rw [ea, if_neg z0, if_neg c, z2 e]
    · rw [ea, if_neg z0, if_pos c, nI_w la.1 (by omega)]
    · rw [ea, if_pos z0]
theorem vr_water {r i : Int32} {Q : Int32 → km_S → Prop} (A : ao_ nr nl a) (hn : (km_i μ 3).toInt = (nr : Int)) (h : rA_ a μ) (hw : wm_ μ = w) (k1 : ∀ v, an_water nr a w r i = some v → Q v (mc0_ μ)) (k0 : an_water nr a w r i = none → Q 0 (mc1_ μ)) : vX12_water r i μ Q := by
  unfold vX12_water
  rintro μ1 rfl
  have hn' : (km_i (km_si μ 1 0) 3).toInt = (nr : Int) := hn
  have h' : rA_ a (km_si μ 1 0) := h
  have hw' : wm_ (km_si μ 1 0) = w := hw
  have w13 : km_a (km_si μ 1 0) 13 = w.1 := congrArg (fun w : wt_T => w.1) hw'
  have w25 : km_a (km_si μ 1 0) 25 = w.2.2.1 := congrArg (fun w : wt_T => w.2.2.1) hw'
  have w18 : km_a (km_si μ 1 0) 18 = w.2.2.2.1 := congrArg (fun w : wt_T => w.2.2.2.1) hw'
  have w19 : km_a (km_si μ 1 0) 19 = w.2.2.2.2.1 := congrArg (fun w : wt_T => w.2.2.2.2.1) hw'
  refine vr_isReach hn' (fun z => ⟨fun x => absurd rfl x, fun _ => ?_⟩) (fun q hq hlt => ⟨fun _ => ?_, fun x => absurd x (by decide)⟩)
  · rintro _ rfl
    exact k0 (if_neg z)
  · have ea : an_water nr a w r i = if i = 0 then some (w.2.2.2.1 q) else if i = 1 then some (w.2.2.2.2.1 q) else if i = 2 then some (if a.1 21 q = 0 then -1 else w.2.2.1 q) else if i = 3 then some (w.1 q) else if i = 4 then some (nI (ln_ a q)) else none := by
      unfold an_water
      rw [if_pos (in_of hq hlt), ki_toN hq]
    have e14 : (a.1 14 q).toInt = (ln_ a q : Int) := by
      have := (A.1 q hlt).2.1
      unfold ln_ at this ⊢
      rw [ki_nat] at this ⊢
      omega
    have l12 := (A.1 q hlt).1
    rintro v4 rfl
    rw [ki_toN hq, w18, w19, h'.1 21 (by decide), w25, w13, h'.1 14 (by decide)]
    refine ⟨fun c _ => k1 _ ?_, fun c _ => k1 _ ?_, fun c _ => ⟨fun z => k1 _ ?_, fun z _ => k1 _ ?_⟩, fun c _ => k1 _ ?_, fun c _ => k1 _ ?_, fun n0 n1 n2 n3 n4 => ?_⟩
    · rw [ea, if_pos c]
    · rw [ea, c, if_neg (by decide), if_pos rfl]
    · rw [ea, c, if_neg (by decide), if_neg (by decide), if_pos rfl, if_pos z]
    · rw [ea, c, if_neg (by decide), if_neg (by decide), if_pos rfl, if_neg z]
    · rw [ea, c, if_neg (by decide), if_neg (by decide), if_neg (by decide), if_pos rfl]
    · rw [ea, c, if_neg (by decide), if_neg (by decide), if_neg (by decide), if_neg (by decide), if_pos rfl, nI_w e14 (by omega)]
    · rintro _ rfl
      exact k0 (by rw [ea, if_neg n0, if_neg n1, if_neg n2, if_neg n3, if_neg n4])
end
end
section
/-! boards, and what is counted -/
abbrev hb_ (a : ra_T) (b : Int32) (x : Nat) : Prop := ¬ a.1 42 x = -1 ∧ (a.1 42 x).toInt ≤ b.toInt ∧ b.toInt < (a.1 42 x).toInt + (a.1 36 x).toInt
def bo_ (a : ra_T) (b : Int32) : Nat → Nat → Option Int32
  | 0, _ => none
  | m + 1, x => if hb_ a b x then some (nI x) else bo_ a b m (x + 1)
theorem bo_no {a : ra_T} {b : Int32} : ∀ (m x : Nat), (∀ y, x ≤ y → y < x + m → ¬ hb_ a b y) → bo_ a b m x = none := by
  intro m
  induction m with
  | zero => intro x _; rfl
  | succ m ih =>
    intro x h
    unfold bo_
    rw [if_neg (h x (Nat.le_refl x) (by omega))]
    exact ih (x + 1) (fun y h1 h2 => h y (by omega) (by omega))
theorem bo_yes {a : ra_T} {b : Int32} {z : Nat} (hz : hb_ a b z) : ∀ (m x : Nat), x ≤ z → z < x + m → (∀ y, x ≤ y → y < x + m → hb_ a b y → y = z) → bo_ a b m x = some (nI z) := by
  intro m
  induction m with
  | zero => intro x h1 h2; omega
  | succ m ih =>
    intro x h1 h2 h
    unfold bo_
    by_cases c : hb_ a b x
    · rw [if_pos c, h x (Nat.le_refl x) (by omega) c]
    · rw [if_neg c]
      have ne : x ≠ z := fun e => c (by rw [e]; exact hz)
      exact ih (x + 1) (by omega) (by omega) (fun y q1 q2 => h y (by omega) (by omega))
def cn_ (F : Nat → Int32) : Nat → Nat
  | 0 => 0
  | k + 1 => cn_ F k + (if F k = 0 then 0 else 1)
theorem cn_le {F : Nat → Int32} : ∀ k, cn_ F k ≤ k := by
  intro k
  induction k with
  | zero => exact Nat.le_refl 0
  | succ k ih =>
    unfold cn_
    split
    · omega
    · omega
theorem cn_z {F : Nat → Int32} {i : Nat} : ∀ j, i ≤ j → (∀ k, i ≤ k → k < j → F k = 0) → cn_ F j = cn_ F i := by
  intro j
  induction j with
  | zero => intro h _; rw [show i = 0 by omega]
  | succ j ih =>
    intro h hz
    by_cases c : i = j + 1
    · rw [c]
    · show cn_ F j + (if F j = 0 then 0 else 1) = _
      rw [if_pos (hz j (by omega) (by omega)), Nat.add_zero]
      exact ih (by omega) (fun k h1 h2 => hz k h1 (by omega))
/-- where there is no cell there is no jam -/
def wk_ (nr : Nat) (a : ra_T) : Prop := ∀ r c, r < 10 → c < 12 → ¬ (r < nr ∧ c < ln_ a r) → a.1 33 (12 * r + c) = 0 ∧ a.1 34 (12 * r + c) = 0
def an_count (m : Nat) (s : sz_T) (a : ra_T) (i : Int32) : Option Int32 := if i = 0 then some s.1.2.2.2.2.2 else if i = 1 then some s.1.1 else if i = 2 then some s.1.2.1 else if i = 3 then some (nI m) else if i = 4 then some (a.1 6 0) else if i = 5 then some s.1.2.2.1 else if i = 6 then some (nI (cn_ (a.1 33) 120)) else if i = 7 then some (nI (cn_ (a.1 34) 120)) else if i = 8 then some s.1.2.2.2.1 else if i = 9 then some s.1.2.2.2.2.1 else none
section
variable {T : Nat → Nat → Nat} {N : Nat → Nat} {g κ : Nat → Nat} {st na nr nl nc no m : Nat} {day : Nat → Int32} {RL : Nat → List (Bool × List Int32)} {s : sz_T} {B n : Nat} {a : ra_T} {w : wt_T} {σ : kx_S}
theorem vq_board {b : Int32} {Q : Int32 → kx_S → Prop} {QX : String → kx_S → Prop} (l4 : nl ≤ 400) (J : yJ_ s g κ B n σ) (h4 : q4_ T (g 2) nl a σ) (hp : ∀ x, x < nl → ¬ a.1 42 x = -1 → 0 ≤ (a.1 42 x).toInt ∧ (a.1 42 x).toInt ≤ 100000 ∧ 1 ≤ (a.1 36 x).toInt ∧ (a.1 36 x).toInt ≤ 9) (k1 : ∀ v, bo_ a b nl 0 = some v → Q v σ) (k0 : bo_ a b nl 0 = none → QX pz_N (xbump σ)) : vX11_board (g 0) b σ Q QX := by
  have loop : ∀ (j x k : Nat) (i : Int32), i.toInt = (x : Int) → x + k = nl → bo_ a b nl 0 = bo_ a b k x → vX11_board_2 (vX11_board_67 Q QX) Q QX j (g 0) b i σ := by
    intro j
    induction j with
    | zero => intro _ _ _ _ _ _; exact trivial
    | succ j ih =>
      intro x k i hi hk hb
      unfold vX11_board_2
      intro _ a4 e4 _
      obtain rfl := Option.some.inj ((yg2 J).1.symm.trans e4)
      unfold vJx4a65c_size_8abf5
      intro _
      rw [ki_le, h4.1, hi]
      refine ⟨fun q => ?_, fun q _ => ?_⟩
      · have : k = 0 := by omega
        subst this
        unfold vX11_board_67
        intro _
        exact k0 hb
      · obtain ⟨k, rfl⟩ : ∃ q, k = q + 1 := ⟨k - 1, by omega⟩
        have hx : x < nl := by omega
        obtain ⟨⟨b1, b2⟩, _, ⟨_, b36, _⟩, _, _, _, _, b42⟩ := h4.2 x hx
        have nx : ∀ v : Int32, v = i + 1 → v.toInt = ((x + 1 : Nat) : Int) := fun v e => by rw [e]; exact ki_addN hi ki_z1 (by omega)
        have skip : ¬ hb_ a b x → vX11_board_61 (vX11_board_2 (vX11_board_67 Q QX) Q QX j) Q QX (g 0) b i σ := by
          intro c
          unfold vX11_board_61
          intro v1 e1
          refine ih (x + 1) k v1 (nx v1 e1) (by omega) ?_
          rw [hb]
          show (if hb_ a b x then some (nI x) else bo_ a b k (x + 1)) = _
          rw [if_neg c]
        intro a11 e11 _
        obtain rfl := Option.some.inj ((yg2 J).1.symm.trans e11)
        refine vy_get (fun _ _ => ?_)
        rw [ki_toN hi, b1]
        intro a16 e16 _
        obtain rfl := Option.some.inj e16
        rw [b42, b36]
        refine ⟨fun c => skip (fun z => z.1 c), fun c => ?_⟩
        obtain ⟨p1, p2, p3, p4⟩ := hp x hx c
        have es : (a.1 42 x + a.1 36 x - 1).toInt = (a.1 42 x).toInt + (a.1 36 x).toInt - 1 := by
          have e1 : (a.1 42 x + a.1 36 x).toInt = (a.1 42 x).toInt + (a.1 36 x).toInt := ki_add (by omega) (by omega)
          rw [ki_sub (by rw [e1, ki_z1]; omega) (by rw [e1, ki_z1]; omega), e1, ki_z1]
        refine vy_within (fun d => ⟨fun _ => skip (fun z => d ?_), fun x => absurd rfl x⟩) (fun c1 c2 => ⟨fun x => absurd x (by decide), fun _ => ?_⟩)
        · rw [es]
          exact ⟨z.2.1, by have := z.2.2; omega⟩
        · rw [es] at c2
          have hh : hb_ a b x := ⟨c, c1, by omega⟩
          refine k1 i ?_
          rw [hb]
          show (if hb_ a b x then some (nI x) else bo_ a b k (x + 1)) = _
          rw [if_pos hh, nI_w hi (by omega)]
  unfold vX11_board
  intro j
  exact loop j 0 nl 0 (by decide) (by omega) rfl
theorem vq_countJams {f fc : Nat} {l1 : Int32} {Q : Int32 → kx_S → Prop} (h10 : nr ≤ 10) (J : yJ_ s g κ B n σ) (h1 : q1_ T (g 1) nr a σ) (h2 : q2_ T nr a σ) (hz : ∀ r c, r < 10 → c < 12 → ¬ (r < nr ∧ c < ln_ a r) → a.1 f (12 * r + c) = 0) (hf : (l1 = 0 ∧ f = 33) ∨ (¬ l1 = 0 ∧ f = 34)) (kk : Q (nI (cn_ (a.1 f) 120)) σ) : vX11_countJams (g 0) l1 σ Q := by
  have loop2 : ∀ (r : Nat) (ri : Int32) (K : Nat → Int32 → Int32 → Int32 → kx_S → Prop), r < nr → (∀ v : Int32, v.toInt = (cn_ (a.1 f) (12 * (r + 1)) : Int) → K (g 0) l1 v ri σ) → ∀ (j c : Nat) (ci l5 : Int32), l5.toInt = (c : Int) → c ≤ ln_ a r → ci.toInt = (cn_ (a.1 f) (12 * r + c) : Int) → vX11_countJams_35 K Q j (g 0) l1 ci ri (T 10 r) l5 σ := by
    intro r ri K hr kK j
    obtain ⟨_, _, _, _, _, b1, b2, b3, b4, b5⟩ := h1.2 r hr
    induction j with
    | zero => intro _ _ _ _ _ _; exact trivial
    | succ j ih =>
      intro c ci l5 h5 hc hci
      have hle := cn_le (F := a.1 f) (12 * r + c)
      unfold vX11_countJams_35
      intro _ a5 e5 _
      obtain rfl := Option.some.inj (b1.symm.trans e5)
      unfold vJx4a65c_size_8abf5
      intro _
      rw [ki_le, b3, h5]
      refine ⟨fun q => kK ci ?_, fun q _ => ?_⟩
      · have : c = ln_ a r := by omega
        rw [hci, this]
        rw [cn_z (F := a.1 f) (i := 12 * r + ln_ a r) (12 * (r + 1)) (by omega) (fun k k1 k2 => ?_)]
        have e : k = 12 * r + (k - 12 * r) := by omega
        rw [e]
        exact hz r (k - 12 * r) (by omega) (by omega) (fun z => by have := z.2; omega)
      · have hlt : c < ln_ a r := by omega
        obtain ⟨⟨c1, c2⟩, c3, c4, c5, c6⟩ := h2 r hr c hlt
        have nx : ∀ v : Int32, v = l5 + 1 → v.toInt = ((c + 1 : Nat) : Int) := fun v e => by rw [e]; exact ki_addN h5 ki_z1 (by omega)
        have e33 : cn_ (a.1 f) (12 * r + (c + 1)) = cn_ (a.1 f) (12 * r + c) + (if a.1 f (12 * r + c) = 0 then 0 else 1) := rfl
        have sk : a.1 f (12 * r + c) = 0 → vX11_countJams_93 (vX11_countJams_35 K Q j) Q (g 0) l1 ci ri (T 10 r) l5 σ := by
          intro z
          unfold vX11_countJams_93
          intro v3 e3
          refine ih (c + 1) ci v3 (nx v3 e3) hlt ?_
          rw [e33, if_pos z]
          exact hci
        have yes : ¬ a.1 f (12 * r + c) = 0 → vX11_countJams_90 (vX11_countJams_93 (vX11_countJams_35 K Q j) Q) Q (g 0) l1 ci ri (T 10 r) l5 σ := by
          intro z
          unfold vX11_countJams_90
          intro v1 e1
          unfold vX11_countJams_93
          intro v3 e3
          refine ih (c + 1) v1 v3 (nx v3 e3) hlt ?_
          rw [e33, if_neg z, e1]
          exact ki_addN hci ki_z1 (by omega)
        intro a12 e12 _
        obtain rfl := Option.some.inj (b1.symm.trans e12)
        refine vy_get (fun _ _ => ?_)
        rw [ki_toN h5, c1]
        intro a17 e17 _
        obtain rfl := Option.some.inj e17
        rw [c5, c6]
        rcases hf with ⟨hl, rfl⟩ | ⟨hl, rfl⟩
        · exact ⟨fun _ => ⟨sk, yes⟩, fun q => absurd hl q⟩
        · exact ⟨fun q => absurd q hl, fun _ => ⟨sk, yes⟩⟩
  have loop : ∀ (j r : Nat) (ci i : Int32), i.toInt = (r : Int) → r ≤ nr → ci.toInt = (cn_ (a.1 f) (12 * r) : Int) → vX11_countJams_4 Q j (g 0) l1 ci i σ := by
    intro j
    induction j with
    | zero => intro _ _ _ _ _ _; exact trivial
    | succ j ih =>
      intro r ci i hi hr hci
      have hle := cn_le (F := a.1 f) (12 * r)
      unfold vX11_countJams_4
      intro _ a24 e24 _
      obtain rfl := Option.some.inj ((yg1 J).1.symm.trans e24)
      unfold vJx4a65c_size_8abf5
      intro _
      rw [ki_le, h1.1, hi]
      refine ⟨fun q => ?_, fun q _ => ?_⟩
      · have : r = nr := by omega
        subst this
        have e : cn_ (a.1 f) 120 = cn_ (a.1 f) (12 * r) := cn_z 120 (by omega) (fun k k1 k2 => by
          have e : k = 12 * (k / 12) + k % 12 := by omega
          rw [e]
          exact hz (k / 12) (k % 12) (by omega) (by omega) (fun z => by have := z.1; omega))
        rw [e, ← nI_w hci (by omega)] at kk
        exact kk
      · have hlt : r < nr := by omega
        intro a31 e31 _
        obtain rfl := Option.some.inj ((yg1 J).1.symm.trans e31)
        refine vy_get (fun _ _ => ?_)
        rw [ki_toN hi, ((h1.2 r hlt).1).1]
        intro a36 e36 _
        obtain rfl := Option.some.inj e36
        intro j2
        refine loop2 r i (vX11_countJams_99 (vX11_countJams_4 Q j) Q) hlt (fun v hv => ?_) j2 0 ci 0 (by decide) (by omega) hci
        unfold vX11_countJams_99
        intro v2 e2
        exact ih (r + 1) v v2 (by rw [e2]; exact ki_addN hi ki_z1 (by omega)) (by omega) hv
  unfold vX11_countJams
  intro j
  exact loop j 0 0 0 (by decide) (by omega) ki_z0
theorem vq_count {i : Int32} {Q : Int32 → kx_S → Prop} {QX : String → kx_S → Prop} (h10 : nr ≤ 10) (hz : wk_ nr a) (H : qo_ T N g κ st na nr nl m day RL s B n no a σ) (t213 : ∀ t, xr σ 213 (g 0) = some t → xi σ 177 t = s.1.2.2.2.2.1) (k1 : ∀ v, an_count m s a i = some v → Q v σ) (k0 : an_count m s a i = none → QX pz_N (xbump σ)) : vX11_count (g 0) i σ Q QX := by
  obtain ⟨⟨J, h0, h1, h2, h3, h4, h7, hj⟩, h6, hb, k22⟩ := H
  have es := J.2.2.2.2.1
  have e1 : xi σ 18 (g 1) = s.1.1 := congrArg (fun p => p.1) es
  have e2 : xi σ 18 (g 2) = s.1.2.1 := congrArg (fun p => p.2.1) es
  have e4 : xi σ 18 (g 4) = s.1.2.2.1 := congrArg (fun p => p.2.2.1) es
  have e5 : xi σ 18 (g 5) = s.1.2.2.2.1 := congrArg (fun p => p.2.2.2.1) es
  have e217 : xi σ 217 (g 0) = s.1.2.2.2.2.2 := congrArg (fun p => p.2.2.2.2.2) es
  unfold vX11_count
  rintro v1 rfl
  refine ⟨fun c _ => k1 _ ?_, fun c _ a6 e6 _ => ?_, fun c _ a6 e6 _ => ?_, fun c _ a6 e6 _ => ?_, fun c _ => k1 _ ?_, fun c _ a6 e6 _ => ?_, fun c _ => ?_, fun c _ => ?_, fun c _ a6 e6 _ => ?_, fun c _ a6 e6 _ => k1 _ ?_, fun n0 n1 n2 n3 n4 n5 n6 n7 n8 n9 _ => k0 ?_⟩
  · rw [c, e217]; rfl
  · obtain rfl := Option.some.inj ((yg1 J).1.symm.trans e6)
    unfold vJx4a65c_size_8abf5
    intro _
    rw [e1]
    exact k1 _ (by rw [c]; rfl)
  · obtain rfl := Option.some.inj ((yg2 J).1.symm.trans e6)
    unfold vJx4a65c_size_8abf5
    intro _
    rw [e2]
    exact k1 _ (by rw [c]; rfl)
  · obtain rfl := Option.some.inj ((yg3 J).1.symm.trans e6)
    unfold vJx4a65c_size_8abf5
    intro _
    rw [nI_w h7.1 (by have := h7.2.1; omega)]
    exact k1 _ (by rw [c]; rfl)
  · rw [c, hb]; rfl
  · obtain rfl := Option.some.inj ((yg4 J).1.symm.trans e6)
    unfold vJx4a65c_size_8abf5
    intro _
    rw [e4]
    exact k1 _ (by rw [c]; rfl)
  · exact vq_countJams (f := 33) (fc := 50) h10 J h1 h2 (fun r c p q z => (hz r c p q z).1) (.inl ⟨rfl, rfl⟩) (k1 _ (by rw [c]; rfl))
  · exact vq_countJams (f := 34) (fc := 51) h10 J h1 h2 (fun r c p q z => (hz r c p q z).2) (.inr ⟨by decide, rfl⟩) (k1 _ (by rw [c]; rfl))
  · obtain rfl := Option.some.inj ((yg5 J).1.symm.trans e6)
    unfold vJx4a65c_size_8abf5
    intro _
    rw [e5]
    exact k1 _ (by rw [c]; rfl)
  · rw [t213 a6 e6, c]; rfl
  · unfold an_count
    rw [if_neg n0, if_neg n1, if_neg n2, if_neg n3, if_neg n4, if_neg n5, if_neg n6, if_neg n7, if_neg n8, if_neg n9]
end
/-! the reference -/
theorem vr_board {nl : Nat} {a : ra_T} {μ : km_S} {b : Int32} {Q : Int32 → km_S → Prop} (l4 : nl ≤ 400) (Bd : rB_ nl a μ) (h : rA_ a μ) (k1 : ∀ v, bo_ a b nl 0 = some v → Q v (mc0_ μ)) (k0 : bo_ a b nl 0 = none → Q 0 (mc1_ μ)) : vX12_board b μ Q := by
  obtain ⟨B1, B2, B3, B4⟩ := Bd
  unfold vX12_board
  rintro μ3 rfl
  have e6 : km_i (km_si μ 1 0) 6 = a.1 6 0 := h.2.2.2
  have out : (b.toInt < 0 ∨ (a.1 6 0).toInt ≤ b.toInt) → vX12_board_17 Q (km_si μ 1 0) := by
    intro c
    rintro _ rfl
    refine k0 (bo_no nl 0 (fun y _ hy z => ?_))
    obtain ⟨p1, p2, _⟩ := B4 y (by omega) z.1
    have := z.2.1
    have := z.2.2
    omega
  rw [e6, ki_lt, ki_z0, ki_lt]
  refine ⟨fun c => out (.inl c), fun c => ⟨fun d _ => ?_, fun d => out (.inr (by omega))⟩⟩
  obtain ⟨q, hq⟩ : ∃ q : Nat, b.toInt = (q : Int) := ⟨b.toInt.toNat, by omega⟩
  obtain ⟨x, x1, x2, x3, x4⟩ := B3 q (by omega)
  have hx : hb_ a b x := ⟨x2, by omega, by omega⟩
  have e43 : ∀ y, y < nl → hb_ a b y → (km_a μ 43 q).toInt = (y : Int) := fun y hy z => (B4 y hy z.1).2.2 q (by have := z.2.1; omega) (by have := z.2.2; omega)
  rw [ki_toN hq]
  refine k1 _ ?_
  rw [bo_yes hx nl 0 (by omega) (by omega) (fun y _ hy z => ?_)]
  · congr 1
    exact (nI_w (e43 x x1 hx) (by omega)).symm
  · have p1 := e43 y (by omega) z
    have p2 := e43 x x1 hx
    omega
theorem vr_count {m : Nat} {s : sz_T} {a : ra_T} {μ : km_S} {i : Int32} {Q : Int32 → km_S → Prop} (m6 : m ≤ 6) (hs : sm_ μ = s) (h5 : (km_i μ 5).toInt = (m : Int)) (h : rA_ a μ) (k1 : ∀ v, an_count m s a i = some v → Q v (mc0_ μ)) (k0 : an_count m s a i = none → Q 0 (mc1_ μ)) : vX12_count i μ Q := by
  have z120 : (120 : Int32).toInt = 120 := by decide
  have h' : rA_ a (km_si μ 1 0) := h
  have fin : ∀ x y : Int32, x.toInt = (cn_ (a.1 33) 120 : Int) → y.toInt = (cn_ (a.1 34) 120 : Int) → vX12_count_61 Q i x y (km_si μ 1 0) := by
    intro x y hx hy
    have l1 := cn_le (F := a.1 33) 120
    have l2 := cn_le (F := a.1 34) 120
    have e6 : km_i (km_si μ 1 0) 6 = a.1 6 0 := h'.2.2.2
    have e5 : km_i (km_si μ 1 0) 5 = nI m := nI_w h5 (by omega)
    unfold vX12_count_61
    rintro v9 rfl
    rw [e6, e5, nI_w hx (by omega), nI_w hy (by omega)]
    subst hs
    refine ⟨fun c => k1 _ (by rw [c]; rfl), fun c => k1 _ (by rw [c]; rfl), fun c => k1 _ (by rw [c]; rfl), fun c => k1 _ (by rw [c]; rfl), fun c => k1 _ (by rw [c]; rfl), fun c => k1 _ (by rw [c]; rfl), fun c => k1 _ (by rw [c]; rfl), fun c => k1 _ (by rw [c]; rfl), fun c => k1 _ (by rw [c]; rfl), fun c => k1 _ (by rw [c]; rfl), fun n0 n1 n2 n3 n4 n5 n6 n7 n8 n9 => ?_⟩
    rintro _ rfl
    refine k0 ?_
    unfold an_count
    rw [if_neg n0, if_neg n1, if_neg n2, if_neg n3, if_neg n4, if_neg n5, if_neg n6, if_neg n7, if_neg n8, if_neg n9]
  have loop : ∀ (j k : Nat) (l2 l3 l4 : Int32), l4.toInt = (k : Int) → k ≤ 120 → l2.toInt = (cn_ (a.1 33) k : Int) → l3.toInt = (cn_ (a.1 34) k : Int) → vX12_count_12 (vX12_count_61 Q) Q j i l2 l3 l4 (km_si μ 1 0) := by
    intro j
    induction j with
    | zero => intro _ _ _ _ _ _ _ _; exact trivial
    | succ j ih =>
      intro k l2 l3 l4 h4 hk h2 h3
      have c1 := cn_le (F := a.1 33) k
      have c2 := cn_le (F := a.1 34) k
      unfold vX12_count_12
      rw [ki_le, z120, h4, ki_toN h4, h'.1 33 (by decide)]
      have stp : ∀ s0 : Int32, s0.toInt = ((if a.1 33 k = 0 then 0 else 1 : Nat) : Int) → ¬ (120 : Int) ≤ (k : Int) → vX12_count_35 (vX12_count_12 (vX12_count_61 Q) Q j) Q i l3 l4 s0 l2 (km_si μ 1 0) := by
        intro s0 hs0 hlt
        have b1 : (if a.1 33 k = 0 then 0 else 1 : Nat) ≤ 1 := by split <;> omega
        unfold vX12_count_35
        intro v3 e3 _
        rw [ki_toN h4, h'.1 34 (by decide)]
        have f3 : v3.toInt = (cn_ (a.1 33) (k + 1) : Int) := by
          rw [e3]
          exact ki_addN h2 hs0 (by omega)
        have go : ∀ t0 : Int32, t0.toInt = ((if a.1 34 k = 0 then 0 else 1 : Nat) : Int) → vX12_count_53 (vX12_count_12 (vX12_count_61 Q) Q j) Q i v3 l4 t0 l3 (km_si μ 1 0) := by
          intro t0 ht0
          have b2 : (if a.1 34 k = 0 then 0 else 1 : Nat) ≤ 1 := by split <;> omega
          unfold vX12_count_53
          intro v1 e1 v2 e2
          refine ih (k + 1) v3 v1 v2 (by rw [e2]; exact ki_addN h4 ki_z1 (by omega)) (by omega) f3 ?_
          rw [e1]
          exact ki_addN h3 ht0 (by omega)
        exact ⟨fun c => go 0 (by rw [if_pos c]; decide), fun c => go 1 (by rw [if_neg c]; decide)⟩
      refine ⟨fun q => ?_, fun q _ => ⟨fun c => stp 0 (by rw [if_pos c]; decide) q, fun c => stp 1 (by rw [if_neg c]; decide) q⟩⟩
      have : k = 120 := by omega
      subst this
      exact fin l2 l3 h2 h3
  unfold vX12_count
  rintro μ22 rfl j
  exact loop j 0 0 0 0 (by decide) (by omega) ki_z0 ki_z0
end
section
/-! what is not there is empty -/
def zi_ (nr nl : Nat) (a : ra_T) : Prop := (∀ r, r < 10 → a.1 22 r = 0 → a.2 (120 + r) = []) ∧ (∀ x, nl ≤ x → a.1 41 x = 0) ∧ wk_ nr a ∧ ∀ r, nr ≤ r → a.1 21 r = 0 ∧ a.1 22 r = 0 ∧ a.1 23 r = 0
theorem wk_same {nr : Nat} {a b : ra_T} (h : wk_ nr a) (e14 : b.1 14 = a.1 14) (e33 : b.1 33 = a.1 33) (e34 : b.1 34 = a.1 34) : wk_ nr b := by
  have el : ∀ r, ln_ b r = ln_ a r := fun r => by unfold ln_; rw [e14]
  intro r c h1 h2 h3
  rw [el] at h3
  rw [e33, e34]
  exact h r c h1 h2 h3
theorem zi_same {nr nl : Nat} {a b : ra_T} (Z : zi_ nr nl a) (e : ∀ f, f ∈ [14, 21, 22, 23, 33, 34, 41] → b.1 f = a.1 f) (e2 : ∀ r, r < 10 → a.1 22 r = 0 → a.2 (120 + r) = [] → b.2 (120 + r) = []) : zi_ nr nl b := by
  obtain ⟨z1, z2, z3, z4⟩ := Z
  refine ⟨fun r hr h => ?_, ?_, wk_same z3 (e 14 (by decide)) (e 33 (by decide)) (e 34 (by decide)), ?_⟩
  · rw [e 22 (by decide)] at h
    exact e2 r hr h (z1 r hr h)
  · rw [e 41 (by decide)]; exact z2
  · rw [e 21 (by decide), e 22 (by decide), e 23 (by decide)]; exact z4
theorem hp_go {a : ra_T} {r c sp x nr nl q : Nat} (h10 : nr ≤ 10) (A : ao_ nr nl a) (hr : r < nr) (hc : c < ln_ a r) (h0 : a.1 22 q = 0) (hq : a.2 (120 + q) = []) : (a_go a r c sp x).2 (120 + q) = [] := by
  have c12 := (A.1 r hr).1
  unfold a_go
  split
  · next b e =>
    show (if 120 + q = 12 * r + c then _ else b.2 (120 + q)) = []
    rw [if_neg (by omega)]
    rcases a_on_cases A hr hc e with ⟨r1, c1, i1, i2, _, _, g5⟩ | ⟨i1, _, g5⟩ | g5
    · have := (A.1 r1 i1).1
      rw [g5]
      show (if 120 + q = 12 * r1 + c1 then _ else a.2 (120 + q)) = []
      rw [if_neg (by omega)]
      exact hq
    · rw [g5]
      have ne : q ≠ r := fun e => i1 (by rw [← e]; exact h0)
      show (if 120 + q = 120 + r then _ else a.2 (120 + q)) = []
      rw [if_neg (by omega)]
      exact hq
    · rw [g5]
      exact hq
  · exact hq
theorem hp_goE {a : ra_T} {r c x nr nl q : Nat} (h10 : nr ≤ 10) (A : ao_ nr nl a) (hr : r < nr) (hc : c < ln_ a r) (h0 : a.1 22 q = 0) (hq : a.2 (120 + q) = []) : (a_goE a r c x).2 (120 + q) = [] := by
  unfold a_goE
  split
  · exact hq
  · exact hp_go h10 A hr hc h0 hq
theorem hp_gosE {r c nr nl q : Nat} (h10 : nr ≤ 10) (hr : r < nr) : ∀ (L : List Nat) (a : ra_T), L.Nodup → aq_ nr nl a → c < ln_ a r → (∀ y ∈ L, y ∈ a.2 (12 * r + c)) → a.1 22 q = 0 → a.2 (120 + q) = [] → (a_gosE r c L a).2 (120 + q) = [] := by
  intro L
  induction L with
  | nil => intro a _ _ _ _ _ h; exact h
  | cons x L ih =>
    intro a nd A hc hm h0 hq
    rw [List.nodup_cons] at nd
    have hx := hm x (List.mem_cons_self)
    obtain ⟨A1, k1, m1⟩ := aq_goE h10 A hr hc hx
    exact ih (a_goE a r c x) nd.2 A1 (by rw [qs_ln k1]; exact hc) (fun y hy => m1 y (hm y (List.mem_cons_of_mem x hy)) (fun e => nd.1 (by rw [← e]; exact hy))) (by rw [k1 22 (by decide) (by decide) (by decide)]; exact h0) (hp_goE h10 A.1 hr hc h0 hq)
theorem hp_cells {r nr nl q : Nat} (h10 : nr ≤ 10) (hr : r < nr) : ∀ (c : Nat) (a : ra_T), c ≤ ln_ a r → aq_ nr nl a → ¬ a_speed a r ≤ 0 → a.1 22 q = 0 → a.2 (120 + q) = [] → (a_cells r (a_speed a r).toNatClampNeg c a).2 (120 + q) = [] := by
  intro c
  induction c with
  | zero => intro a _ _ _ _ h; exact h
  | succ c ih =>
    intro a hc A hs h0 hq
    have e := a_gosE_cell (r := r) (c := c) (a := a)
    rw [if_neg hs] at e
    have i2 := (p3_gosE h10 hr (c := c) (a.2 (12 * r + c)) a (A.1.2.2.1 _) A (by omega) (fun y hy => hy)).2
    have i3 := hp_gosE (q := q) h10 hr (c := c) (a.2 (12 * r + c)) a (A.1.2.2.1 _) A (by omega) (fun y hy => hy) h0 hq
    rw [e] at i2 i3
    have k := qs_cell (a := a) (r := r) (c := c) (sp := (a_speed a r).toNatClampNeg)
    have es := qs_speed k r
    have j1 := ih (a_cell a r c (a_speed a r).toNatClampNeg) (by rw [qs_ln k]; omega) i2 (by rw [es]; exact hs) (by rw [k 22 (by decide) (by decide) (by decide)]; exact h0) i3
    rw [es] at j1
    exact j1
theorem hp_move {nr nl q : Nat} (h10 : nr ≤ 10) : ∀ (k r : Nat) (a : ra_T), r + k = nr → aq_ nr nl a → a.1 22 q = 0 → a.2 (120 + q) = [] → (a_move k r a).2 (120 + q) = [] := by
  intro k
  induction k with
  | zero => intro r a _ _ _ h; exact h
  | succ k ih =>
    intro r a hk A h0 hq
    have h1 : aq_ nr nl (a_reach a r) ∧ (a_reach a r).2 (120 + q) = [] := by
      unfold a_reach
      split
      · exact ⟨A, hq⟩
      · next hs => exact ⟨(p3_cells h10 (by omega) (ln_ a r) a (Nat.le_refl _) A hs).2, hp_cells h10 (by omega) (ln_ a r) a (Nat.le_refl _) A hs h0 hq⟩
    exact ih (r + 1) (a_reach a r) (by omega) h1.1 (by rw [qs_reach 22 (by decide) (by decide) (by decide)]; exact h0) h1.2
theorem hp_saws {r o q : Nat} : ∀ (l : Nat) (a : ra_T), a.2 (120 + q) = [] → (a_saws r o l a).1.2 (120 + q) = [] := by
  intro l
  induction l with
  | zero => intro a h; exact h
  | succ l ih =>
    intro a h
    unfold a_saws
    split
    · exact h
    · next b e =>
      refine ih b ?_
      unfold a_saw1 at e
      split at e
      · exact absurd e (by simp)
      · cases e2 : (a.2 (120 + r)).find? (mt_b a o) with
        | none => rw [e2] at e; exact absurd e (by simp)
        | some x =>
          rw [e2] at e
          have e : some (a_sawn a r o x) = some b := e
          rw [← Option.some.inj e]
          show (if 120 + q = 120 + r then (a.2 (120 + r)).filter (fun z => decide (¬ z = x)) else a.2 (120 + q)) = []
          split
          · next c => rw [← c, h]; rfl
          · exact h
theorem hp_millL {r q : Nat} : ∀ (L : List Nat) (l : Nat) (a : ra_T), a.2 (120 + q) = [] → (a_millL r L l a).2 (120 + q) = [] := by
  intro L
  induction L with
  | nil => intro l a h; exact h
  | cons o L ih => intro l a h; exact ih _ _ (hp_saws l a h)
theorem hp_mills {no q : Nat} : ∀ (k r : Nat) (a : ra_T), a.2 (120 + q) = [] → (a_mills no k r a).2 (120 + q) = [] := by
  intro k
  induction k with
  | zero => intro r a h; exact h
  | succ k ih => intro r a h; exact ih (r + 1) _ (hp_millL _ _ _ h)
theorem cp2_cell {nr : Nat} {a : ra_T} {C : Nat → Nat → Prop} {r c r0 c0 : Nat} (hl : ∀ r, r < nr → ln_ a r ≤ 12) (hc : c < 12) (h : cp2_ nr a C r0 c0 (12 * r + c)) : r < nr ∧ c < ln_ a r := by
  obtain ⟨r', c', h1, h2, h3, _⟩ := h
  have := hl r' h1
  obtain ⟨e1, e2⟩ := cell_ne (r := r') (c := c') (r1 := r) (c1 := c) (by omega) hc h3
  rw [e1, e2]
  exact ⟨h1, h2⟩
theorem wk_jam {nr : Nat} {a : ra_T} (hl : ∀ r, r < nr → ln_ a r ≤ 12) (h : wk_ nr a) : wk_ nr (a_jam nr a) := by
  intro r c h1 h2 h3
  have h3 : ¬ (r < nr ∧ c < ln_ a r) := h3
  obtain ⟨z1, z2⟩ := h r c h1 h2 h3
  refine ⟨?_, z2⟩
  show kn_f (cp2_ nr a (jC_ a) nr 0) 1 (a.1 33) (12 * r + c) = 0
  rw [kn_n (fun q => h3 (cp2_cell hl h2 q))]
  exact z1
theorem wk_known {nr nc : Nat} {a : ra_T} (hl : ∀ r, r < nr → ln_ a r ≤ 12) (h : wk_ nr a) : wk_ nr (a_known nr nc a) := by
  intro r c h1 h2 h3
  have h3 : ¬ (r < nr ∧ c < ln_ a r) := h3
  obtain ⟨z1, z2⟩ := h r c h1 h2 h3
  refine ⟨z1, ?_⟩
  show kn_f (cp2_ nr a (kC_ nc a) nr 0) 1 (a.1 34) (12 * r + c) = 0
  rw [kn_n (fun q => h3 (cp2_cell hl h2 q))]
  exact z2
theorem upd0 {F : Nat → Int32} {i k : Nat} (h : F k = 0) : upd F i 0 k = 0 := by
  by_cases c : k = i
  · rw [c, w_updS]
  · rw [w_updN c]; exact h
theorem wk_free1 {nr k : Nat} {now : Int32} {a : ra_T} (h : wk_ nr a) : wk_ nr (a_free1 now a k) := by
  unfold a_free1
  split
  · exact h
  · split
    · intro r c h1 h2 h3
      obtain ⟨z1, z2⟩ := h r c h1 h2 h3
      exact ⟨upd0 z1, upd0 z2⟩
    · exact h
theorem wk_free {nr : Nat} {now : Int32} : ∀ (m k : Nat) (a : ra_T), wk_ nr a → wk_ nr (a_free now m k a) := by
  intro m
  induction m with
  | zero => intro k a h; exact h
  | succ m ih => intro k a h; exact ih _ _ (wk_free1 h)
theorem zi_hour {nr nl nc no : Nat} {now : Int32} {w : wt_T} {a : ra_T} (h10 : nr ≤ 10) (A : aK_ nr nl nc now 0 a) (Z : zi_ nr nl a) : zi_ nr nl (a_hour nr nc no now w a) := by
  unfold a_hour
  have Z1 : zi_ nr nl (aw_ a w) := zi_same Z (fun f hf => aw_f (by intro e; rw [e] at hf; exact absurd hf (by decide)) (by intro e; rw [e] at hf; exact absurd hf (by decide))) (fun _ _ _ h => h)
  have A1 : aK_ nr nl nc now 0 (aw_ a w) := aK_w A
  generalize aw_ a w = a1 at *
  have q2 : qs_ a1 (a_move nr 0 a1) := (p3_move h10 nr 0 a1 (by omega) A1.1).2.2
  have Z2 : zi_ nr nl (a_move nr 0 a1) := zi_same Z1 (fun f hf => q2 f (by intro e; rw [e] at hf; exact absurd hf (by decide)) (by intro e; rw [e] at hf; exact absurd hf (by decide)) (by intro e; rw [e] at hf; exact absurd hf (by decide))) (fun r _ h0 h => hp_move h10 nr 0 a1 (by omega) A1.1 h0 h)
  have A2 := aK_m h10 A1
  clear q2 Z1 A1
  generalize a_move nr 0 a1 = a2 at *
  have hl : ∀ r, r < nr → ln_ a2 r ≤ 12 := fun r hr => (A2.1.1.1 r hr).1
  have Z3 : zi_ nr nl (a_jam nr a2) := ⟨Z2.1, Z2.2.1, wk_jam hl Z2.2.2.1, Z2.2.2.2⟩
  have A3 := aK_j A2
  clear Z2 A2 hl
  generalize a_jam nr a2 = a3 at *
  obtain ⟨f1, f2⟩ := a_free_c (now := now) nc 0 a3
  have Z4 : zi_ nr nl (a_free now nc 0 a3) := by
    obtain ⟨z1, z2, z3, z4⟩ := Z3
    refine ⟨?_, ?_, wk_free nc 0 a3 z3, ?_⟩
    · rw [f1 22 (by decide) (by decide) (by decide), f2]; exact z1
    · rw [f1 41 (by decide) (by decide) (by decide)]; exact z2
    · rw [f1 21 (by decide) (by decide) (by decide), f1 22 (by decide) (by decide) (by decide), f1 23 (by decide) (by decide) (by decide)]; exact z4
  have A4 := aK_f A3
  clear Z3 A3 f1 f2
  generalize a_free now nc 0 a3 = a4 at *
  have hl : ∀ r, r < nr → ln_ a4 r ≤ 12 := fun r hr => (A4.1.1.1 r hr).1
  have Z5 : zi_ nr nl (a_known nr nc a4) := ⟨Z4.1, Z4.2.1, wk_known hl Z4.2.2.1, Z4.2.2.2⟩
  have A5 := aK_k (nc := nc) A4
  clear Z4 A4 hl
  generalize a_known nr nc a4 = a5 at *
  have Z6 : zi_ nr nl (a_age a5) := by
    obtain ⟨z1, z2, z3, z4⟩ := Z5
    refine ⟨fun r hr h => ?_, fun x hx => ?_, wk_same z3 (ag_o (by decide) (by decide)) (ag_o (by decide) (by decide)) (ag_o (by decide) (by decide)), ?_⟩
    · rw [show (a_age a5).1 22 = a5.1 22 from ag_o (by decide) (by decide)] at h
      show (a5.2 (120 + r)).filter _ = []
      rw [z1 r hr h]
      rfl
    · rw [show (a_age a5).1 41 x = a5.1 41 x from ag_41n (fun q => A5.2.1 x hx q.2)]
      exact z2 x hx
    · rw [show (a_age a5).1 21 = a5.1 21 from ag_o (by decide) (by decide), show (a_age a5).1 22 = a5.1 22 from ag_o (by decide) (by decide), show (a_age a5).1 23 = a5.1 23 from ag_o (by decide) (by decide)]
      exact z4
  have A6 := aK_a A5
  generalize a_age a5 = a6 at *
  have gm := (qm_mills (no := no) nr 0 a6).1
  exact zi_same Z6 (fun f hf => gm f (by intro e; rw [e] at hf; exact absurd hf (by decide)) (by intro e; rw [e] at hf; exact absurd hf (by decide)) (by intro e; rw [e] at hf; exact absurd hf (by decide)) (by intro e; rw [e] at hf; exact absurd hf (by decide))) (fun r _ _ h => hp_mills nr 0 a6 h)
theorem zi_hours {nr nl nc no : Nat} {dm gt ml : Nat → Int32} (h10 : nr ≤ 10) : ∀ (k : Nat) (p : Int32 × ra_T × wt_T), p.1.toInt + (k : Int) ≤ 20000 → aK_ nr nl nc p.1 0 p.2.1 → zi_ nr nl p.2.1 → zi_ nr nl (ah_ nr nc no dm gt ml k p).2.1 := by
  intro k
  induction k with
  | zero => intro p _ _ Z; exact Z
  | succ k ih =>
    intro p hp A Z
    have h0 := A.2.2.1
    have hp1 : (p.1 + 1).toInt = p.1.toInt + 1 := by rw [ki_add (by rw [ki_z1]; omega) (by rw [ki_z1]; omega), ki_z1]
    have A' : aK_ nr nl nc p.1 nc (a_hour nr nc no p.1 (w_hour nr dm gt ml p.2.2) p.2.1) := by
      unfold a_hour
      exact aK_s h10 (aK_a (aK_k (aK_f (aK_j (aK_m h10 (aK_w A))))))
    exact ih (p.1 + 1, a_hour nr nc no p.1 (w_hour nr dm gt ml p.2.2) p.2.1, w_hour nr dm gt ml p.2.2) (by show (p.1 + 1).toInt + _ ≤ _; rw [hp1]; omega) (aK_next hp1 (by omega) A') (zi_hour h10 A Z)
end
section
/-! what a call does to the abstract river -/
def ab_dam (r v : Int32) (s : sz_T) (a : ra_T) : ra_T := if z_is r s ∧ ¬ (v < 0 ∨ ¬ v ≤ 100000) then fs_ a 21 r.toNatClampNeg 1 else a
def ab_boom (r m v : Int32) (s : sz_T) (a : ra_T) : ra_T := if z_is r s ∧ ¬ (v < 1 ∨ ¬ v ≤ 100) then fs_ (fs_ (fs_ a 22 r.toNatClampNeg 1) 27 r.toNatClampNeg (m &&& 65535)) 28 r.toNatClampNeg v else a
def ab_watch (r v : Int32) (s : sz_T) (a : ra_T) : ra_T := if z_is r s then fs_ a 23 r.toNatClampNeg v else a
def ab_come (r now : Int32) (k : Nat) (a : ra_T) : ra_T := fs_ (if a.1 44 k = r then a else fs_ a 45 k now) 44 k r
def ab_crew (k r : Int32) (s : sz_T) (a : ra_T) : ra_T := if z_is r s then (if k = -1 then (if s.1.2.2.1 = 6 then a else ab_come r s.1.2.2.2.2.2 s.1.2.2.1.toNatClampNeg (fs_ (fs_ a 44 s.1.2.2.1.toNatClampNeg (-1)) 46 s.1.2.2.1.toNatClampNeg (-5))) else if k < -1 ∨ s.1.2.2.1 ≤ k then a else ab_come r s.1.2.2.2.2.2 k.toNatClampNeg a) else a
def ab_cut (m z t : Int32) (s : sz_T) (a : ra_T) : ra_T := if s.1.2.1 = 400 ∨ m < 0 ∨ 15 < m ∨ z < 1 ∨ 9 < z ∨ t < 0 ∨ ¬ t ≤ 1000000 then a else fs_ (fs_ (fs_ (fs_ (fs_ (fs_ (fs_ a 35 s.1.2.1.toNatClampNeg m) 36 s.1.2.1.toNatClampNeg z) 37 s.1.2.1.toNatClampNeg t) 38 s.1.2.1.toNatClampNeg 0) 39 s.1.2.1.toNatClampNeg (-1)) 40 s.1.2.1.toNatClampNeg (-1)) 42 s.1.2.1.toNatClampNeg (-1)
def ab_order (r m z n : Int32) (s : sz_T) (a : ra_T) : ra_T := if z_is r s ∧ ¬ (s.2.2.2.2.2 r.toNatClampNeg = 0 ∨ m < 0 ∨ 15 < m ∨ z < 1 ∨ 9 < z ∨ n < 1 ∨ 100 < n ∨ s.1.2.2.2.1 = 60) then fs_ (fs_ (fs_ (fs_ a 47 s.1.2.2.2.1.toNatClampNeg r) 48 s.1.2.2.2.1.toNatClampNeg m) 49 s.1.2.2.2.1.toNatClampNeg z) 50 s.1.2.2.2.1.toNatClampNeg n else a
def ab_reach (n l c j : Int32) (s : sz_T) (a : ra_T) : ra_T := if s.1.1 = 10 ∨ n < -1 ∨ s.1.1 ≤ n ∨ l < 1 ∨ 12 < l ∨ c < 1 ∨ 20 < c ∨ j < 0 ∨ ¬ j ≤ 1000 then a else fs_ (fs_ (fs_ (fs_ a 13 s.1.1.toNatClampNeg n) 14 s.1.1.toNatClampNeg l) 15 s.1.1.toNatClampNeg c) 16 s.1.1.toNatClampNeg j
/-! the reference -/
def rQ_ (nl : Nat) (a : ra_T) (μ : km_S) : Prop := rA_ a μ ∧ rB_ nl a μ
section
variable {nr nl no nc : Nat} {a : ra_T} {μ u : km_S}
theorem rQ_nm {W : List Nat} (h : rQ_ nl a μ) (F : nm_ W μ u) (hW : ∀ f ∈ W, f ∉ rf_F ∧ f ∉ [6, 29, 30, 31, 32, 43]) : rQ_ nl a u := by
  obtain ⟨⟨h1, h2, h3, h4⟩, h5⟩ := h
  have k : ∀ f, f ∈ [6, 29, 30, 31, 32, 43] → f ∉ W := fun f hf q => (hW f q).2 hf
  refine ⟨⟨fun f hf => ?_, ?_, ?_, ?_⟩, rB_p3 h5 p3_refl (F.2 43 (k 43 (by decide)))⟩
  · rw [F.2 f (fun q => (hW f q).1 hf)]; exact h1 f hf
  · rw [F.2 31 (k 31 (by decide)), F.2 32 (k 32 (by decide))]; exact h2
  · rw [F.2 29 (k 29 (by decide)), F.2 30 (k 30 (by decide))]; exact h3
  · rw [F.1 6 (k 6 (by decide))]; exact h4
theorem rQ_fs {f i : Nat} {v : Int32} (h : rQ_ nl a μ) (hf : f ∈ rf_F) (hn : f ∉ [6, 36, 38, 42]) : rQ_ nl (fs_ a f i v) (km_sa μ f i v) := by
  have n6 : f ≠ 6 := fun e => by rw [e] at hn; exact hn (by decide)
  have n36 : f ≠ 36 := fun e => by rw [e] at hn; exact hn (by decide)
  have n38 : f ≠ 38 := fun e => by rw [e] at hn; exact hn (by decide)
  have n42 : f ≠ 42 := fun e => by rw [e] at hn; exact hn (by decide)
  have n43 : f ≠ 43 := fun e => by rw [e] at hf; exact absurd hf (by decide)
  refine ⟨rA_fs h.1 hf, rB_p3 h.2 ⟨fun y hy => ?_, fs_n (Ne.symm n42), fs_n (Ne.symm n36), fs_n (Ne.symm n6)⟩ (sa_n (Ne.symm n43))⟩
  rw [fs_n (Ne.symm n38)]
  exact hy
theorem rQ_o {f i : Nat} {v : Int32} (h : rQ_ nl a μ) (hf : f ∉ rf_F) (hn : f ∉ [29, 30, 31, 32, 43]) : rQ_ nl a (km_sa μ f i v) := by
  have k : ∀ e, e ∈ [29, 30, 31, 32, 43] → km_a (km_sa μ f i v) e = km_a μ e := fun e he => sa_n (fun q => hn (by rw [← q]; exact he))
  refine ⟨⟨fun e he => (sa_n (fun q => hf (by rw [← q]; exact he))).trans (h.1.1 e he), ?_, ?_, h.1.2.2.2⟩, rB_p3 h.2 p3_refl (k 43 (by decide))⟩
  · rw [k 31 (by decide), k 32 (by decide)]; exact h.1.2.1
  · rw [k 29 (by decide), k 30 (by decide)]; exact h.1.2.2.1
theorem rQ_si {j : Nat} {v : Int32} (h : rQ_ nl a μ) (hj : j ≠ 6) : rQ_ nl a (km_si μ j v) := by
  obtain ⟨⟨h1, h2, h3, h4⟩, h5⟩ := h
  refine ⟨⟨h1, h2, h3, ?_⟩, h5⟩
  show upd μ.1 j v 6 = _
  rw [w_updN (Ne.symm hj)]
  exact h4
theorem vr_zis {r : Int32} {s : sz_T} {Q : Int32 → km_S → Prop} (hs : sm_ μ = s) (k0 : ¬ z_is r s → Q 0 μ) (k1 : z_is r s → Q 1 μ) : vX12_isReach r μ Q := by
  subst hs
  exact vm_isReach (fun h => k0 h) (fun h1 h2 => k1 ⟨h1, h2⟩)
theorem vr_dam {r v : Int32} {s : sz_T} (hs : sm_ μ = s) (h : rQ_ nl a μ) : vX12_dam r v μ (fun _ u => rQ_ nl (ab_dam r v s a) u) := by
  unfold vX12_dam
  rintro μ1 rfl
  have h' : rQ_ nl a (km_si μ 1 0) := rQ_si h (by decide)
  have no_ : ¬ (z_is r s ∧ ¬ (v < 0 ∨ ¬ v ≤ 100000)) → ∀ u, rQ_ nl a u → rQ_ nl (ab_dam r v s a) u := fun c u hu => by
    unfold ab_dam
    rw [if_neg c]
    exact hu
  refine vr_zis (s := s) hs (fun z => ⟨fun x => absurd rfl x, fun _ => ?_⟩) (fun z => ⟨fun _ => ⟨fun c => ?_, fun c => ⟨fun d => ?_, fun d => ?_⟩⟩, fun x => absurd x (by decide)⟩)
  · rintro _ rfl
    exact no_ (fun q => z q.1) _ (rQ_si h' (by decide))
  · exact no_ (fun q => q.2 (.inl c)) _ h'
  · rintro - μ8 rfl - μ10 rfl
    unfold ab_dam
    rw [if_pos ⟨z, fun q => q.elim c (fun q => q d)⟩]
    exact rQ_o (rQ_fs h' (by decide) (by decide)) (by decide) (by decide)
  · exact no_ (fun q => q.2 (.inr d)) _ h'
theorem vr_boom {r m v : Int32} {s : sz_T} (hs : sm_ μ = s) (h : rQ_ nl a μ) : vX12_boom r m v μ (fun _ u => rQ_ nl (ab_boom r m v s a) u) := by
  unfold vX12_boom
  rintro μ1 rfl
  have h' : rQ_ nl a (km_si μ 1 0) := rQ_si h (by decide)
  have no_ : ¬ (z_is r s ∧ ¬ (v < 1 ∨ ¬ v ≤ 100)) → ∀ u, rQ_ nl a u → rQ_ nl (ab_boom r m v s a) u := fun c u hu => by
    unfold ab_boom
    rw [if_neg c]
    exact hu
  refine vr_zis (s := s) hs (fun z => ⟨fun x => absurd rfl x, fun _ => ?_⟩) (fun z => ⟨fun _ => ⟨fun c => ?_, fun c => ⟨fun d => ?_, fun d => ?_⟩⟩, fun x => absurd x (by decide)⟩)
  · rintro _ rfl
    exact no_ (fun q => z q.1) _ (rQ_si h' (by decide))
  · exact no_ (fun q => q.2 (.inl c)) _ h'
  · rintro - μ8 rfl - μ10 rfl - μ12 rfl
    unfold ab_boom
    rw [if_pos ⟨z, fun q => q.elim c (fun q => q d)⟩]
    exact rQ_fs (rQ_fs (rQ_fs h' (by decide) (by decide)) (by decide) (by decide)) (by decide) (by decide)
  · exact no_ (fun q => q.2 (.inr d)) _ h'
theorem vr_watch {r v : Int32} {s : sz_T} (hv : v = 0 ∨ v = 1) (hs : sm_ μ = s) (h : rQ_ nl a μ) : vX12_watch r v μ (fun _ u => rQ_ nl (ab_watch r v s a) u) := by
  unfold vX12_watch
  rintro μ1 rfl
  have h' : rQ_ nl a (km_si μ 1 0) := rQ_si h (by decide)
  have ev : vp_nar .boolean v = v := by rcases hv with e | e <;> (rw [e]; rfl)
  rw [ev]
  refine vr_zis (s := s) hs (fun z => ⟨fun x => absurd rfl x, fun _ => ?_⟩) (fun z => ⟨fun _ => ?_, fun x => absurd x (by decide)⟩)
  · rintro _ rfl
    unfold ab_watch
    rw [if_neg z]
    exact rQ_si h' (by decide)
  · rintro - v6 - - μ8 rfl -
    unfold ab_watch
    rw [if_pos z]
    exact rQ_fs h' (by decide) (by decide)
theorem vr_crew84 {r c now : Int32} {k : Nat} (hk : c.toNatClampNeg = k) (hnow : km_i μ 2 = now) (h : rQ_ nl a μ) {Q : Int32 → km_S → Prop} (kk : ∀ u, rQ_ nl (ab_come r now k a) u → Q c u) : vX12_crew_84 Q r c μ := by
  unfold vX12_crew_84 vX12_crew_104
  rw [hk, h.1.1 44 (by decide)]
  intro _
  refine ⟨fun c1 _ => ?_, fun c1 _ => ?_⟩
  · rintro μ2 rfl
    refine kk _ ?_
    unfold ab_come
    rw [if_pos c1]
    exact rQ_fs h (by decide) (by decide)
  · rintro μ6 rfl - μ2 rfl
    refine kk _ ?_
    unfold ab_come
    rw [if_neg c1, hnow]
    exact rQ_fs (rQ_fs h (by decide) (by decide)) (by decide) (by decide)
theorem vr_crew {k r : Int32} {s : sz_T} (h7 : 0 ≤ s.1.2.2.1.toInt) (hs : sm_ μ = s) (h : rQ_ nl a μ) : vX12_crew k r μ (fun _ u => rQ_ nl (ab_crew k r s a) u) := by
  unfold vX12_crew
  rintro μ1 rfl
  have h' : rQ_ nl a (km_si μ 1 0) := rQ_si h (by decide)
  have hs' : sm_ (km_si μ 1 0) = s := hs
  have e7 : km_i (km_si μ 1 0) 7 = s.1.2.2.1 := congrArg (fun s : sz_T => s.1.2.2.1) hs'
  have e2 : km_i (km_si μ 1 0) 2 = s.1.2.2.2.2.2 := congrArg (fun s : sz_T => s.1.2.2.2.2.2) hs'
  generalize km_si μ 1 0 = u1 at *
  refine vr_zis (s := s) hs' (fun z => ⟨fun x => absurd rfl x, fun _ => ?_⟩) (fun z => ⟨fun _ => ?_, fun x => absurd x (by decide)⟩)
  · rintro _ rfl
    unfold ab_crew
    rw [if_neg z]
    exact rQ_si h' (by decide)
  · have same : ab_crew k r s a = a → rQ_ nl (ab_crew k r s a) u1 := fun e => by rw [e]; exact h'
    rw [e7]
    refine ⟨fun c => same ?_, fun c => ⟨fun d => same ?_, fun d => ⟨fun e => ?_, fun e => ⟨fun f => ?_, fun f => same ?_⟩⟩⟩⟩
    · unfold ab_crew
      rw [if_pos z, if_neg (by intro q; rw [q] at c; exact absurd c (by decide)), if_pos (.inl c)]
    · unfold ab_crew
      rw [if_pos z]
      by_cases q : k = -1
      · rw [if_pos q]
        by_cases q6 : s.1.2.2.1 = 6
        · rw [if_pos q6]
        · exfalso
          rw [q, ki_le, ki_zm] at d
          omega
      · rw [if_neg q, if_pos (.inr d)]
    · unfold vX12_crew_47
      refine ⟨fun _ => vr_crew84 rfl e2 h' (fun u hu => ?_), fun q => absurd q e⟩
      unfold ab_crew
      rw [if_pos z, if_neg e, if_neg (fun q => q.elim c d)]
      exact hu
    · unfold vX12_crew_47
      refine ⟨fun q => absurd e q, fun _ => ?_⟩
      rintro v8 e8 μ9 rfl - μ11 rfl - μ13 rfl
      rw [e7] at e8
      subst e8
      have h9 : rQ_ nl (fs_ (fs_ a 44 s.1.2.2.1.toNatClampNeg (-1)) 46 s.1.2.2.1.toNatClampNeg (-5)) (km_sa (km_sa (km_si u1 7 (km_i u1 7 + 1)) 44 s.1.2.2.1.toNatClampNeg (-1)) 46 s.1.2.2.1.toNatClampNeg (-5)) := rQ_fs (rQ_fs (rQ_si h' (by decide)) (by decide) (by decide)) (by decide) (by decide)
      have e2' : km_i (km_sa (km_sa (km_si u1 7 (km_i u1 7 + 1)) 44 s.1.2.2.1.toNatClampNeg (-1)) 46 s.1.2.2.1.toNatClampNeg (-5)) 2 = s.1.2.2.2.2.2 := e2
      refine vr_crew84 rfl e2' h9 (fun u hu => ?_)
      unfold ab_crew
      rw [if_pos z, if_pos e, if_neg f]
      exact hu
    · unfold ab_crew
      rw [if_pos z, if_pos e, if_pos f]
theorem vr_order {r m z n : Int32} {s : sz_T} (hs : sm_ μ = s) (h : rQ_ nl a μ) : vX12_order r m z n μ (fun _ u => rQ_ nl (ab_order r m z n s a) u) := by
  unfold vX12_order
  rintro μ1 rfl
  have h' : rQ_ nl a (km_si μ 1 0) := rQ_si h (by decide)
  have hs' : sm_ (km_si μ 1 0) = s := hs
  have e8 : km_i (km_si μ 1 0) 8 = s.1.2.2.2.1 := congrArg (fun s : sz_T => s.1.2.2.2.1) hs'
  have e22 : km_a (km_si μ 1 0) 22 = s.2.2.2.2.2 := congrArg (fun s : sz_T => s.2.2.2.2.2) hs'
  generalize km_si μ 1 0 = u1 at *
  have no_ : ¬ (z_is r s ∧ ¬ (s.2.2.2.2.2 r.toNatClampNeg = 0 ∨ m < 0 ∨ 15 < m ∨ z < 1 ∨ 9 < z ∨ n < 1 ∨ 100 < n ∨ s.1.2.2.2.1 = 60)) → ∀ u, rQ_ nl a u → rQ_ nl (ab_order r m z n s a) u := fun c u hu => by
    unfold ab_order
    rw [if_neg c]
    exact hu
  refine vr_zis (s := s) hs' (fun zz => ⟨fun x => absurd rfl x, fun _ => ?_⟩) (fun zz => ⟨fun _ _ => ?_, fun x => absurd x (by decide)⟩)
  · rintro _ rfl
    exact no_ (fun q => zz q.1) _ (rQ_si h' (by decide))
  · rw [e22, e8]
    refine ⟨fun c => no_ (fun q => q.2 (.inl c)) _ h', fun c0 => ⟨fun c => no_ (fun q => q.2 (.inr (.inl c))) _ h', fun c1 => ⟨fun c => no_ (fun q => q.2 (.inr (.inr (.inl c)))) _ h', fun c2 => ⟨fun c => no_ (fun q => q.2 (.inr (.inr (.inr (.inl c))))) _ h', fun c3 => ⟨fun c => no_ (fun q => q.2 (.inr (.inr (.inr (.inr (.inl c)))))) _ h', fun c4 => ⟨fun c => no_ (fun q => q.2 (.inr (.inr (.inr (.inr (.inr (.inl c))))))) _ h', fun c5 => ⟨fun c => no_ (fun q => q.2 (.inr (.inr (.inr (.inr (.inr (.inr (.inl c)))))))) _ h', fun c6 => ⟨fun c7 _ => ?_, fun c => no_ (fun q => q.2 (.inr (.inr (.inr (.inr (.inr (.inr (.inr c)))))))) _ h'⟩⟩⟩⟩⟩⟩⟩⟩
    rintro μ15 rfl - μ17 rfl - μ19 rfl - μ21 rfl μ22 rfl
    have ok : z_is r s ∧ ¬ (s.2.2.2.2.2 r.toNatClampNeg = 0 ∨ m < 0 ∨ 15 < m ∨ z < 1 ∨ 9 < z ∨ n < 1 ∨ 100 < n ∨ s.1.2.2.2.1 = 60) := ⟨zz, by
      rintro (q | q | q | q | q | q | q | q)
      · exact c0 q
      · exact c1 q
      · exact c2 q
      · exact c3 q
      · exact c4 q
      · exact c5 q
      · exact c6 q
      · exact c7 q⟩
    unfold ab_order
    rw [if_pos ok]
    refine rQ_si ?_ (by decide)
    have e8' : ∀ f i v, km_i (km_sa u1 f i v) 8 = s.1.2.2.2.1 := fun _ _ _ => e8
    show rQ_ nl _ (km_sa (km_sa (km_sa (km_sa u1 47 s.1.2.2.2.1.toNatClampNeg r) 48 (km_i u1 8).toNatClampNeg m) 49 (km_i u1 8).toNatClampNeg z) 50 (km_i u1 8).toNatClampNeg n)
    rw [e8]
    exact rQ_fs (rQ_fs (rQ_fs (rQ_fs h' (by decide) (by decide)) (by decide) (by decide)) (by decide) (by decide)) (by decide) (by decide)
theorem vr_reach {n l c j : Int32} {s : sz_T} (hs : sm_ μ = s) (h : rQ_ nl a μ) : vX12_reach n l c j μ (fun _ u => rQ_ nl (ab_reach n l c j s a) u) := by
  unfold vX12_reach
  rintro μ1 rfl
  have h' : rQ_ nl a (km_si μ 1 0) := rQ_si h (by decide)
  have hs' : sm_ (km_si μ 1 0) = s := hs
  have e3 : km_i (km_si μ 1 0) 3 = s.1.1 := congrArg (fun s : sz_T => s.1.1) hs'
  generalize km_si μ 1 0 = u1 at *
  have no_ : (s.1.1 = 10 ∨ n < -1 ∨ s.1.1 ≤ n ∨ l < 1 ∨ 12 < l ∨ c < 1 ∨ 20 < c ∨ j < 0 ∨ ¬ j ≤ 1000) → rQ_ nl (ab_reach n l c j s a) u1 := fun c => by
    unfold ab_reach
    rw [if_pos c]
    exact h'
  rw [e3]
  refine ⟨fun q => no_ (.inl q), fun h1 => ⟨fun q => no_ (.inr (.inl q)), fun h2 => ⟨fun q => no_ (.inr (.inr (.inl q))), fun h3 => ⟨fun q => no_ (.inr (.inr (.inr (.inl q)))), fun h4 => ⟨fun q => no_ (.inr (.inr (.inr (.inr (.inl q))))), fun h5 => ⟨fun q => no_ (.inr (.inr (.inr (.inr (.inr (.inl q)))))), fun h6 => ⟨fun q => no_ (.inr (.inr (.inr (.inr (.inr (.inr (.inl q))))))), fun h7 => ⟨fun q => no_ (.inr (.inr (.inr (.inr (.inr (.inr (.inr (.inl q)))))))), fun h8 => ⟨fun h9 => ?_, fun q => no_ (.inr (.inr (.inr (.inr (.inr (.inr (.inr (.inr q)))))))) ⟩⟩⟩⟩⟩⟩⟩⟩⟩
  rintro - μ12 rfl - μ14 rfl - μ16 rfl - μ18 rfl μ19 rfl
  have ok : ¬ (s.1.1 = 10 ∨ n < -1 ∨ s.1.1 ≤ n ∨ l < 1 ∨ 12 < l ∨ c < 1 ∨ 20 < c ∨ j < 0 ∨ ¬ j ≤ 1000) := by
    rintro (q | q | q | q | q | q | q | q | q)
    · exact h1 q
    · exact h2 q
    · exact h3 q
    · exact h4 q
    · exact h5 q
    · exact h6 q
    · exact h7 q
    · exact h8 q
    · exact q h9
  unfold ab_reach
  rw [if_neg ok]
  refine rQ_si ?_ (by decide)
  show rQ_ nl _ (km_sa (km_sa (km_sa (km_sa u1 13 s.1.1.toNatClampNeg n) 14 (km_i u1 3).toNatClampNeg l) 15 (km_i u1 3).toNatClampNeg c) 16 (km_i u1 3).toNatClampNeg j)
  rw [e3]
  exact rQ_fs (rQ_fs (rQ_fs (rQ_fs h' (by decide) (by decide)) (by decide) (by decide)) (by decide) (by decide)) (by decide) (by decide)
/-- a log that is cut: no board leads to it -/
theorem rQ_cut {m z t : Int32} (h : rQ_ nl a μ) (hz : 1 ≤ z.toInt ∧ z.toInt ≤ 9) : rQ_ (nl + 1) (fs_ (fs_ (fs_ (fs_ (fs_ (fs_ (fs_ a 35 nl m) 36 nl z) 37 nl t) 38 nl 0) 39 nl (-1)) 40 nl (-1)) 42 nl (-1)) (km_sa (km_sa (km_sa (km_sa (km_sa (km_sa (km_sa μ 35 nl m) 36 nl z) 37 nl t) 38 nl 0) 39 nl (-1)) 40 nl (-1)) 42 nl (-1)) := by
  refine ⟨rA_fs (rA_fs (rA_fs (rA_fs (rA_fs (rA_fs (rA_fs h.1 (by decide)) (by decide)) (by decide)) (by decide)) (by decide)) (by decide)) (by decide), ?_⟩
  obtain ⟨B1, B2, B3, B4⟩ := h.2
  have e43 : km_a (km_sa (km_sa (km_sa (km_sa (km_sa (km_sa (km_sa μ 35 nl m) 36 nl z) 37 nl t) 38 nl 0) 39 nl (-1)) 40 nl (-1)) 42 nl (-1)) 43 = km_a μ 43 := (sa_n (by decide)).trans ((sa_n (by decide)).trans ((sa_n (by decide)).trans ((sa_n (by decide)).trans ((sa_n (by decide)).trans ((sa_n (by decide)).trans (sa_n (by decide)))))))
  have f36 : (fs_ (fs_ (fs_ (fs_ (fs_ (fs_ (fs_ a 35 nl m) 36 nl z) 37 nl t) 38 nl 0) 39 nl (-1)) 40 nl (-1)) 42 nl (-1)).1 36 = upd (a.1 36) nl z := rfl
  have f38 : (fs_ (fs_ (fs_ (fs_ (fs_ (fs_ (fs_ a 35 nl m) 36 nl z) 37 nl t) 38 nl 0) 39 nl (-1)) 40 nl (-1)) 42 nl (-1)).1 38 = upd (a.1 38) nl 0 := rfl
  have f42 : (fs_ (fs_ (fs_ (fs_ (fs_ (fs_ (fs_ a 35 nl m) 36 nl z) 37 nl t) 38 nl 0) 39 nl (-1)) 40 nl (-1)) 42 nl (-1)).1 42 = upd (a.1 42) nl (-1) := rfl
  have f6 : (fs_ (fs_ (fs_ (fs_ (fs_ (fs_ (fs_ a 35 nl m) 36 nl z) 37 nl t) 38 nl 0) 39 nl (-1)) 40 nl (-1)) 42 nl (-1)).1 6 = a.1 6 := rfl
  unfold rB_
  rw [e43, f36, f38, f42, f6]
  have ne : ∀ x, ¬ upd (a.1 42) nl (-1) x = -1 → x ≠ nl := fun x q e => q (by rw [e, w_updS])
  refine ⟨fun x hx => ?_, B2, fun b hb => ?_, fun x hx hq => ?_⟩
  · by_cases c : x = nl
    · rw [c, w_updS, w_updS, w_updS]
      exact ⟨hz, fun _ => rfl⟩
    · rw [w_updN c, w_updN c, w_updN c]
      exact B1 x (by omega)
  · obtain ⟨x, x1, x2, x3, x4⟩ := B3 b hb
    have c : x ≠ nl := by omega
    refine ⟨x, by omega, ?_⟩
    rw [w_updN c, w_updN c]
    exact ⟨x2, x3, x4⟩
  · have c := ne x hq
    rw [w_updN c] at hq
    rw [w_updN c, w_updN c]
    exact B4 x (by omega) hq
theorem vr_cut {m z t : Int32} {s : sz_T} (hnl : s.1.2.1.toNatClampNeg = nl) (hs : sm_ μ = s) (h : rQ_ nl a μ) : vX12_cut m z t μ (fun _ u => rQ_ (if s.1.2.1 = 400 ∨ m < 0 ∨ 15 < m ∨ z < 1 ∨ 9 < z ∨ t < 0 ∨ ¬ t ≤ 1000000 then nl else nl + 1) (ab_cut m z t s a) u) := by
  unfold vX12_cut
  rintro μ1 rfl
  have h' : rQ_ nl a (km_si μ 1 0) := rQ_si h (by decide)
  have hs' : sm_ (km_si μ 1 0) = s := hs
  have e4 : km_i (km_si μ 1 0) 4 = s.1.2.1 := congrArg (fun s : sz_T => s.1.2.1) hs'
  generalize km_si μ 1 0 = u1 at *
  have z9 : (9 : Int32).toInt = 9 := by decide
  have no_ : (s.1.2.1 = 400 ∨ m < 0 ∨ 15 < m ∨ z < 1 ∨ 9 < z ∨ t < 0 ∨ ¬ t ≤ 1000000) → rQ_ (if s.1.2.1 = 400 ∨ m < 0 ∨ 15 < m ∨ z < 1 ∨ 9 < z ∨ t < 0 ∨ ¬ t ≤ 1000000 then nl else nl + 1) (ab_cut m z t s a) u1 := fun c => by
    unfold ab_cut
    rw [if_pos c, if_pos c]
    exact h'
  rw [e4]
  refine ⟨fun q => no_ (.inl q), fun h1 => ⟨fun q => no_ (.inr (.inl q)), fun h2 => ⟨fun q => no_ (.inr (.inr (.inl q))), fun h3 => ⟨fun q => no_ (.inr (.inr (.inr (.inl q)))), fun h4 => ⟨fun q => no_ (.inr (.inr (.inr (.inr (.inl q))))), fun h5 => ⟨fun q => no_ (.inr (.inr (.inr (.inr (.inr (.inl q)))))), fun h6 => ⟨fun h7 => ?_, fun q => no_ (.inr (.inr (.inr (.inr (.inr (.inr q)))))) ⟩⟩⟩⟩⟩⟩⟩
  rintro - μ10 rfl - μ12 rfl - μ14 rfl - μ16 rfl - μ18 rfl - μ20 rfl - μ22 rfl μ23 rfl
  have ok : ¬ (s.1.2.1 = 400 ∨ m < 0 ∨ 15 < m ∨ z < 1 ∨ 9 < z ∨ t < 0 ∨ ¬ t ≤ 1000000) := by
    rintro (q | q | q | q | q | q | q)
    · exact h1 q
    · exact h2 q
    · exact h3 q
    · exact h4 q
    · exact h5 q
    · exact h6 q
    · exact q h7
  unfold ab_cut
  rw [if_neg ok, if_neg ok, hnl]
  refine rQ_si ?_ (by decide)
  show rQ_ (nl + 1) _ (km_sa (km_sa (km_sa (km_sa (km_sa (km_sa (km_sa u1 35 nl m) 36 (km_i u1 4).toNatClampNeg z) 37 (km_i u1 4).toNatClampNeg t) 38 (km_i u1 4).toNatClampNeg 0) 39 (km_i u1 4).toNatClampNeg (-1)) 40 (km_i u1 4).toNatClampNeg (-1)) 42 (km_i u1 4).toNatClampNeg (-1))
  rw [e4, hnl]
  refine rQ_cut h' ?_
  rw [ki_lt, ki_z1] at h4
  rw [ki_lt, z9] at h5
  omega
end
end
section
/-! the class at a call's bounds: nothing of kinds and budgets -/
def q0n_ (T : Nat → Nat → Nat) (N : Nat → Nat) (nr nl : Nat) (a : ra_T) : Prop := (∀ k, vk_ nr a k → N (T 1 k) = k) ∧ (∀ r c, r < nr → c < ln_ a r → N (T 3 (12 * r + c)) = 12 * r + c) ∧ (∀ r, r < nr → N (T 10 r) = r) ∧ ∀ j, j < nl → N (T 8 j) = j
def qE_ (T : Nat → Nat → Nat) (N g : Nat → Nat) (st na nr nl m : Nat) (day : Nat → Int32) (RL : Nat → List (Bool × List Int32)) (no nc : Nat) (a : ra_T) (σ : kx_S) : Prop := q0n_ T N nr nl a ∧ q1_ T (g 1) nr a σ ∧ q2_ T nr a σ ∧ q3_ T nr a σ ∧ q4_ T (g 2) nl a σ ∧ q7_ T (g 3) m day RL st na σ ∧ qj_ (g 8) st na σ ∧ q6_ T N (g 5) nr no a σ ∧ xi σ 218 (g 0) = a.1 6 0 ∧ q5_ T N (g 4) nr nc a σ
section
variable {T : Nat → Nat → Nat} {N : Nat → Nat} {g κ : Nat → Nat} {st na nr nl nc no m : Nat} {day : Nat → Int32} {RL : Nat → List (Bool × List Int32)} {s : sz_T} {B n : Nat} {a : ra_T} {w : wt_T} {σ τ : kx_S}
theorem qF_E (h : qF_ T N g κ st na nr nl m day RL s B n no nc a w σ) : qE_ T N g st na nr nl m day RL no nc a σ := by
  obtain ⟨⟨⟨J, h0, h1, h2, h3, h4, h7, hj⟩, h6, hb, k22⟩, h5, V⟩ := h
  exact ⟨⟨fun k hk => (h0.1 k hk).2.2, h0.2.1, fun r hr => (h0.2.2.1 r hr).2, h0.2.2.2⟩, h1, h2, h3, h4, h7, hj, h6, hb, h5⟩
theorem qE_q0 (J : yJ_ s g κ B n σ) (h : qE_ T N g st na nr nl m day RL no nc a σ) : q0_ T N g κ nr nl a ∧ ∀ r, r < nr → ¬ a.1 22 r = 0 → κ (T 22 r) = 9 ∧ T 22 r ≠ g 5 := by
  obtain ⟨h0, h1, h2, h3, h4, h7, hj, h6, hb, h5⟩ := h
  have kb : ∀ r, r < nr → ¬ a.1 22 r = 0 → (κ (T 1 (120 + r)) = 8 ∧ T 1 (120 + r) ≠ g 2) ∧ κ (T 22 r) = 9 ∧ T 22 r ≠ g 5 := by
    intro r hr hz
    obtain ⟨_, _, _, _, b172, _⟩ := h1.2 r hr
    rcases b172 with z | ⟨_, _, z3, z4, z5, _⟩
    · exact absurd z.2 hz
    · obtain ⟨⟨x, x1, x2, x3, x4⟩, y, y1, y2, y3, y4⟩ := yp2 J z3
      obtain rfl := Option.some.inj (z4.symm.trans x1)
      obtain rfl := Option.some.inj (z5.symm.trans y1)
      exact ⟨⟨x3, x4⟩, y3, y4⟩
  refine ⟨⟨fun k hk => ?_, h0.2.1, fun r hr => ⟨?_, h0.2.2.1 r hr⟩, h0.2.2.2⟩, fun r hr hz => (kb r hr hz).2⟩
  · refine ⟨?_, ?_, h0.1 k hk⟩
    · rcases hk with ⟨r, c, hr, hc, rfl⟩ | ⟨r, hr, hz, rfl⟩
      · obtain ⟨⟨_, b2⟩, _, b4, _⟩ := h2 r hr c hc
        obtain ⟨x, x1, x2, x3, x4⟩ := yp3 J b2
        obtain rfl := Option.some.inj (b4.symm.trans x1)
        exact x3
      · exact (kb r hr hz).1.1
    · rcases hk with ⟨r, c, hr, hc, rfl⟩ | ⟨r, hr, hz, rfl⟩
      · obtain ⟨⟨_, b2⟩, _, b4, _⟩ := h2 r hr c hc
        obtain ⟨x, x1, x2, x3, x4⟩ := yp3 J b2
        obtain rfl := Option.some.inj (b4.symm.trans x1)
        exact x4
      · exact (kb r hr hz).1.2
  · obtain ⟨⟨_, b2⟩, _, _, _, _, b11, _⟩ := h1.2 r hr
    obtain ⟨_, ⟨x, x1, x2, x3⟩, _⟩ := yp10 J b2
    obtain rfl := Option.some.inj (b11.symm.trans x1)
    exact x3
theorem qE_F (J : yJ_ s g κ B n σ) (h : qE_ T N g st na nr nl m day RL no nc a σ) (V : Yw_ nr w (g 0) σ) : qF_ T N g κ st na nr nl m day RL s B n no nc a w σ := by
  obtain ⟨z1, z2⟩ := qE_q0 J h
  obtain ⟨h0, h1, h2, h3, h4, h7, hj, h6, hb, h5⟩ := h
  exact ⟨⟨⟨J, z1, h1, h2, h3, h4, h7, hj⟩, h6, hb, fun r hr hz => (z2 r hr hz).1⟩, h5, V⟩
theorem qE_bump (h : qE_ T N g st na nr nl m day RL no nc a σ) : qE_ T N g st na nr nl m day RL no nc a (xbump σ) := h
/-- nothing but fields of W changed -/
def nW_ (W : List Nat) (σ τ : kx_S) : Prop := (∀ f b, f ∉ W → xi τ f b = xi σ f b) ∧ τ.1 = σ.1 ∧ (∀ f b, f ∉ W → xr τ f b = xr σ f b) ∧ xn τ = xn σ ∧ xai τ = xai σ ∧ τ.2.2.2.2.2.2.2.1 = σ.2.2.2.2.2.2.2.1 ∧ xz τ = xz σ
theorem nW_refl {W : List Nat} : nW_ W σ σ := ⟨fun _ _ _ => rfl, rfl, fun _ _ _ => rfl, rfl, rfl, rfl, rfl⟩
theorem nW_fw {W : List Nat} (hW : ∀ x ∈ W, x < 1000 ∨ x = 1005) : fw_ (nW_ W σ) W := by
  intro u h
  refine ⟨fun f hf => ⟨fun b v => ⟨fun e x he => ?_, h.2⟩, fun b v => ⟨h.1, h.2.1, fun e x he => ?_, h.2.2.2⟩, fun b v => h⟩, fun q => absurd (hW _ q) (by decide), fun q => absurd (hW _ q) (by decide), fun q => absurd (hW _ q) (by decide), fun q => absurd (hW _ q) (by decide), fun _ => h, fun t ht => ?_, fun t ht => ?_⟩
  · refine Eq.trans ?_ (h.1 e x he)
    show (if e = f then va_up (u.2.1 f) b v else u.2.1 e) x = u.2.1 e x
    rw [if_neg (fun q => he (by rw [q]; exact hf))]
  · refine Eq.trans ?_ (h.2.2.1 e x he)
    show (if e = f then va_up (u.2.2.1 f) b v else u.2.2.1 e) x = u.2.2.1 e x
    rw [if_neg (fun q => he (by rw [q]; exact hf))]
  · have := hW _ ht
    omega
  · have := hW _ ht
    omega
theorem nW_xe {W : List Nat} (h : nW_ W σ τ) (h17 : 17 ∉ W) (l i : Nat) : xe τ l i = xe σ l i := by
  have e1 : xr τ 17 l = xr σ 17 l := h.2.2.1 17 l h17
  unfold xe
  rw [e1]
  split
  · show τ.2.2.2.2.2.2.2.1 _ _ = σ.2.2.2.2.2.2.2.1 _ _
    rw [h.2.2.2.2.2.1]
  · rfl
abbrev qE_W : List Nat := [17, 18, 32, 33, 34, 35, 48, 49, 50, 51, 64, 65, 80, 81, 96, 97, 128, 129, 130, 131, 132, 133, 134, 135, 136, 144, 145, 146, 160, 161, 162, 163, 165, 169, 170, 171, 172, 218]
theorem qE_nW {W : List Nat} (h : qE_ T N g st na nr nl m day RL no nc a σ) (F : nW_ W σ τ) (hW : ∀ f ∈ W, f ∉ qE_W) : qE_ T N g st na nr nl m day RL no nc a τ := by
  have k : ∀ f, f ∈ qE_W → f ∉ W := fun f hf q => hW f q hf
  have ki : ∀ f, f ∈ qE_W → ∀ x, xi τ f x = xi σ f x := fun f hf x => F.1 f x (k f hf)
  have kr : ∀ f, f ∈ qE_W → ∀ x, xr τ f x = xr σ f x := fun f hf x => F.2.2.1 f x (k f hf)
  have kt : ∀ x, xt τ x = xt σ x := fun x => by show τ.1 x = σ.1 x; rw [F.2.1]
  have ke : ∀ l i, xe τ l i = xe σ l i := nW_xe F (k 17 (by decide))
  have kn : ∀ x, xn τ x = xn σ x := fun x => by rw [F.2.2.2.1]
  have ka : ∀ x i, xai τ x i = xai σ x i := fun x i => by rw [F.2.2.2.2.1]
  obtain ⟨h0, h1, h2, h3, h4, h7, hj, h6, hb, h5⟩ := h
  refine ⟨h0, ?_, ?_, ?_, ?_, ?_, ?_, ?_, ?_, ?_⟩
  · unfold q1_ at h1 ⊢
    simp only [ke, kt, ki 18 (by decide), ki 160 (by decide), ki 162 (by decide), ki 165 (by decide), ki 169 (by decide), ki 170 (by decide), ki 171 (by decide), ki 34 (by decide), ki 35 (by decide), kr 161 (by decide), kr 172 (by decide), kr 32 (by decide), kr 33 (by decide), kr 163 (by decide)]
    exact h1
  · unfold q2_ at h2 ⊢
    simp only [ke, kt, ki 48 (by decide), ki 50 (by decide), ki 51 (by decide), kr 49 (by decide)]
    exact h2
  · unfold q3_ at h3 ⊢
    simp only [ke, kt, ki 18 (by decide)]
    exact h3
  · unfold q4_ at h4 ⊢
    simp only [ke, kt, ki 18 (by decide), ki 128 (by decide), ki 129 (by decide), ki 130 (by decide), ki 131 (by decide), ki 132 (by decide), ki 133 (by decide), ki 134 (by decide), ki 135 (by decide), ki 136 (by decide)]
    exact h4
  · unfold q7_ lc_ at h7 ⊢
    simp only [ke, kt, kn, ka, ki 18 (by decide), ki 96 (by decide), kr 97 (by decide)]
    exact h7
  · unfold qj_ j0_ at hj ⊢
    simp only [kt, kn, kr 80 (by decide), kr 81 (by decide)]
    exact hj
  · unfold q6_ at h6 ⊢
    simp only [ke, kt, ki 18 (by decide), ki 144 (by decide), ki 145 (by decide), ki 146 (by decide)]
    exact h6
  · rw [ki 218 (by decide)]; exact hb
  · unfold q5_ at h5 ⊢
    simp only [ke, kt, ki 18 (by decide), ki 65 (by decide), kr 64 (by decide)]
    exact h5
theorem q6_f {g5 : Nat} {b : ra_T} (h : q6_ T N g5 nr no a σ) (e : ∀ f, f ∈ [22, 47, 48, 49, 50] → b.1 f = a.1 f) : q6_ T N g5 nr no b σ := by
  unfold q6_ at h ⊢
  have o : ∀ r, od_ b r no 0 = od_ a r no 0 := fun r => od_qm (e 47 (by decide)) no 0
  simp only [o, e 22 (by decide), e 47 (by decide), e 48 (by decide), e 49 (by decide), e 50 (by decide)]
  exact h
theorem q1_165 {q : Nat} {v : Int32} (h : q1_ T (g 1) nr a σ) (hN : ∀ r, r < nr → N (T 10 r) = r) (hq : q < nr) : q1_ T (g 1) nr (fs_ a 21 q v) (xsi σ 165 (T 10 q) v) := by
  refine ⟨h.1, fun r hr => ?_⟩
  obtain ⟨a1, a2, ⟨a4, a5, a6, a7, a8⟩, a9⟩ := h.2 r hr
  refine ⟨a1, a2, ⟨a4, ?_, a6, a7, a8⟩, a9⟩
  show va_up (xi σ 165) (T 10 q) v (T 10 r) = upd (a.1 21) q v r
  by_cases c : r = q
  · rw [c, va_up_self, w_updS]
  · rw [va_up_ne _ _ (fun e => c (by rw [← hN r hr, e, hN q hq])), w_updN c]
    exact a5
theorem q1_171 {q : Nat} {v : Int32} (h : q1_ T (g 1) nr a σ) (hN : ∀ r, r < nr → N (T 10 r) = r) (hq : q < nr) : q1_ T (g 1) nr (fs_ a 23 q v) (xsi σ 171 (T 10 q) v) := by
  refine ⟨h.1, fun r hr => ?_⟩
  obtain ⟨a1, a2, ⟨a4, a5, a6, a7, a8⟩, a9⟩ := h.2 r hr
  refine ⟨a1, a2, ⟨a4, a5, a6, a7, ?_⟩, a9⟩
  show va_up (xi σ 171) (T 10 q) v (T 10 r) = upd (a.1 23) q v r
  by_cases c : r = q
  · rw [c, va_up_self, w_updS]
  · rw [va_up_ne _ _ (fun e => c (by rw [← hN r hr, e, hN q hq])), w_updN c]
    exact a8
theorem vq_dam {r v : Int32} (h10 : nr ≤ 10) (hs : s.1.1.toInt = (nr : Int)) (J : yJ_ s g κ B n σ) (h : qE_ T N g st na nr nl m day RL no nc a σ) : vX11_dam (g 0) r v σ (fun _ u => qE_ T N g st na nr nl m day RL no nc (ab_dam r v s a) u) (fun _ u => qE_ T N g st na nr nl m day RL no nc (ab_dam r v s a) u) := by
  have H := h
  obtain ⟨h0, h1, h2, h3, h4, h7, hj, h6, hb, h5⟩ := h
  have z0 : (100000 : Int32).toInt = 100000 := by decide
  have no_ : ¬ (z_is r s ∧ ¬ (v < 0 ∨ ¬ v ≤ 100000)) → ab_dam r v s a = a := fun c => if_neg c
  unfold vX11_dam
  intro _
  refine vq_reachAt h10 J h1 (fun q hq hlt => ?_) (fun c => ?_)
  · have hz : z_is r s := ⟨by omega, by omega⟩
    refine vy_within (fun d => ⟨fun x => absurd rfl x, fun _ => ?_⟩) (fun c1 c2 => ⟨fun _ _ => ?_, fun x => absurd x (by decide)⟩)
    · rw [no_ (fun x => x.2 (by rw [ki_lt, ki_z0, ki_le, z0]; rw [ki_z0, z0] at d; omega))]
      exact H
    · rintro σ8 rfl σ10 rfl
      have ea : ab_dam r v s a = fs_ a 21 q 1 := by
        unfold ab_dam
        rw [if_pos ⟨hz, by rw [ki_lt, ki_z0, ki_le, z0]; rw [ki_z0] at c1; rw [z0] at c2; omega⟩, ki_toN hq]
      rw [ea]
      have r1 := q1_165 (v := 1) h1 h0.2.2.1 hlt
      have r6 := q6_f (b := fs_ a 21 q 1) h6 (fun f hf => fs_n (by intro e; rw [e] at hf; exact absurd hf (by decide)))
      exact ⟨h0, r1, h2, h3, h4, h7, hj, r6, hb, h5⟩
  · rw [no_ (fun x => c ⟨x.1.1, by have := x.1.2; omega⟩)]
    exact H
theorem vq_watch {r v : Int32} (h10 : nr ≤ 10) (hs : s.1.1.toInt = (nr : Int)) (J : yJ_ s g κ B n σ) (h : qE_ T N g st na nr nl m day RL no nc a σ) : vX11_watch (g 0) r v σ (fun _ u => qE_ T N g st na nr nl m day RL no nc (ab_watch r v s a) u) (fun _ u => qE_ T N g st na nr nl m day RL no nc (ab_watch r v s a) u) := by
  have H := h
  obtain ⟨h0, h1, h2, h3, h4, h7, hj, h6, hb, h5⟩ := h
  unfold vX11_watch
  intro _
  refine vq_reachAt h10 J h1 (fun q hq hlt => ?_) (fun c => ?_)
  · have hz : z_is r s := ⟨by omega, by omega⟩
    rintro - v5 - - σ7 rfl -
    have ea : ab_watch r v s a = fs_ a 23 q v := by
      unfold ab_watch
      rw [if_pos hz, ki_toN hq]
    rw [ea]
    have r1 := q1_171 (v := v) h1 h0.2.2.1 hlt
    have r6 := q6_f (b := fs_ a 23 q v) h6 (fun f hf => fs_n (by intro e; rw [e] at hf; exact absurd hf (by decide)))
    exact ⟨h0, r1, h2, h3, h4, h7, hj, r6, hb, h5⟩
  · have ea : ab_watch r v s a = a := if_neg (fun x => c ⟨x.1, by have := x.2; omega⟩)
    rw [ea]
    exact H
end
end
section
/-! the class: things that are made. X: the lists that may grow; W: the int fields that may be written -/
def hx_ (X : Nat → Prop) (W : List Nat) (σ τ : kx_S) : Prop := fg_ σ τ ∧ (∀ f b, f ∉ W → f ≠ 16 → f ≠ 18 → xt σ b ≠ 0 → xi τ f b = xi σ f b) ∧ (∀ l, xt σ l = 1 → ¬ X l → xi τ 18 l = xi σ 18 l) ∧ (∀ l, xt σ l = 1 → (xi σ 18 l).toInt ≤ (xi τ 18 l).toInt ∧ ∀ i : Nat, (i : Int) < (xi σ 18 l).toInt → xe τ l i = xe σ l i) ∧ ∀ b, xt σ b ≠ 0 → xai τ b = xai σ b
theorem hx_refl {X : Nat → Prop} {W : List Nat} {σ : kx_S} : hx_ X W σ σ := ⟨fg_refl, fun _ _ _ _ _ _ => rfl, fun _ _ _ => rfl, fun _ _ => ⟨Int.le_refl _, fun _ _ => rfl⟩, fun _ _ => rfl⟩
theorem hx_mono {X Y : Nat → Prop} {W : List Nat} {σ τ : kx_S} (h : hx_ X W σ τ) (s : ∀ l, X l → Y l) : hx_ Y W σ τ := ⟨h.1, h.2.1, fun l a b => h.2.2.1 l a (fun q => b (s l q)), h.2.2.2⟩
theorem hx_trans {X : Nat → Prop} {W : List Nat} {a b c : kx_S} (h : hx_ X W a b) (k : hx_ X W b c) : hx_ X W a c := by
  have tg : ∀ x, xt a x ≠ 0 → xt b x ≠ 0 := fun x hx => by rw [h.1.1 x hx]; exact hx
  refine ⟨fg_trans h.1 k.1, fun f x h1 h2 h3 h4 => (k.2.1 f x h1 h2 h3 (tg x h4)).trans (h.2.1 f x h1 h2 h3 h4), fun l h1 h2 => ?_, fun l h1 => ?_, fun x h1 => (k.2.2.2.2 x (tg x h1)).trans (h.2.2.2.2 x h1)⟩
  · exact (k.2.2.1 l (fg_tag h.1 h1 (by decide)) h2).trans (h.2.2.1 l h1 h2)
  · obtain ⟨p1, p2⟩ := h.2.2.2.1 l h1
    obtain ⟨q1, q2⟩ := k.2.2.2.1 l (fg_tag h.1 h1 (by decide))
    exact ⟨Int.le_trans p1 q1, fun i hi => (q2 i (by omega)).trans (p2 i hi)⟩
theorem hx_new {X : Nat → Prop} {W : List Nat} {σ τ : kx_S} {p t : Nat} (h : hx_ X W σ τ) (hp : xt τ p = 0) : hx_ X W σ (xnew τ p t) := by
  obtain ⟨h1, h2, h3, h4, h5⟩ := h
  have ne : ∀ b, xt σ b ≠ 0 → b ≠ p := fun b hb e => hb (by rw [← h1.1 b hb, e]; exact hp)
  have k18 : ∀ l, xt σ l = 1 → xi (xnew τ p t) 18 l = xi τ 18 l := fun l a1 => va_up_ne _ _ (ne l (by rw [a1]; decide))
  refine ⟨fg_trans h1 (fg_new hp), fun f b a1 a2 a3 a4 => (va_up_ne _ _ (ne b a4)).trans (h2 f b a1 a2 a3 a4), fun l a1 a2 => (k18 l a1).trans (h3 l a1 a2), fun l a1 => ⟨by rw [k18 l a1]; exact (h4 l a1).1, fun i hi => ?_⟩, h5⟩
  refine Eq.trans ?_ ((h4 l a1).2 i hi)
  have e : xr (xnew τ p t) 17 l = xr τ 17 l := va_up_ne _ _ (ne l (by rw [a1]; decide))
  unfold xe
  rw [e]
  rfl
theorem hx_siP {X : Nat → Prop} {W : List Nat} {σ τ : kx_S} {f p : Nat} {v : Int32} (h : hx_ X W σ τ) (hp : xt σ p = 0) : hx_ X W σ (xsi τ f p v) := by
  obtain ⟨h1, h2, h3, h4, h5⟩ := h
  have ne : ∀ b, xt σ b ≠ 0 → b ≠ p := fun b hb e => hb (by rw [e]; exact hp)
  have k : ∀ g b, xt σ b ≠ 0 → xi (xsi τ f p v) g b = xi τ g b := fun g b hb => by
    show (if g = f then va_up (τ.2.1 f) p v else τ.2.1 g) b = τ.2.1 g b
    by_cases c : g = f
    · rw [if_pos c, va_up_ne _ _ (ne b hb), c]
    · rw [if_neg c]
  have k18 : ∀ l, xt σ l = 1 → xi (xsi τ f p v) 18 l = xi τ 18 l := fun l a1 => k 18 l (by rw [a1]; decide)
  exact ⟨h1, fun g b a1 a2 a3 a4 => (k g b a4).trans (h2 g b a1 a2 a3 a4), fun l a1 a2 => (k18 l a1).trans (h3 l a1 a2), fun l a1 => ⟨by rw [k18 l a1]; exact (h4 l a1).1, (h4 l a1).2⟩, h5⟩
theorem hx_srP {X : Nat → Prop} {W : List Nat} {σ τ : kx_S} {f p : Nat} {v : Option Nat} (h : hx_ X W σ τ) (hp : xt σ p = 0) : hx_ X W σ (xsr τ f p v) := by
  obtain ⟨h1, h2, h3, h4, h5⟩ := h
  have ne : ∀ b, xt σ b ≠ 0 → b ≠ p := fun b hb e => hb (by rw [e]; exact hp)
  have k : ∀ g b, xt σ b ≠ 0 → xr (xsr τ f p v) g b = xr τ g b := fun g b hb => by
    show (if g = f then va_up (τ.2.2.1 f) p v else τ.2.2.1 g) b = τ.2.2.1 g b
    by_cases c : g = f
    · rw [if_pos c, va_up_ne _ _ (ne b hb), c]
    · rw [if_neg c]
  refine ⟨⟨h1.1, fun g b a1 a2 => (k g b a2).trans (h1.2.1 g b a1 a2), h1.2.2⟩, h2, h3, fun l a1 => ⟨(h4 l a1).1, fun i hi => ?_⟩, h5⟩
  refine Eq.trans ?_ ((h4 l a1).2 i hi)
  have e := k 17 l (by rw [a1]; decide)
  unfold xe
  rw [e]
  rfl
theorem hx_ya {X : Nat → Prop} {W : List Nat} {σ τ u : kx_S} {l y : Nat} (h : hx_ X W σ τ) (A : ya_ l y τ u) (hX : X l) (hs : 0 ≤ (xi τ 18 l).toInt ∧ (xi τ 18 l).toInt ≤ 100000) (hq : ∀ b, xt τ b ≠ 0 → xai u b = xai τ b) : hx_ X W σ u := by
  obtain ⟨h1, h2, h3, h4, h5⟩ := h
  obtain ⟨a1, a2, a3, a4, a5, a6, a7, a8⟩ := A
  have tg : ∀ b, xt σ b ≠ 0 → xt τ b ≠ 0 := fun b hb => by rw [h1.1 b hb]; exact hb
  have up : ∀ l', (xi τ 18 l').toInt ≤ (xi u 18 l').toInt := fun l' => by
    rw [a4]
    by_cases c : l' = l
    · rw [c, va_up_self, ki_add (by rw [ki_z1]; omega) (by rw [ki_z1]; omega), ki_z1]
      omega
    · rw [va_up_ne _ _ c]
      exact Int.le_refl _
  refine ⟨fg_trans h1 a1, fun f b b1 b2 b3 b4 => by rw [a3 f b2 b3]; exact h2 f b b1 b2 b3 b4, fun l' b1 b2 => ?_, fun l' b1 => ⟨Int.le_trans (h4 l' b1).1 (up l'), fun i hi => ?_⟩, fun b hb => (hq b (tg b hb)).trans (h5 b hb)⟩
  · rw [a4, va_up_ne _ _ (fun e => b2 (by rw [e]; exact hX))]
    exact h3 l' b1 b2
  · have t' : xt τ l' = 1 := fg_tag h1 b1 (by decide)
    obtain ⟨c1, c2⟩ := h4 l' b1
    rw [a6 l' t' i (by omega)]
    exact c2 i hi
section
variable {T : Nat → Nat → Nat} {N : Nat → Nat} {g κ : Nat → Nat} {st na nr nl nc no m : Nat} {day : Nat → Int32} {RL : Nat → List (Bool × List Int32)} {a : ra_T} {σ τ : kx_S} {X : Nat → Prop} {W : List Nat}
theorem q1_hx (h : q1_ T (g 1) nr a σ) (F : hx_ X W σ τ) (t1 : xt σ (g 1) = 1) (x1 : ¬ X (g 1)) (xc : ∀ r, r < nr → ¬ X (T 21 r)) (hW : ∀ f ∈ W, f ∉ [160, 162, 165, 169, 170, 171, 34, 35]) : q1_ T (g 1) nr a τ := by
  obtain ⟨h1, h2⟩ := h
  have f1 := F.2.2.1 (g 1) t1 x1
  have f2 := (F.2.2.2.1 (g 1) t1).2
  refine ⟨by rw [f1]; exact h1, fun r hr => ?_⟩
  obtain ⟨⟨a1, a2⟩, a3, ⟨a4, a5, a6, a7, a8⟩, a9, a10, a11, a12, a13, a14⟩ := h2 r hr
  have tR : xt σ (T 10 r) ≠ 0 := by rw [a2]; decide
  have xk : ∀ {f b : Nat}, f ∈ [160, 162, 165, 169, 170, 171, 34, 35] → xt σ b ≠ 0 → xi τ f b = xi σ f b := fun {f b} hf hb => F.2.1 f b (fun q => hW f q hf) (by intro e; rw [e] at hf; exact absurd hf (by decide)) (by intro e; rw [e] at hf; exact absurd hf (by decide)) hb
  have c1 := F.2.2.1 (T 21 r) a12 (xc r hr)
  refine ⟨⟨by rw [f2 r (by omega)]; exact a1, fg_tag F.1 a2 (by decide)⟩, by rw [xk (by decide) tR]; exact a3, ⟨by rw [xk (by decide) tR]; exact a4, by rw [xk (by decide) tR]; exact a5, by rw [xk (by decide) tR]; exact a6, by rw [xk (by decide) tR]; exact a7, by rw [xk (by decide) tR]; exact a8⟩, ?_, ?_, by rw [F.1.2.1 163 _ (by decide) tR]; exact a11, fg_tag F.1 a12 (by decide), by rw [c1]; exact a13, a14⟩
  · rw [F.1.2.1 161 _ (by decide) tR]
    exact a9
  · rw [F.1.2.1 172 _ (by decide) tR]
    rcases a10 with q | ⟨q1, q2, q3, q4, q5, q6, q7⟩
    · exact .inl q
    · have tB : xt σ (T 2 r) ≠ 0 := by rw [q3]; decide
      exact .inr ⟨q1, q2, fg_tag F.1 q3 (by decide), by rw [F.1.2.1 32 _ (by decide) tB]; exact q4, by rw [F.1.2.1 33 _ (by decide) tB]; exact q5, by rw [xk (by decide) tB]; exact q6, by rw [xk (by decide) tB]; exact q7⟩
theorem q2_hx (h : q2_ T nr a σ) (h1 : q1_ T (g 1) nr a σ) (F : hx_ X W σ τ) (hW : ∀ f ∈ W, f ∉ [48, 50, 51]) : q2_ T nr a τ := by
  intro r hr c hc
  obtain ⟨⟨a1, a2⟩, a3, a4, a5, a6⟩ := h r hr c hc
  obtain ⟨_, _, _, _, _, b1, b2, b3, b4⟩ := h1.2 r hr
  have c2 := (F.2.2.2.1 (T 21 r) b2).2
  have tC : xt σ (T 3 (12 * r + c)) ≠ 0 := by rw [a2]; decide
  have xk : ∀ {f : Nat}, f ∈ [48, 50, 51] → xi τ f (T 3 (12 * r + c)) = xi σ f (T 3 (12 * r + c)) := fun {f} hf => F.2.1 f _ (fun q => hW f q hf) (by intro e; rw [e] at hf; exact absurd hf (by decide)) (by intro e; rw [e] at hf; exact absurd hf (by decide)) tC
  exact ⟨⟨by rw [c2 c (by omega)]; exact a1, fg_tag F.1 a2 (by decide)⟩, by rw [xk (by decide)]; exact a3, by rw [F.1.2.1 49 _ (by decide) tC]; exact a4, by rw [xk (by decide)]; exact a5, by rw [xk (by decide)]; exact a6⟩
theorem q3_hx (h : q3_ T nr a σ) (F : hx_ X W σ τ) (hX : ∀ k, vk_ nr a k → ¬ X (T 1 k)) : q3_ T nr a τ := by
  intro k hk
  obtain ⟨a1, a2, a3⟩ := h k hk
  refine ⟨fg_tag F.1 a1 (by decide), by rw [F.2.2.1 _ a1 (hX k hk)]; exact a2, fun i x hx => ?_⟩
  have hlt := (List.getElem?_eq_some_iff.1 hx).1
  rw [(F.2.2.2.1 _ a1).2 i (by omega)]
  exact a3 i x hx
theorem q4_hx (h : q4_ T (g 2) nl a σ) (F : hx_ X W σ τ) (t2 : xt σ (g 2) = 1) (x2 : ¬ X (g 2)) (hW : ∀ f ∈ W, f ∉ [128, 129, 130, 131, 132, 133, 134, 135, 136]) : q4_ T (g 2) nl a τ := by
  obtain ⟨h1, h2⟩ := h
  have f1 := F.2.2.1 (g 2) t2 x2
  have f2 := (F.2.2.2.1 (g 2) t2).2
  refine ⟨by rw [f1]; exact h1, fun j hj => ?_⟩
  obtain ⟨⟨a1, a2⟩, a3, ⟨a4, a5, a6⟩, a7, a8, a9, a10, a11⟩ := h2 j hj
  have tL : xt σ (T 8 j) ≠ 0 := by rw [a2]; decide
  have xk : ∀ {f : Nat}, f ∈ [128, 129, 130, 131, 132, 133, 134, 135, 136] → xi τ f (T 8 j) = xi σ f (T 8 j) := fun {f} hf => F.2.1 f _ (fun q => hW f q hf) (by intro e; rw [e] at hf; exact absurd hf (by decide)) (by intro e; rw [e] at hf; exact absurd hf (by decide)) tL
  exact ⟨⟨by rw [f2 j (by omega)]; exact a1, fg_tag F.1 a2 (by decide)⟩, by rw [xk (by decide)]; exact a3, ⟨by rw [xk (by decide)]; exact a4, by rw [xk (by decide)]; exact a5, by rw [xk (by decide)]; exact a6⟩, by rw [xk (by decide)]; exact a7, by rw [xk (by decide)]; exact a8, by rw [xk (by decide)]; exact a9, by rw [xk (by decide)]; exact a10, by rw [xk (by decide)]; exact a11⟩
theorem q5_hx (h : q5_ T N (g 4) nr nc a σ) (F : hx_ X W σ τ) (t4 : xt σ (g 4) = 1) (x4 : ¬ X (g 4)) (hW : 65 ∉ W) : q5_ T N (g 4) nr nc a τ := by
  obtain ⟨h1, h2, h3⟩ := h
  have f2 := (F.2.2.2.1 (g 4) t4).2
  refine ⟨by rw [F.2.2.1 (g 4) t4 x4]; exact h1, h2, fun k hk => ?_⟩
  obtain ⟨⟨a1, a2⟩, a3, a4, a5⟩ := h3 k hk
  have tC : xt σ (T 4 k) ≠ 0 := by rw [a2]; decide
  exact ⟨⟨by rw [f2 k (by omega)]; exact a1, fg_tag F.1 a2 (by decide)⟩, by rw [F.1.2.1 64 _ (by decide) tC]; exact a3, by rw [F.2.1 65 _ hW (by decide) (by decide) tC]; exact a4, a5⟩
theorem q6_hx (h : q6_ T N (g 5) nr no a σ) (F : hx_ X W σ τ) (t5 : xt σ (g 5) = 1) (x5 : ¬ X (g 5)) (x22 : ∀ r, r < nr → ¬ a.1 22 r = 0 → ¬ X (T 22 r)) (hW : ∀ f ∈ W, f ∉ [144, 145, 146]) : q6_ T N (g 5) nr no a τ := by
  obtain ⟨h1, h2, h3, h4⟩ := h
  have f2 := (F.2.2.2.1 (g 5) t5).2
  refine ⟨by rw [F.2.2.1 (g 5) t5 x5]; exact h1, h2, fun o ho => ?_, fun r hr hb => ?_⟩
  · obtain ⟨⟨a1, a2⟩, a3, a4, a5, a6, a7⟩ := h3 o ho
    have tO : xt σ (T 9 o) ≠ 0 := by rw [a2]; decide
    have xk : ∀ {f : Nat}, f ∈ [144, 145, 146] → xi τ f (T 9 o) = xi σ f (T 9 o) := fun {f} hf => F.2.1 f _ (fun q => hW f q hf) (by intro e; rw [e] at hf; exact absurd hf (by decide)) (by intro e; rw [e] at hf; exact absurd hf (by decide)) tO
    exact ⟨⟨by rw [f2 o (by omega)]; exact a1, fg_tag F.1 a2 (by decide)⟩, by rw [xk (by decide)]; exact a3, by rw [xk (by decide)]; exact a4, by rw [xk (by decide)]; exact a5, a6, a7⟩
  · obtain ⟨b1, b2, b3⟩ := h4 r hr hb
    have c2 := (F.2.2.2.1 (T 22 r) b1).2
    refine ⟨fg_tag F.1 b1 (by decide), by rw [F.2.2.1 _ b1 (x22 r hr hb)]; exact b2, fun i o hi => ?_⟩
    have hlt := (List.getElem?_eq_some_iff.1 hi).1
    rw [c2 i (by omega)]
    exact b3 i o hi
theorem q7_hx (h : q7_ T (g 3) m day RL st na σ) (F : hx_ X W σ τ) (t3 : xt σ (g 3) = 1) (x3 : ¬ X (g 3)) (hW : 96 ∉ W) : q7_ T (g 3) m day RL st na τ := by
  obtain ⟨h1, h2, h3⟩ := h
  have f2 := (F.2.2.2.1 (g 3) t3).2
  refine ⟨by rw [F.2.2.1 (g 3) t3 x3]; exact h1, h2, fun i hi => ?_⟩
  obtain ⟨⟨a1, a2⟩, a3, ⟨⟨b1, b2, b3, b4⟩, b5⟩, a4, a5, a6⟩ := h3 i hi
  have t6 : xt σ (T 6 i) ≠ 0 := by rw [a2]; decide
  have t20 : xt σ (T 20 i) ≠ 0 := by rw [b5]; decide
  refine ⟨⟨by rw [f2 i (by omega)]; exact a1, fg_tag F.1 a2 (by decide)⟩, by rw [F.2.1 96 _ hW (by decide) (by decide) t6]; exact a3, ⟨⟨by rw [F.1.2.1 97 _ (by decide) t6]; exact b1, by rw [F.1.2.2.1 _ t20]; exact b2, b3, fun j hj => ?_⟩, fg_tag F.1 b5 (by decide)⟩, a4, a5, a6⟩
  rw [F.2.2.2.2 _ t20]
  exact b4 j hj
theorem qj_hx (h : qj_ (g 8) st na σ) (F : hx_ X W σ τ) : qj_ (g 8) st na τ := by
  obtain ⟨⟨a1, a2, a3, a4, a5⟩, b1, b2, b3⟩ := h
  refine ⟨⟨?_, ?_, ?_, ?_, a5⟩, fg_tag F.1 b1 (by decide), fg_tag F.1 b2 (by decide), fg_tag F.1 b3 (by decide)⟩
  · rw [F.1.2.1 80 _ (by decide) (by rw [b1]; decide)]; exact a1
  · rw [F.1.2.1 81 _ (by decide) (by rw [b1]; decide)]; exact a2
  · rw [F.1.2.2.1 _ (by rw [b2]; decide)]; exact a3
  · rw [F.1.2.2.1 _ (by rw [b3]; decide)]; exact a4
end
end
section
/-! the class: a log that is cut -/
def n22_ (T : Nat → Nat → Nat) (N : Nat → Nat) (nr : Nat) (a : ra_T) : Prop := ∀ r, r < nr → ¬ a.1 22 r = 0 → N (T 22 r) = r
section
variable {T : Nat → Nat → Nat} {N : Nat → Nat} {g κ : Nat → Nat} {st na nr nl nc no m : Nat} {day : Nat → Int32} {RL : Nat → List (Bool × List Int32)} {s : sz_T} {B n : Nat} {a : ra_T} {σ τ : kx_S} {p : Nat}
def t8_ (T : Nat → Nat → Nat) (k i p : Nat) : Nat → Nat → Nat := fun j => if j = k then va_up (T k) i p else T j
theorem N_new {x v : Nat} (hp : xt σ p = 0) (hx : xt σ x ≠ 0) : va_up N p v x = N x := va_up_ne _ _ (fun e => hx (by rw [e]; exact hp))
theorem vq_cut {mk z t : Int32} (hB : B + 1 ≤ 3000) (hn : n ≤ 200) (l4 : nl ≤ 400) (hs : s.1.2.1.toInt = (nl : Int)) (A2 : ∀ k x, x ∈ a.2 k → x < nl) (z41 : a.1 41 nl = 0) (n22 : n22_ T N nr a) (J : yJ_ s g κ B n σ) (h : qE_ T N g st na nr nl m day RL no nc a σ) : vX11_cut (g 0) mk z t σ (fun _ u => ∃ T' N', T' 20 = T 20 ∧ n22_ T' N' nr (ab_cut mk z t s a) ∧ qE_ T' N' g st na nr (if s.1.2.1 = 400 ∨ mk < 0 ∨ 15 < mk ∨ z < 1 ∨ 9 < z ∨ t < 0 ∨ ¬ t ≤ 1000000 then nl else nl + 1) m day RL no nc (ab_cut mk z t s a) u) := by
  have H := h
  obtain ⟨Q0, Q22⟩ := qE_q0 J h
  obtain ⟨h0, h1, h2, h3, h4, h7, hj, h6, hb, h5⟩ := h
  have ids := yG_idx J
  have z400 : (400 : Int32).toInt = 400 := by decide
  have z15 : (15 : Int32).toInt = 15 := by decide
  have z9 : (9 : Int32).toInt = 9 := by decide
  have zM : (1000000 : Int32).toInt = 1000000 := by decide
  have no_ : (s.1.2.1 = 400 ∨ mk < 0 ∨ 15 < mk ∨ z < 1 ∨ 9 < z ∨ t < 0 ∨ ¬ t ≤ 1000000) → ∃ T' N', T' 20 = T 20 ∧ n22_ T' N' nr (ab_cut mk z t s a) ∧ qE_ T' N' g st na nr (if s.1.2.1 = 400 ∨ mk < 0 ∨ 15 < mk ∨ z < 1 ∨ 9 < z ∨ t < 0 ∨ ¬ t ≤ 1000000 then nl else nl + 1) m day RL no nc (ab_cut mk z t s a) σ := fun c => ⟨T, N, by
    unfold ab_cut
    rw [if_pos c, if_pos c]
    exact ⟨rfl, n22, H⟩⟩
  unfold vX11_cut
  intro _ a2 e2 _
  obtain rfl := Option.some.inj ((yg2 J).1.symm.trans e2)
  unfold vJx4a65c_size_8abf5
  intro _
  rw [ids.2.1, ki_le, z400, hs]
  refine ⟨fun c => no_ (.inl (ki_eq.2 (by rw [z400, hs]; omega))), fun c => ?_⟩
  refine vy_within (fun d => ⟨fun x => absurd rfl x, fun _ => no_ (.inr ?_)⟩) (fun c1 c2 => ⟨fun _ => ?_, fun x => absurd x (by decide)⟩)
  · rw [ki_z0, z15] at d
    rw [ki_lt, ki_z0, ki_lt, z15]
    by_cases q : mk.toInt < 0
    · exact .inl q
    · exact .inr (.inl (by omega))
  rw [ki_z0] at c1
  rw [z15] at c2
  refine vy_within (fun d => ⟨fun _ => no_ (.inr (.inr (.inr ?_))), fun x => absurd rfl x⟩) (fun c3 c4 => ⟨fun x => absurd x (by decide), fun _ => ?_⟩)
  · rw [ki_z1, z9] at d
    rw [ki_lt (b := 1), ki_z1, ki_lt (b := z), z9]
    by_cases q : z.toInt < 1
    · exact .inl q
    · exact .inr (.inl (by omega))
  rw [ki_z1] at c3
  rw [z9] at c4
  refine vy_within (fun d => ⟨fun x => absurd rfl x, fun _ => no_ (.inr (.inr (.inr (.inr (.inr ?_)))))⟩) (fun c5 c6 => ⟨fun _ => ?_, fun x => absurd x (by decide)⟩)
  · rw [ki_z0, zM] at d
    rw [ki_lt, ki_z0, ki_le, zM]
    by_cases q : t.toInt < 0
    · exact .inl q
    · exact .inr (by omega)
  rw [ki_z0] at c5
  rw [zM] at c6
  have ok : ¬ (s.1.2.1 = 400 ∨ mk < 0 ∨ 15 < mk ∨ z < 1 ∨ 9 < z ∨ t < 0 ∨ ¬ t ≤ 1000000) := by
    intro q
    rw [ki_lt, ki_lt, ki_lt, ki_lt, ki_lt, ki_le, ki_z0, z15, ki_z1, z9, zM] at q
    rcases q with q | q
    · have q' := congrArg Int32.toInt q
      rw [z400, hs] at q'
      omega
    · omega
  clear no_
  have en : s.1.2.1.toNatClampNeg = nl := ki_toN hs
  unfold ab_cut
  rw [if_neg ok, if_neg ok, en]
  intro _ p hp hz τ1 e1 _ a24 e24 _
  have I1 : yJ_ s g κ (B + 1) n τ1 := by rw [e1]; exact yI_new0 J hp hz (.inl rfl)
  obtain rfl := Option.some.inj ((yg2 I1).1.symm.trans e24)
  have sz1 : xi τ1 18 (g 2) = s.1.2.1 := (yG_idx I1).2.1
  intro _
  rw [sz1]
  have F1 : hx_ (fun l => l = g 2) [] σ τ1 := by rw [e1]; exact hx_new hx_refl hp
  have tp1 : xt τ1 p = 8 := by rw [e1]; exact va_up_self _ _ _
  have p135 : xi τ1 135 p = 0 := by rw [e1]; exact va_up_self _ _ _
  clear e1
  unfold vX6_init
  intro _ b2 f2 b4 f4 b6 f6 b8 f8 b10 f10 b12 f12 b14 f14 b16 f16 _ a31 e31 _
  have I2 : yJ_ s g κ (B + 1) n b16 := by
    rw [f16, f14, f12, f10, f8, f6, f4, f2]
    exact yI_si (by decide) (yI_si (by decide) (yI_si (by decide) (yI_si (by decide) (yI_si (by decide) (yI_si (by decide) (yI_129 ⟨c1, c2⟩ (yI_si (by decide) I1)))))))
  have F2 : hx_ (fun l => l = g 2) [] σ b16 := by
    rw [f16, f14, f12, f10, f8, f6, f4, f2]
    exact hx_siP (hx_siP (hx_siP (hx_siP (hx_siP (hx_siP (hx_siP (hx_siP F1 hp) hp) hp) hp) hp) hp) hp) hp
  have tp2 : xt b16 p = 8 := by rw [f16, f14, f12, f10, f8, f6, f4, f2]; exact tp1
  have v128 : xi b16 128 p = s.1.2.1 := by rw [f16, f14, f12, f10, f8, f6, f4, f2]; exact va_up_self _ _ _
  have v129 : xi b16 129 p = mk := by rw [f16, f14, f12, f10, f8, f6, f4, f2]; exact va_up_self _ _ _
  have v130 : xi b16 130 p = z := by rw [f16, f14, f12, f10, f8, f6, f4, f2]; exact va_up_self _ _ _
  have v131 : xi b16 131 p = t := by rw [f16, f14, f12, f10, f8, f6, f4, f2]; exact va_up_self _ _ _
  have v132 : xi b16 132 p = 0 := by rw [f16, f14, f12, f10, f8, f6, f4, f2]; exact va_up_self _ _ _
  have v133 : xi b16 133 p = -1 := by rw [f16, f14, f12, f10, f8, f6, f4, f2]; exact va_up_self _ _ _
  have v134 : xi b16 134 p = -1 := by rw [f16, f14, f12, f10, f8, f6, f4, f2]; exact va_up_self _ _ _
  have v136 : xi b16 136 p = -1 := by rw [f16, f14, f12, f10, f8, f6, f4, f2]; exact va_up_self _ _ _
  have v135 : xi b16 135 p = 0 := by rw [f16, f14, f12, f10, f8, f6, f4, f2]; exact p135
  clear f16 f14 f12 f10 f8 f6 f4 f2 p135 tp1 F1
  obtain rfl := Option.some.inj ((yg2 I2).1.symm.trans e31)
  have s2 : xi b16 18 (g 2) = s.1.2.1 := (yG_idx I2).2.1
  refine jaJx4a65c_add_9ea2d (Q := fun _ τ => ya_ (g 2) p b16 τ ∧ ∀ b, xt b16 b ≠ 0 → xt τ b = xt b16 b ∧ xai τ b = xai b16 b) (fun _ τ hh _ => ?_) _ _ _ (jcJx4a65c_add_9ea2d (Q := fun _ τ => ya_ (g 2) p b16 τ) (Q' := fun _ τ => ∀ b, xt b16 b ≠ 0 → xt τ b = xt b16 b ∧ xai τ b = xai b16 b) (fun _ _ x y => ⟨x, y⟩) _ _ _ (ry_add I2.1 hB hn (yg2 I2).2.1 (by rw [tp2, (yg2 I2).2.2]) (by unfold ylb; rw [if_pos rfl, s2, hs]; omega) (fun _ _ A => A)) vy_xai)
  obtain ⟨A3, X3⟩ := hh
  have F3 : hx_ (fun l => l = g 2) [] σ τ := hx_ya F2 A3 rfl (by rw [s2, hs]; omega) (fun b hb => (X3 b hb).2)
  have ne8 : ∀ x, κ x ≠ 8 → ¬ x = g 2 := fun x hx e => hx (by rw [e]; exact (yg2 J).2.2)
  have nn : ∀ f ∈ ([] : List Nat), ∀ L : List Nat, f ∉ L := fun f hf => absurd hf (List.not_mem_nil)
  have r1 := q1_hx h1 F3 (yg1 J).2.1 (ne8 _ (by rw [(yg1 J).2.2]; decide)) (fun r hr => ne8 _ (by rw [(Q0.2.2.1 r hr).1]; decide)) (fun f hf => nn f hf _)
  have r2 := q2_hx h2 h1 F3 (fun f hf => nn f hf _)
  have r3 := q3_hx h3 F3 (fun k hk => (Q0.1 k hk).2.1)
  have r5 := q5_hx h5 F3 (yg4 J).2.1 (ne8 _ (by rw [(yg4 J).2.2]; decide)) (List.not_mem_nil)
  have r6 := q6_hx h6 F3 (yg5 J).2.1 (ne8 _ (by rw [(yg5 J).2.2]; decide)) (fun r hr hb => ne8 _ (by rw [(Q22 r hr hb).1]; decide)) (fun f hf => nn f hf _)
  have r7 := q7_hx h7 F3 (yg3 J).2.1 (ne8 _ (by rw [(yg3 J).2.2]; decide)) (List.not_mem_nil)
  have rj := qj_hx hj F3
  have rb : xi τ 218 (g 0) = a.1 6 0 := by rw [F3.2.1 218 _ (List.not_mem_nil) (by decide) (by decide) (by rw [yg0 J]; decide)]; exact hb
  have k3 : ∀ f, f ≠ 16 → f ≠ 18 → xi τ f p = xi b16 f p := fun f x y => by rw [A3.2.2.1 f x y]
  have N_ : ∀ x, xt σ x ≠ 0 → va_up N p nl x = N x := fun x hx => N_new hp hx
  refine ⟨t8_ T 8 nl p, va_up N p nl, rfl, ?_, ⟨?_, ?_, ?_, ?_⟩, r1, r2, ?_, ⟨?_, ?_⟩, r7, rj, ?_, rb, ?_⟩
  · intro r hr hz
    have hz : ¬ a.1 22 r = 0 := hz
    show va_up N p nl (T 22 r) = r
    rw [N_ _ (by rw [(h6.2.2.2 r hr hz).1]; decide)]
    exact n22 r hr hz
  · intro k hk
    have hk : vk_ nr a k := hk
    show va_up N p nl (T 1 k) = k
    rw [N_ _ (by rw [(h3 k hk).1]; decide)]
    exact h0.1 k hk
  · intro r c hr hc
    have hc : c < ln_ a r := hc
    show va_up N p nl (T 3 (12 * r + c)) = _
    rw [N_ _ (by rw [((h2 r hr c hc).1).2]; decide)]
    exact h0.2.1 r c hr hc
  · intro r hr
    show va_up N p nl (T 10 r) = r
    rw [N_ _ (by rw [((h1.2 r hr).1).2]; decide)]
    exact h0.2.2.1 r hr
  · intro j hj'
    show va_up N p nl (va_up (T 8) nl p j) = j
    by_cases c : j = nl
    · rw [c, va_up_self, va_up_self]
    · rw [va_up_ne (T 8) _ c, N_ _ (by rw [((h4.2 j (by omega)).1).2]; decide)]
      exact h0.2.2.2 j (by omega)
  · intro k hk
    have hk : vk_ nr a k := hk
    obtain ⟨d1, d2, d3⟩ := r3 k hk
    refine ⟨d1, d2, fun i x hx => ?_⟩
    show xe τ (T 1 k) i = some (va_up (T 8) nl p x)
    have hx' : (a.2 k)[i]? = some x := hx
    have := A2 k x (List.mem_of_getElem? hx')
    rw [va_up_ne _ _ (by omega)]
    exact d3 i x hx'
  · rw [A3.2.2.2.1, va_up_self, s2]
    exact ki_addN hs ki_z1 (by omega)
  · intro j hj'
    by_cases c : j = nl
    · subst c
      have ep : t8_ T 8 j p 8 j = p := va_up_self _ _ _
      rw [ep]
      have ex := A3.2.2.2.2.2.2.1
      rw [s2, en] at ex
      refine ⟨⟨ex, fg_tag A3.1 tp2 (by decide)⟩, by rw [k3 128 (by decide) (by decide), v128]; exact hs, ⟨by rw [k3 129 (by decide) (by decide), v129]; exact w_updS.symm, by rw [k3 130 (by decide) (by decide), v130]; exact w_updS.symm, by rw [k3 131 (by decide) (by decide), v131]; exact w_updS.symm⟩, by rw [k3 132 (by decide) (by decide), v132]; exact w_updS.symm, by rw [k3 133 (by decide) (by decide), v133]; exact w_updS.symm, by rw [k3 134 (by decide) (by decide), v134]; exact w_updS.symm, by rw [k3 135 (by decide) (by decide), v135]; exact z41.symm, by rw [k3 136 (by decide) (by decide), v136]; exact w_updS.symm⟩
    · have hj2 : j < nl := by omega
      have ep : t8_ T 8 nl p 8 j = T 8 j := va_up_ne _ _ c
      rw [ep]
      obtain ⟨⟨a1, a2⟩, a3, ⟨a4, a5, a6⟩, a7, a8, a9, a10, a11⟩ := h4.2 j hj2
      have tL : xt σ (T 8 j) ≠ 0 := by rw [a2]; decide
      have xk : ∀ f, f ≠ 16 → f ≠ 18 → xi τ f (T 8 j) = xi σ f (T 8 j) := fun f x y => F3.2.1 f _ (List.not_mem_nil) x y tL
      have sz := h4.1
      refine ⟨⟨by rw [(F3.2.2.2.1 (g 2) (yg2 J).2.1).2 j (by omega)]; exact a1, fg_tag F3.1 a2 (by decide)⟩, by rw [xk 128 (by decide) (by decide)]; exact a3, ⟨by rw [xk 129 (by decide) (by decide), a4]; exact (w_updN c).symm, by rw [xk 130 (by decide) (by decide), a5]; exact (w_updN c).symm, by rw [xk 131 (by decide) (by decide), a6]; exact (w_updN c).symm⟩, by rw [xk 132 (by decide) (by decide), a7]; exact (w_updN c).symm, by rw [xk 133 (by decide) (by decide), a8]; exact (w_updN c).symm, by rw [xk 134 (by decide) (by decide), a9]; exact (w_updN c).symm, by rw [xk 135 (by decide) (by decide), a10]; rfl, by rw [xk 136 (by decide) (by decide), a11]; exact (w_updN c).symm⟩
  · obtain ⟨o1, o2, o3, o4⟩ := q6_f (b := fs_ (fs_ (fs_ (fs_ (fs_ (fs_ (fs_ a 35 nl mk) 36 nl z) 37 nl t) 38 nl 0) 39 nl (-1)) 40 nl (-1)) 42 nl (-1)) r6 (fun f hf => by
      simp at hf
      rcases hf with e | e | e | e | e <;> (rw [e]; rfl))
    refine ⟨o1, o2, fun o ho => ?_, o4⟩
    obtain ⟨b1, b3, b4, b5, b6, b7⟩ := o3 o ho
    refine ⟨b1, b3, b4, b5, ?_, b7⟩
    show va_up N p nl (T 9 o) = o
    rw [N_ _ (by rw [((h6.2.2.1 o ho).1).2]; decide)]
    exact b6
  · obtain ⟨o1, o2, o3⟩ := r5
    refine ⟨o1, o2, fun k hk => ?_⟩
    obtain ⟨b1, b3, b4, b5⟩ := o3 k hk
    refine ⟨b1, b3, b4, ?_⟩
    show va_up N p nl (T 4 k) = k
    rw [N_ _ (by rw [((h5.2.2 k hk).1).2]; decide)]
    exact b5
end
end
section
/-! the class: crews -/
theorem w_updI {F : Nat → Int32} {i : Nat} {v : Int32} (h : F i = v) : upd F i v = F := by
  funext j
  by_cases c : j = i
  · rw [c, w_updS, h]
  · rw [w_updN c]
theorem fs_id {a : ra_T} {f i : Nat} {v : Int32} (h : a.1 f i = v) : fs_ a f i v = a := by
  refine Prod.ext ?_ rfl
  funext e
  show (if e = f then upd (a.1 f) i v else a.1 e) = a.1 e
  by_cases c : e = f
  · rw [if_pos c, w_updI h, c]
  · rw [if_neg c]
section
variable {T : Nat → Nat → Nat} {N : Nat → Nat} {g κ : Nat → Nat} {st na nr nl nc no m : Nat} {day : Nat → Int32} {RL : Nat → List (Bool × List Int32)} {s : sz_T} {B n : Nat} {a : ra_T} {σ τ : kx_S}
theorem vq_newCrew {q : Nat} {r : Int32} {Q : Int32 → kx_S → Prop} (hB : B + 1 ≤ 3000) (hn : n ≤ 200) (hs : s.1.2.2.1.toInt = (nc : Int)) (hr : r.toInt = (q : Int)) (hq : q < nr) (hnow : 0 ≤ s.1.2.2.2.2.2.toInt ∧ s.1.2.2.2.2.2.toInt ≤ 20000) (n22 : n22_ T N nr a) (J : yJ_ s g κ B n σ) (h : qE_ T N g st na nr nl m day RL no nc a σ) (k0 : s.1.2.2.1 = 6 → Q (-1) σ) (k1 : ¬ s.1.2.2.1 = 6 → ∀ T' N' x u, T' 20 = T 20 → n22_ T' N' nr (ab_come r s.1.2.2.2.2.2 nc (fs_ (fs_ a 44 nc (-1)) 46 nc (-5))) → qE_ T' N' g st na nr nl m day RL no (nc + 1) (ab_come r s.1.2.2.2.2.2 nc (fs_ (fs_ a 44 nc (-1)) 46 nc (-5))) u → Q x u) : vX11_newCrew (g 0) (T 10 q) σ Q := by
  obtain ⟨Q0, Q22⟩ := qE_q0 J h
  obtain ⟨h0, h1, h2, h3, h4, h7, hj, h6, hb, h5⟩ := h
  have ids := yG_idx J
  have z6 : (6 : Int32).toInt = 6 := by decide
  have zm5 : (-5 : Int32).toInt = -5 := by decide
  have tR : xt σ (T 10 q) = 10 := ((h1.2 q hq).1).2
  unfold vX11_newCrew
  intro _ a2 e2 _
  obtain rfl := Option.some.inj ((yg4 J).1.symm.trans e2)
  unfold vJx4a65c_size_8abf5
  intro _
  rw [ids.2.2.1, ki_lt, z6, hs]
  refine ⟨fun c _ a9 e9 _ p hp hz τ1 e1 _ => ?_, fun c => k0 (ki_eq.2 (by rw [z6, hs]; have := h5.2.1; omega))⟩
  obtain rfl := Option.some.inj ((yg4 J).1.symm.trans e9)
  have ne6 : ¬ s.1.2.2.1 = 6 := fun x => by have := congrArg Int32.toInt x; rw [z6, hs] at this; omega
  have I1 : yI_ s (fun a => False ∨ a = p) g κ (B + 1) n τ1 := by rw [e1]; exact yI_new J hp hz (by decide)
  have F1 : hx_ (fun l => l = g 4) [] σ τ1 := by rw [e1]; exact hx_new hx_refl hp
  have tp1 : xt τ1 p = 4 := by rw [e1]; exact va_up_self _ _ _
  have p0 : p ≠ g 0 := fun e => by have := yg0 J; rw [← e, hp] at this; omega
  have w217 : xi τ1 217 (g 0) = s.1.2.2.2.2.2 := (yG_idx I1).2.2.2.2.2
  rw [w217]
  clear e1
  unfold vX2_init
  intro _ τ2 e2 τ3 e3 _
  have I2' : yI_ s (fun a => False ∨ a = p) g κ (B + 1) n τ3 := by rw [e3, e2]; exact yI_si (by decide) (yI_srE I1 (.inr rfl) (by decide) (by decide) p0)
  have F3 : hx_ (fun l => l = g 4) [] σ τ3 := by rw [e3, e2]; exact hx_siP (hx_srP F1 hp) hp
  have tp3 : xt τ3 p = 4 := by rw [e3, e2]; exact tp1
  have tR3 : xt τ3 (T 10 q) = 10 := fg_tag F3.1 tR (by decide)
  have r3 : xr τ3 64 p = some (T 10 q) := by rw [e3, e2]; exact va_up_self _ _ _
  have v65 : xi τ3 65 p = s.1.2.2.2.2.2 + 1 := by rw [e3]; exact va_up_self _ _ _
  clear e3 e2
  have I2 : yJ_ s g κ (B + 1) n τ3 := ⟨I2'.1, yP_add I2'.2.1 tp3 (fun q => absurd q (by decide)) (fun q => absurd q (by decide)) (fun _ => ⟨T 10 q, r3, tR3⟩) (fun q => absurd q (by decide)) (fun q => absurd q (by decide)) (by decide), I2'.2.2⟩
  have s3 : xi τ3 18 (g 4) = s.1.2.2.1 := (yG_idx I2).2.2.1
  have ne := yG_ne I2.2.2.1
  refine jaJx4a65c_add_9ea2d (Q := fun _ τ => ya_ (g 4) p τ3 τ ∧ ∀ b, xt τ3 b ≠ 0 → xt τ b = xt τ3 b ∧ xai τ b = xai τ3 b) (fun _ τ hh => ?_) _ _ _ (jcJx4a65c_add_9ea2d (Q := fun _ τ => ya_ (g 4) p τ3 τ) (Q' := fun _ τ => ∀ b, xt τ3 b ≠ 0 → xt τ b = xt τ3 b ∧ xai τ b = xai τ3 b) (fun _ _ x y => ⟨x, y⟩) _ _ _ (ry_add I2.1 hB hn (yg4 I2).2.1 (by rw [tp3, (yg4 I2).2.2]) (by unfold ylb; rw [if_neg (fun e => ne.2.2.2.2.2.1 e.symm), s3, hs]; omega) (fun _ _ A => A)) vy_xai)
  obtain ⟨A4, X4⟩ := hh
  have F4 : hx_ (fun l => l = g 4) [] σ τ := hx_ya F3 A4 rfl (by rw [s3, hs]; omega) (fun b hb => (X4 b hb).2)
  have ne4 : ∀ x, κ x ≠ 4 → ¬ x = g 4 := fun x hx e => hx (by rw [e]; exact (yg4 J).2.2)
  have nn : ∀ f ∈ ([] : List Nat), ∀ L : List Nat, f ∉ L := fun f hf => absurd hf (List.not_mem_nil)
  have r1 := q1_hx h1 F4 (yg1 J).2.1 (ne4 _ (by rw [(yg1 J).2.2]; decide)) (fun r hr => ne4 _ (by rw [(Q0.2.2.1 r hr).1]; decide)) (fun f hf => nn f hf _)
  have r2 := q2_hx h2 h1 F4 (fun f hf => nn f hf _)
  have r3' := q3_hx h3 F4 (fun k hk => ne4 _ (by rw [(Q0.1 k hk).1]; decide))
  have r4 := q4_hx h4 F4 (yg2 J).2.1 (ne4 _ (by rw [(yg2 J).2.2]; decide)) (fun f hf => nn f hf _)
  have r6 := q6_hx h6 F4 (yg5 J).2.1 (ne4 _ (by rw [(yg5 J).2.2]; decide)) (fun r hr hb => ne4 _ (by rw [(Q22 r hr hb).1]; decide)) (fun f hf => nn f hf _)
  have r7 := q7_hx h7 F4 (yg3 J).2.1 (ne4 _ (by rw [(yg3 J).2.2]; decide)) (List.not_mem_nil)
  have rj := qj_hx hj F4
  have rb : xi τ 218 (g 0) = a.1 6 0 := by rw [F4.2.1 218 _ (List.not_mem_nil) (by decide) (by decide) (by rw [yg0 J]; decide)]; exact hb
  have N_ : ∀ x, xt σ x ≠ 0 → va_up N p nc x = N x := fun x hx => N_new hp hx
  have er : ¬ (fs_ (fs_ a 44 nc (-1)) 46 nc (-5)).1 44 nc = r := by
    have e : (fs_ (fs_ a 44 nc (-1)) 46 nc (-5)).1 44 nc = -1 := w_updS
    rw [e]
    intro x
    rw [← x, ki_zm] at hr
    omega
  intro _ a23 e23 _ _
  have n22' : n22_ (t8_ T 4 nc p) (va_up N p nc) nr (ab_come r s.1.2.2.2.2.2 nc (fs_ (fs_ a 44 nc (-1)) 46 nc (-5))) := by
    intro r' hr' hz
    have hz : ¬ a.1 22 r' = 0 := by
      unfold ab_come at hz
      rw [if_neg er] at hz
      exact hz
    show va_up N p nc (T 22 r') = r'
    rw [N_ _ (by rw [(h6.2.2.2 r' hr' hz).1]; decide)]
    exact n22 r' hr' hz
  refine k1 ne6 (t8_ T 4 nc p) (va_up N p nc) _ τ rfl n22' ?_
  unfold ab_come
  rw [if_neg er]
  refine ⟨⟨?_, ?_, ?_, ?_⟩, r1, r2, r3', r4, r7, rj, ?_, rb, ⟨?_, by omega, ?_⟩⟩
  · intro k hk
    have hk : vk_ nr a k := hk
    show va_up N p nc (T 1 k) = k
    rw [N_ _ (by rw [(h3 k hk).1]; decide)]
    exact h0.1 k hk
  · intro r c hr hc
    have hc : c < ln_ a r := hc
    show va_up N p nc (T 3 (12 * r + c)) = _
    rw [N_ _ (by rw [((h2 r hr c hc).1).2]; decide)]
    exact h0.2.1 r c hr hc
  · intro r hr
    show va_up N p nc (T 10 r) = r
    rw [N_ _ (by rw [((h1.2 r hr).1).2]; decide)]
    exact h0.2.2.1 r hr
  · intro j hj'
    show va_up N p nc (T 8 j) = j
    rw [N_ _ (by rw [((h4.2 j hj').1).2]; decide)]
    exact h0.2.2.2 j hj'
  · obtain ⟨o1, o2, o3, o4⟩ := q6_f (b := fs_ (fs_ (fs_ (fs_ a 44 nc (-1)) 46 nc (-5)) 45 nc s.1.2.2.2.2.2) 44 nc r) r6 (fun f hf => by
      simp at hf
      rcases hf with e | e | e | e | e <;> (rw [e]; rfl))
    refine ⟨o1, o2, fun o ho => ?_, o4⟩
    obtain ⟨b1, b3, b4, b5, b6, b7⟩ := o3 o ho
    refine ⟨b1, b3, b4, b5, ?_, b7⟩
    show va_up N p nc (T 9 o) = o
    rw [N_ _ (by rw [((h6.2.2.1 o ho).1).2]; decide)]
    exact b6
  · rw [A4.2.2.2.1, va_up_self, s3]
    exact ki_addN hs ki_z1 (by omega)
  · intro k hk
    by_cases c : k = nc
    · subst c
      have ep : t8_ T 4 k p 4 k = p := va_up_self _ _ _
      rw [ep]
      have ex := A4.2.2.2.2.2.2.1
      rw [s3, ki_toN hs] at ex
      refine ⟨⟨ex, fg_tag A4.1 tp3 (by decide)⟩, ⟨q, hq, ?_, ?_⟩, ?_, va_up_self _ _ _⟩
      · have e : (fs_ (fs_ (fs_ (fs_ a 44 k (-1)) 46 k (-5)) 45 k s.1.2.2.2.2.2) 44 k r).1 44 k = r := w_updS
        rw [e]
        exact hr
      · rw [A4.2.2.2.2.1 64 (by decide)]
        exact r3
      · have e45 : (fs_ (fs_ (fs_ (fs_ a 44 k (-1)) 46 k (-5)) 45 k s.1.2.2.2.2.2) 44 k r).1 45 k = s.1.2.2.2.2.2 := w_updS
        have e46 : (fs_ (fs_ (fs_ (fs_ a 44 k (-1)) 46 k (-5)) 45 k s.1.2.2.2.2.2) 44 k r).1 46 k = -5 := w_updS
        rw [e45, e46, zm5, A4.2.2.1 65 (by decide) (by decide), v65, ki_add (by rw [ki_z1]; omega) (by rw [ki_z1]; omega), ki_z1]
        omega
    · have hk2 : k < nc := by omega
      have ep : t8_ T 4 nc p 4 k = T 4 k := va_up_ne _ _ c
      rw [ep]
      obtain ⟨⟨a1, a2⟩, a3, a4, a5⟩ := h5.2.2 k hk2
      have sz := h5.1
      have tC : xt σ (T 4 k) ≠ 0 := by rw [a2]; decide
      have e44 : (fs_ (fs_ (fs_ (fs_ a 44 nc (-1)) 46 nc (-5)) 45 nc s.1.2.2.2.2.2) 44 nc r).1 44 k = a.1 44 k := (w_updN c).trans (w_updN c)
      have e45 : (fs_ (fs_ (fs_ (fs_ a 44 nc (-1)) 46 nc (-5)) 45 nc s.1.2.2.2.2.2) 44 nc r).1 45 k = a.1 45 k := w_updN c
      have e46 : (fs_ (fs_ (fs_ (fs_ a 44 nc (-1)) 46 nc (-5)) 45 nc s.1.2.2.2.2.2) 44 nc r).1 46 k = a.1 46 k := w_updN c
      rw [e44, e45, e46]
      refine ⟨⟨by rw [(F4.2.2.2.1 (g 4) (yg4 J).2.1).2 k (by omega)]; exact a1, fg_tag F4.1 a2 (by decide)⟩, ?_, by rw [F4.2.1 65 _ (List.not_mem_nil) (by decide) (by decide) tC]; exact a4, ?_⟩
      · rw [F4.1.2.1 64 _ (by decide) tC]
        exact a3
      · rw [N_ _ tC]
        exact a5
theorem vq_crew {c r : Int32} (hB : B + 1 ≤ 3000) (hn : n ≤ 200) (h10 : nr ≤ 10) (hs1 : s.1.1.toInt = (nr : Int)) (hs : s.1.2.2.1.toInt = (nc : Int)) (C : co_ nr nc s.1.2.2.2.2.2 0 a) (n22 : n22_ T N nr a) (J : yJ_ s g κ B n σ) (h : qE_ T N g st na nr nl m day RL no nc a σ) : vX11_crew (g 0) c r σ (fun _ u => ∃ T' N', T' 20 = T 20 ∧ n22_ T' N' nr (ab_crew c r s a) ∧ qE_ T' N' g st na nr nl m day RL no (if z_is r s ∧ c = -1 ∧ ¬ s.1.2.2.1 = 6 then nc + 1 else nc) (ab_crew c r s a) u) (fun _ u => ∃ T' N', T' 20 = T 20 ∧ n22_ T' N' nr (ab_crew c r s a) ∧ qE_ T' N' g st na nr nl m day RL no (if z_is r s ∧ c = -1 ∧ ¬ s.1.2.2.1 = 6 then nc + 1 else nc) (ab_crew c r s a) u) := by
  have H := h
  obtain ⟨h0, h1, h2, h3, h4, h7, hj, h6, hb, h5⟩ := h
  have ids := yG_idx J
  have nc6 := h5.2.1
  have en : s.1.2.2.1.toNatClampNeg = nc := ki_toN hs
  have same : ab_crew c r s a = a → ¬ (z_is r s ∧ c = -1 ∧ ¬ s.1.2.2.1 = 6) → ∀ u, qE_ T N g st na nr nl m day RL no nc a u → ∃ T' N', T' 20 = T 20 ∧ n22_ T' N' nr (ab_crew c r s a) ∧ qE_ T' N' g st na nr nl m day RL no (if z_is r s ∧ c = -1 ∧ ¬ s.1.2.2.1 = 6 then nc + 1 else nc) (ab_crew c r s a) u := fun e1 e2 u hu => ⟨T, N, rfl, by rw [e1]; exact n22, by rw [e1, if_neg e2]; exact hu⟩
  unfold vX11_crew
  intro _
  refine vq_reachAt h10 J h1 (fun q hq hlt => ?_) (fun z => ?_)
  · have hz : z_is r s := ⟨by omega, by omega⟩
    refine ⟨fun d _ a6 e6 _ => ?_, fun d _ => ?_⟩
    · obtain rfl := Option.some.inj ((yg4 J).1.symm.trans e6)
      unfold vJx4a65c_size_8abf5
      intro _
      have hp := ki_pred h5.1 (by omega)
      have d' : c.toInt ≠ -1 := fun x => d (ki_eq.2 (x.trans ki_zm.symm))
      have nz : ¬ (z_is r s ∧ c = -1 ∧ ¬ s.1.2.2.1 = 6) := fun x => d x.2.1
      refine vy_within (fun q' => ⟨fun x => absurd rfl x, fun _ => same ?_ nz _ H⟩) (fun c1 c2 => ⟨fun _ _ a15 e15 _ => ?_, fun x => absurd x (by decide)⟩)
      · rw [ki_z0, hp] at q'
        unfold ab_crew
        rw [if_pos hz, if_neg d, if_pos (by rw [ki_lt, ki_zm, ki_le, hs]; omega)]
      · rw [ki_z0] at c1
        rw [hp] at c2
        obtain rfl := Option.some.inj ((yg4 J).1.symm.trans e15)
        obtain ⟨k, hk⟩ : ∃ k : Nat, c.toInt = (k : Int) := ⟨c.toInt.toNat, by omega⟩
        have hkn : k < nc := by omega
        have ec : ab_crew c r s a = ab_come r s.1.2.2.2.2.2 k a := by
          unfold ab_crew
          rw [if_pos hz, if_neg d, if_neg (by rw [ki_lt, ki_zm, ki_le, hs]; omega), ki_toN hk]
        obtain ⟨⟨b1, b2⟩, ⟨r0, b3, b4, b5⟩, b6, b7⟩ := h5.2.2 k hkn
        refine vy_get (fun _ _ => ?_)
        rw [ki_toN hk, b1]
        intro a20 e20 _ a23 e23 _
        obtain rfl := Option.some.inj e20
        obtain rfl := Option.some.inj (b5.symm.trans e23)
        have e160 := (h1.2 r0 b3).2.1
        refine ⟨fun x => ?_, fun x _ => ?_⟩
        · have e44 : a.1 44 k = r := ki_eq.2 (by rw [b4, ← e160, x])
          refine same ?_ nz _ H
          rw [ec]
          unfold ab_come
          rw [if_pos e44]
          exact fs_id e44
        · have e44 : ¬ a.1 44 k = r := fun y => x (ki_eq.2 (by rw [e160, ← b4, y]))
          unfold vX2_come
          rintro - σ2 rfl σ4 rfl
          rw [ids.2.2.2.2.2]
          refine ⟨T, N, rfl, ?_, ?_⟩
          · rw [ec]
            unfold ab_come
            rw [if_neg e44]
            exact n22
          rw [if_neg nz, ec]
          unfold ab_come
          rw [if_neg e44]
          have r6 := q6_f (b := fs_ (fs_ a 45 k s.1.2.2.2.2.2) 44 k r) h6 (fun f hf => by
            simp at hf
            rcases hf with e | e | e | e | e <;> (rw [e]; rfl))
          refine ⟨h0, h1, h2, h3, h4, h7, hj, r6, hb, h5.1, h5.2.1, fun j hj' => ?_⟩
          obtain ⟨⟨c1', c2'⟩, c3', c4', c5'⟩ := h5.2.2 j hj'
          obtain ⟨⟨n1, n2⟩, n3⟩ := C
          obtain ⟨_, _, m3, m4⟩ := n3 k hkn
          have m4 := m4 (Nat.zero_le k)
          by_cases cj : j = k
          · subst cj
            refine ⟨⟨c1', c2'⟩, ⟨q, hlt, ?_, va_up_self _ _ _⟩, ?_, c5'⟩
            · have e : (fs_ (fs_ a 45 j s.1.2.2.2.2.2) 44 j r).1 44 j = r := w_updS
              rw [e]
              exact hq
            · have e45 : (fs_ (fs_ a 45 j s.1.2.2.2.2.2) 44 j r).1 45 j = s.1.2.2.2.2.2 := w_updS
              have e46 : (fs_ (fs_ a 45 j s.1.2.2.2.2.2) 44 j r).1 46 j = a.1 46 j := rfl
              have e65 : xi (xsi (xsr σ 64 (T 4 j) (some (T 10 q))) 65 (T 4 j) (s.1.2.2.2.2.2 + 1)) 65 (T 4 j) = s.1.2.2.2.2.2 + 1 := va_up_self _ _ _
              rw [e45, e46, e65, ki_add (by rw [ki_z1]; omega) (by rw [ki_z1]; omega), ki_z1]
              omega
          · have nT : T 4 j ≠ T 4 k := fun e => cj (by rw [← c5', e, b7])
            have e44' : (fs_ (fs_ a 45 k s.1.2.2.2.2.2) 44 k r).1 44 j = a.1 44 j := w_updN cj
            have e45 : (fs_ (fs_ a 45 k s.1.2.2.2.2.2) 44 k r).1 45 j = a.1 45 j := w_updN cj
            have e46 : (fs_ (fs_ a 45 k s.1.2.2.2.2.2) 44 k r).1 46 j = a.1 46 j := rfl
            have e65 : xi (xsi (xsr σ 64 (T 4 k) (some (T 10 q))) 65 (T 4 k) (s.1.2.2.2.2.2 + 1)) 65 (T 4 j) = xi σ 65 (T 4 j) := va_up_ne _ _ nT
            have e64 : xr (xsi (xsr σ 64 (T 4 k) (some (T 10 q))) 65 (T 4 k) (s.1.2.2.2.2.2 + 1)) 64 (T 4 j) = xr σ 64 (T 4 j) := va_up_ne _ _ nT
            rw [e44', e45, e46, e65, e64]
            exact ⟨⟨c1', c2'⟩, c3', c4', c5'⟩
    · refine vq_newCrew hB hn hs hq hlt C.1 n22 J H (fun e6 => same ?_ (fun x => x.2.2 e6) _ H) (fun e6 T' N' x u h20 h22' hu => ⟨T', N', h20, ?_, ?_⟩)
      · unfold ab_crew
        rw [if_pos hz, if_pos d, if_pos e6]
      · unfold ab_crew
        rw [if_pos hz, if_pos d, if_neg e6, en]
        exact h22'
      · unfold ab_crew
        rw [if_pos hz, if_pos d, if_neg e6, if_pos ⟨hz, d, e6⟩, en]
        exact hu
  · have nz : ¬ z_is r s := fun x => z ⟨x.1, by have := x.2; omega⟩
    refine same ?_ (fun x => nz x.1) _ H
    unfold ab_crew
    rw [if_neg nz]
end
end
section
/-! the class: orders -/
theorem od_snoc {a b : ra_T} {r : Nat} : ∀ (m o : Nat), (∀ x, x < o + m → b.1 47 x = a.1 47 x) → od_ b r (m + 1) o = od_ a r m o ++ (if (b.1 47 (o + m)).toInt = (r : Int) then [o + m] else []) := by
  intro m
  induction m with
  | zero =>
    intro o _
    show (if (b.1 47 o).toInt = (r : Int) then o :: od_ b r 0 (o + 1) else od_ b r 0 (o + 1)) = [] ++ _
    rw [List.nil_append, Nat.add_zero]
    rfl
  | succ m ih =>
    intro o h
    have e : o + 1 + m = o + (m + 1) := by omega
    have i := ih (o + 1) (fun x hx => h x (by omega))
    rw [e] at i
    show (if (b.1 47 o).toInt = (r : Int) then o :: od_ b r (m + 1) (o + 1) else od_ b r (m + 1) (o + 1)) = (if (a.1 47 o).toInt = (r : Int) then o :: od_ a r m (o + 1) else od_ a r m (o + 1)) ++ _
    rw [i, h o (by omega)]
    split
    · rfl
    · rfl
section
variable {T : Nat → Nat → Nat} {N : Nat → Nat} {g κ : Nat → Nat} {st na nr nl nc no m : Nat} {day : Nat → Int32} {RL : Nat → List (Bool × List Int32)} {s : sz_T} {B n : Nat} {a : ra_T} {σ τ : kx_S}
theorem vq_order {r mk z w : Int32} (hB : B + 1 ≤ 3000) (hn : n ≤ 200) (h10 : nr ≤ 10) (hs1 : s.1.1.toInt = (nr : Int)) (hs : s.1.2.2.2.1.toInt = (no : Int)) (h22 : ∀ q, q < nr → (s.2.2.2.2.2 q = 0 ↔ a.1 22 q = 0)) (n22 : n22_ T N nr a) (J : yJ_ s g κ B n σ) (h : qE_ T N g st na nr nl m day RL no nc a σ) : vX11_order (g 0) r mk z w σ (fun _ u => ∃ T' N', T' 20 = T 20 ∧ n22_ T' N' nr (ab_order r mk z w s a) ∧ qE_ T' N' g st na nr nl m day RL (if z_is r s ∧ ¬ (s.2.2.2.2.2 r.toNatClampNeg = 0 ∨ mk < 0 ∨ 15 < mk ∨ z < 1 ∨ 9 < z ∨ w < 1 ∨ 100 < w ∨ s.1.2.2.2.1 = 60) then no + 1 else no) nc (ab_order r mk z w s a) u) (fun _ u => ∃ T' N', T' 20 = T 20 ∧ n22_ T' N' nr (ab_order r mk z w s a) ∧ qE_ T' N' g st na nr nl m day RL (if z_is r s ∧ ¬ (s.2.2.2.2.2 r.toNatClampNeg = 0 ∨ mk < 0 ∨ 15 < mk ∨ z < 1 ∨ 9 < z ∨ w < 1 ∨ 100 < w ∨ s.1.2.2.2.1 = 60) then no + 1 else no) nc (ab_order r mk z w s a) u) := by
  have H := h
  obtain ⟨Q0, Q22⟩ := qE_q0 J h
  obtain ⟨h0, h1, h2, h3, h4, h7, hj, h6, hb, h5⟩ := h
  have ids := yG_idx J
  have o60 := h6.2.1
  have z60 : (60 : Int32).toInt = 60 := by decide
  have z15 : (15 : Int32).toInt = 15 := by decide
  have z9 : (9 : Int32).toInt = 9 := by decide
  have z100 : (100 : Int32).toInt = 100 := by decide
  have no_ : ¬ (z_is r s ∧ ¬ (s.2.2.2.2.2 r.toNatClampNeg = 0 ∨ mk < 0 ∨ 15 < mk ∨ z < 1 ∨ 9 < z ∨ w < 1 ∨ 100 < w ∨ s.1.2.2.2.1 = 60)) → ∀ u, qE_ T N g st na nr nl m day RL no nc a u → ∃ T' N', T' 20 = T 20 ∧ n22_ T' N' nr (ab_order r mk z w s a) ∧ qE_ T' N' g st na nr nl m day RL (if z_is r s ∧ ¬ (s.2.2.2.2.2 r.toNatClampNeg = 0 ∨ mk < 0 ∨ 15 < mk ∨ z < 1 ∨ 9 < z ∨ w < 1 ∨ 100 < w ∨ s.1.2.2.2.1 = 60) then no + 1 else no) nc (ab_order r mk z w s a) u := fun c u hu => ⟨T, N, by
    unfold ab_order
    rw [if_neg c, if_neg c]
    exact ⟨rfl, n22, hu⟩⟩
  unfold vX11_order
  intro _
  refine vq_reachAt h10 J h1 (fun q hq hlt => ?_) (fun c => no_ (fun x => c ⟨x.1.1, by have := x.1.2; omega⟩) _ H)
  have hz : z_is r s := ⟨by omega, by omega⟩
  obtain ⟨_, _, _, _, b172, _⟩ := h1.2 q hlt
  have eq : r.toNatClampNeg = q := ki_toN hq
  intro _
  refine ⟨fun c => no_ (fun x => x.2 (.inl ?_)) _ H, fun a6 e6 _ a8 e8 _ => ?_⟩
  · rw [eq, h22 q hlt]
    rcases b172 with z | ⟨_, z, _⟩
    · exact z.2
    · rw [z] at c; exact absurd c (by simp)
  obtain ⟨nz, y1, y2, y3, y4, _⟩ : ¬ a.1 22 q = 0 ∧ xr σ 172 (T 10 q) = some (T 2 q) ∧ xt σ (T 2 q) = 2 ∧ xr σ 32 (T 2 q) = some (T 1 (120 + q)) ∧ xr σ 33 (T 2 q) = some (T 22 q) ∧ True := by
    rcases b172 with z | z
    · rw [z.1] at e6; exact absurd e6 (by simp)
    · exact ⟨z.1, z.2.1, z.2.2.1, z.2.2.2.1, z.2.2.2.2.1, trivial⟩
  have nb0 : ¬ s.2.2.2.2.2 r.toNatClampNeg = 0 := by rw [eq, h22 q hlt]; exact nz
  obtain rfl := Option.some.inj ((yg5 J).1.symm.trans e8)
  unfold vJx4a65c_size_8abf5
  intro _
  rw [ids.2.2.2.1, ki_lt, z60, hs]
  refine ⟨fun c => ?_, fun c => no_ (fun x => x.2 (.inr (.inr (.inr (.inr (.inr (.inr (.inr (ki_eq.2 (by rw [z60, hs]; omega))))))))) ) _ H⟩
  refine vy_within (fun d => ⟨fun _ => no_ (fun x => x.2 (.inr ?_)) _ H, fun x => absurd rfl x⟩) (fun c1 c2 => ⟨fun x => absurd x (by decide), fun _ => ?_⟩)
  · rw [ki_z0, z15] at d
    rw [ki_lt, ki_z0, ki_lt, z15]
    by_cases q : mk.toInt < 0
    · exact .inl q
    · exact .inr (.inl (by omega))
  rw [ki_z0] at c1
  rw [z15] at c2
  refine vy_within (fun d => ⟨fun _ => no_ (fun x => x.2 (.inr (.inr (.inr ?_)))) _ H, fun x => absurd rfl x⟩) (fun c3 c4 => ⟨fun x => absurd x (by decide), fun _ => ?_⟩)
  · rw [ki_z1, z9] at d
    rw [ki_lt (b := 1), ki_z1, ki_lt (b := z), z9]
    by_cases q : z.toInt < 1
    · exact .inl q
    · exact .inr (.inl (by omega))
  rw [ki_z1] at c3
  rw [z9] at c4
  refine vy_within (fun d => ⟨fun x => absurd rfl x, fun _ => no_ (fun x => x.2 (.inr (.inr (.inr (.inr (.inr ?_)))))) _ H⟩) (fun c5 c6 => ⟨fun _ => ?_, fun x => absurd x (by decide)⟩)
  · rw [ki_z1, z100] at d
    rw [ki_lt (b := 1), ki_z1, ki_lt (b := w), z100]
    by_cases q : w.toInt < 1
    · exact .inl q
    · exact .inr (.inl (by omega))
  rw [ki_z1] at c5
  rw [z100] at c6
  have ok : ¬ (s.2.2.2.2.2 r.toNatClampNeg = 0 ∨ mk < 0 ∨ 15 < mk ∨ z < 1 ∨ 9 < z ∨ w < 1 ∨ 100 < w ∨ s.1.2.2.2.1 = 60) := by
    intro x
    rw [ki_lt, ki_lt, ki_lt, ki_lt, ki_lt, ki_lt, ki_z0, z15, ki_z1, z9, z100] at x
    rcases x with x | x | x | x | x | x | x | x
    · exact nb0 x
    · omega
    · omega
    · omega
    · omega
    · omega
    · omega
    · have x' := congrArg Int32.toInt x
      rw [z60, hs] at x'
      omega
  clear no_
  have en : s.1.2.2.2.1.toNatClampNeg = no := ki_toN hs
  unfold ab_order
  rw [if_pos ⟨hz, ok⟩, if_pos ⟨hz, ok⟩, en]
  intro _ p hp hpz τ1 e1
  have I1 : yJ_ s g κ (B + 1) n τ1 := by rw [e1]; exact yI_new0 J hp hpz (.inr rfl)
  have F1 : hx_ (fun l => l = g 5) [] σ τ1 := by rw [e1]; exact hx_new hx_refl hp
  have tp1 : xt τ1 p = 9 := by rw [e1]; exact va_up_self _ _ _
  clear e1
  unfold vX7_init
  intro _ b2 f2 b4 f4 b6 f6 _ a31 e31 _
  have I2 : yJ_ s g κ (B + 1) n b6 := by
    rw [f6, f4, f2]
    exact yI_si (by decide) (yI_si (by decide) (yI_si (by decide) I1))
  have F2 : hx_ (fun l => l = g 5) [] σ b6 := by
    rw [f6, f4, f2]
    exact hx_siP (hx_siP (hx_siP F1 hp) hp) hp
  have tp2 : xt b6 p = 9 := by rw [f6, f4, f2]; exact tp1
  have v144 : xi b6 144 p = mk := by rw [f6, f4, f2]; exact va_up_self _ _ _
  have v145 : xi b6 145 p = z := by rw [f6, f4, f2]; exact va_up_self _ _ _
  have v146 : xi b6 146 p = w := by rw [f6, f4, f2]; exact va_up_self _ _ _
  clear f6 f4 f2 tp1 F1
  obtain rfl := Option.some.inj ((yg5 I2).1.symm.trans e31)
  have s2 : xi b6 18 (g 5) = s.1.2.2.2.1 := (yG_idx I2).2.2.2.1
  have k9 := Q22 q hlt nz
  have ne82 : ∀ x, κ x = 9 → x ≠ g 2 := fun x hx e => by rw [e, (yg2 J).2.2] at hx; exact absurd hx (by decide)
  refine jaJx4a65c_add_9ea2d (Q := fun _ τ => (yL_ g κ (B + 1) n τ ∧ ya_ (g 5) p b6 τ) ∧ ∀ b, xt b6 b ≠ 0 → xt τ b = xt b6 b ∧ xai τ b = xai b6 b) (fun _ τ3 hh => ?_) _ _ _ (jcJx4a65c_add_9ea2d (Q := fun _ τ => yL_ g κ (B + 1) n τ ∧ ya_ (g 5) p b6 τ) (Q' := fun _ τ => ∀ b, xt b6 b ≠ 0 → xt τ b = xt b6 b ∧ xai τ b = xai b6 b) (fun _ _ x y => ⟨x, y⟩) _ _ _ (ry_add I2.1 hB hn (yg5 I2).2.1 (by rw [tp2, (yg5 I2).2.2]) (by unfold ylb; rw [if_neg (ne82 _ (yg5 I2).2.2), s2, hs]; omega) (fun _ L A => ⟨L, A⟩)) vy_xai)
  obtain ⟨⟨L3, A3⟩, X3⟩ := hh
  have F3 : hx_ (fun l => l = g 5) [] σ τ3 := hx_ya F2 A3 rfl (by rw [s2, hs]; omega) (fun b hb => (X3 b hb).2)
  have tp3 : xt τ3 p = 9 := fg_tag A3.1 tp2 (by decide)
  obtain ⟨t1, t2, t3⟩ := h6.2.2.2 q hlt nz
  have tq3 : xt τ3 (T 22 q) = 1 := fg_tag F3.1 t1 (by decide)
  have odl := (od_lt (a := a) (r := q) no 0).2
  have s18 : xi τ3 18 (T 22 q) = xi σ 18 (T 22 q) := F3.2.2.1 (T 22 q) t1 k9.2
  have tR : xt σ (T 10 q) ≠ 0 := by rw [((h1.2 q hlt).1).2]; decide
  intro _ a37 e37 _ a40 e40 _
  rw [F3.1.2.1 172 _ (by decide) tR] at e37
  obtain rfl := Option.some.inj (y1.symm.trans e37)
  rw [F3.1.2.1 33 _ (by decide) (by rw [y2]; decide)] at e40
  obtain rfl := Option.some.inj (y4.symm.trans e40)
  refine jaJx4a65c_add_9ea2d (Q := fun _ τ => ya_ (T 22 q) p τ3 τ ∧ ∀ b, xt τ3 b ≠ 0 → xt τ b = xt τ3 b ∧ xai τ b = xai τ3 b) (fun _ τ hh => ?_) _ _ _ (jcJx4a65c_add_9ea2d (Q := fun _ τ => ya_ (T 22 q) p τ3 τ) (Q' := fun _ τ => ∀ b, xt τ3 b ≠ 0 → xt τ b = xt τ3 b ∧ xai τ b = xai τ3 b) (fun _ _ x y => ⟨x, y⟩) _ _ _ (ry_add L3 hB hn tq3 (by rw [tp3, k9.1]) (by unfold ylb; rw [if_neg (ne82 _ k9.1), s18, t2]; omega) (fun _ _ A => A)) vy_xai)
  obtain ⟨A4, X4⟩ := hh
  have F4 : hx_ (fun l => l = T 22 q) [] τ3 τ := hx_ya hx_refl A4 rfl (by rw [s18, t2]; omega) (fun b hb => (X4 b hb).2)
  have F : hx_ (fun l => l = g 5 ∨ l = T 22 q) [] σ τ := hx_trans (hx_mono F3 (fun _ x => .inl x)) (hx_mono F4 (fun _ x => .inr x))
  have ne9 : ∀ x, κ x ≠ 9 → ¬ (x = g 5 ∨ x = T 22 q) := fun x hx e => hx (by
    rcases e with e | e
    · rw [e]; exact (yg5 J).2.2
    · rw [e]; exact k9.1)
  have nn : ∀ f ∈ ([] : List Nat), ∀ L : List Nat, f ∉ L := fun f hf => absurd hf (List.not_mem_nil)
  have r1 := q1_hx h1 F (yg1 J).2.1 (ne9 _ (by rw [(yg1 J).2.2]; decide)) (fun r hr => ne9 _ (by rw [(Q0.2.2.1 r hr).1]; decide)) (fun f hf => nn f hf _)
  have r2 := q2_hx h2 h1 F (fun f hf => nn f hf _)
  have r3 := q3_hx h3 F (fun k hk => ne9 _ (by rw [(Q0.1 k hk).1]; decide))
  have r4 := q4_hx h4 F (yg2 J).2.1 (ne9 _ (by rw [(yg2 J).2.2]; decide)) (fun f hf => nn f hf _)
  have r5 := q5_hx h5 F (yg4 J).2.1 (ne9 _ (by rw [(yg4 J).2.2]; decide)) (List.not_mem_nil)
  have r7 := q7_hx h7 F (yg3 J).2.1 (ne9 _ (by rw [(yg3 J).2.2]; decide)) (List.not_mem_nil)
  have rj := qj_hx hj F
  have rb : xi τ 218 (g 0) = a.1 6 0 := by rw [F.2.1 218 _ (List.not_mem_nil) (by decide) (by decide) (by rw [yg0 J]; decide)]; exact hb
  have N_ : ∀ x, xt σ x ≠ 0 → va_up N p no x = N x := fun x hx => N_new hp hx
  intro _ a46 e46 _ _
  have g5q : g 5 ≠ T 22 q := fun e => k9.2 e.symm
  have sz5 : (xi τ 18 (g 5)).toInt = ((no + 1 : Nat) : Int) := by
    rw [A4.2.2.2.1, va_up_ne _ _ g5q, A3.2.2.2.1, va_up_self, s2]
    exact ki_addN hs ki_z1 (by omega)
  have x5 : xe τ (g 5) no = some p := by
    have ex := A3.2.2.2.2.2.2.1
    rw [s2, en] at ex
    have z5 : (xi τ3 18 (g 5)).toInt = ((no + 1 : Nat) : Int) := by
      rw [A3.2.2.2.1, va_up_self, s2]
      exact ki_addN hs ki_z1 (by omega)
    rw [A4.2.2.2.2.2.1 (g 5) (fg_tag F3.1 (yg5 J).2.1 (by decide)) no (by omega)]
    exact ex
  have kp : ∀ f, f ≠ 16 → f ≠ 18 → xi τ f p = xi b6 f p := fun f x y => by rw [A4.2.2.1 f x y, A3.2.2.1 f x y]
  refine ⟨t8_ T 9 no p, va_up N p no, rfl, ?_, ⟨?_, ?_, ?_, ?_⟩, r1, r2, r3, r4, r7, rj, ⟨sz5, by omega, ?_, ?_⟩, rb, ?_⟩
  · intro r' hr' hz'
    have hz' : ¬ a.1 22 r' = 0 := hz'
    show va_up N p no (T 22 r') = r'
    rw [N_ _ (by rw [(h6.2.2.2 r' hr' hz').1]; decide)]
    exact n22 r' hr' hz'
  · intro k hk
    have hk : vk_ nr a k := hk
    show va_up N p no (T 1 k) = k
    rw [N_ _ (by rw [(h3 k hk).1]; decide)]
    exact h0.1 k hk
  · intro r c hr hc
    have hc : c < ln_ a r := hc
    show va_up N p no (T 3 (12 * r + c)) = _
    rw [N_ _ (by rw [((h2 r hr c hc).1).2]; decide)]
    exact h0.2.1 r c hr hc
  · intro r hr
    show va_up N p no (T 10 r) = r
    rw [N_ _ (by rw [((h1.2 r hr).1).2]; decide)]
    exact h0.2.2.1 r hr
  · intro j hj'
    show va_up N p no (T 8 j) = j
    rw [N_ _ (by rw [((h4.2 j hj').1).2]; decide)]
    exact h0.2.2.2 j hj'
  · intro o ho
    by_cases c : o = no
    · subst c
      have ep : t8_ T 9 o p 9 o = p := va_up_self _ _ _
      rw [ep]
      refine ⟨⟨x5, fg_tag A4.1 tp3 (by decide)⟩, by rw [kp 144 (by decide) (by decide), v144]; exact w_updS.symm, by rw [kp 145 (by decide) (by decide), v145]; exact w_updS.symm, by rw [kp 146 (by decide) (by decide), v146]; exact w_updS.symm, va_up_self _ _ _, q, hlt, ?_, nz⟩
      have e : (fs_ (fs_ (fs_ (fs_ a 47 o r) 48 o mk) 49 o z) 50 o w).1 47 o = r := w_updS
      rw [e]
      exact hq
    · have ho2 : o < no := by omega
      have ep : t8_ T 9 no p 9 o = T 9 o := va_up_ne _ _ c
      rw [ep]
      obtain ⟨⟨a1, a2⟩, a3, a4, a5, a6, r0, a7, a8, a9⟩ := h6.2.2.1 o ho2
      have sz := h6.1
      have tO : xt σ (T 9 o) ≠ 0 := by rw [a2]; decide
      have xk : ∀ f, f ≠ 16 → f ≠ 18 → xi τ f (T 9 o) = xi σ f (T 9 o) := fun f x y => F.2.1 f _ (List.not_mem_nil) x y tO
      refine ⟨⟨by rw [(F.2.2.2.1 (g 5) (yg5 J).2.1).2 o (by omega)]; exact a1, fg_tag F.1 a2 (by decide)⟩, by rw [xk 144 (by decide) (by decide), a3]; exact (w_updN c).symm, by rw [xk 145 (by decide) (by decide), a4]; exact (w_updN c).symm, by rw [xk 146 (by decide) (by decide), a5]; exact (w_updN c).symm, by rw [N_ _ tO]; exact a6, r0, a7, ?_, a9⟩
      have e : (fs_ (fs_ (fs_ (fs_ a 47 no r) 48 no mk) 49 no z) 50 no w).1 47 o = a.1 47 o := w_updN c
      rw [e]
      exact a8
  · intro r' hr' hz'
    have hz' : ¬ a.1 22 r' = 0 := hz'
    obtain ⟨u1, u2, u3⟩ := h6.2.2.2 r' hr' hz'
    have od' : od_ (fs_ (fs_ (fs_ (fs_ a 47 no r) 48 no mk) 49 no z) 50 no w) r' (no + 1) 0 = od_ a r' no 0 ++ (if q = r' then [no] else []) := by
      rw [od_snoc (a := a) no 0 (fun x hx => (w_updN (by omega) : upd (a.1 47) no r x = a.1 47 x)), Nat.zero_add]
      have e : (fs_ (fs_ (fs_ (fs_ a 47 no r) 48 no mk) 49 no z) 50 no w).1 47 no = r := w_updS
      rw [e, hq]
      congr 1
      by_cases c : q = r'
      · rw [if_pos c, if_pos (by rw [c])]
      · rw [if_neg c, if_neg (by omega)]
    rw [od']
    show xt τ (T 22 r') = 1 ∧ (xi τ 18 (T 22 r')).toInt = _ ∧ ∀ (i o : Nat), _ → xe τ (T 22 r') i = some (va_up (T 9) no p o)
    have old : ∀ (i o : Nat), (od_ a r' no 0)[i]? = some o → xe τ (T 22 r') i = some (va_up (T 9) no p o) := by
      intro i o hi
      have hlt2 := (List.getElem?_eq_some_iff.1 hi).1
      have ho := ((od_lt (a := a) (r := r') no 0).1 o (List.mem_of_getElem? hi)).2.1
      rw [(F.2.2.2.1 (T 22 r') u1).2 i (by omega), va_up_ne _ _ (by omega)]
      exact u3 i o hi
    by_cases c : q = r'
    · subst c
      rw [if_pos rfl]
      refine ⟨fg_tag F.1 u1 (by decide), ?_, fun i o hi => ?_⟩
      · rw [A4.2.2.2.1, va_up_self, s18, List.length_append]
        exact ki_addN (k := 1) u2 ki_z1 (by omega)
      · by_cases ci : i < (od_ a q no 0).length
        · rw [List.getElem?_append_left ci] at hi
          exact old i o hi
        · rw [List.getElem?_append_right (by omega)] at hi
          have hi2 := (List.getElem?_eq_some_iff.1 hi).1
          have ei : i - (od_ a q no 0).length = 0 := by
            have : ([no] : List Nat).length = 1 := rfl
            omega
          rw [ei] at hi
          have eo : no = o := Option.some.inj hi
          rw [← eo, va_up_self]
          have ex := A4.2.2.2.2.2.2.1
          rw [s18, ki_toN u2] at ex
          rw [show i = (od_ a q no 0).length by omega]
          exact ex
    · rw [if_neg c, List.append_nil]
      have nT : ¬ (T 22 r' = g 5 ∨ T 22 r' = T 22 q) := by
        rintro (e | e)
        · exact (Q22 r' hr' hz').2 e
        · exact c (by rw [← n22 q hlt nz, ← e, n22 r' hr' hz'])
      exact ⟨fg_tag F.1 u1 (by decide), by rw [F.2.2.1 _ u1 nT]; exact u2, old⟩
  · obtain ⟨o1, o2, o3⟩ := r5
    refine ⟨o1, o2, fun k hk => ?_⟩
    obtain ⟨b1, b3, b4, b5⟩ := o3 k hk
    refine ⟨b1, b3, b4, ?_⟩
    show va_up N p no (T 4 k) = k
    rw [N_ _ (by rw [((h5.2.2 k hk).1).2]; decide)]
    exact b5
end
end
section
/-! a log that is let go -/
def e_ab (a : ra_T) (x : Nat) (r now : Int32) (k : Nat) : Int32 := match k with
  | 0 => a.1 35 x
  | 1 => a.1 36 x
  | 2 => a.1 37 x
  | 3 => now - now / 24 * 24
  | 4 => now / 24
  | 5 => r
  | _ => a.1 41 x
def bar_ (a : ra_T) (x : Nat) (r now : Int32) (day : Nat → Int32) (m : Nat) (RL : Nat → List (Bool × List Int32)) : Bool := e_barO (e_ab a x r now) ((lf_ day (now / 24) m 0 none).map RL)
def an_let (nr nl : Nat) (a : ra_T) (day : Nat → Int32) (m : Nat) (RL : Nat → List (Bool × List Int32)) (now l r c : Int32) : Option (Int32 × ra_T) := if in_ l nl ∧ in_ r nr ∧ in_ c (ln_ a r.toNatClampNeg) then some (if ¬ a.1 38 l.toNatClampNeg = 0 then (1, a) else if bar_ a l.toNatClampNeg r now day m RL = true then (2, a) else if a_open a r.toNatClampNeg c.toNatClampNeg = true then (0, a_take a l.toNatClampNeg r.toNatClampNeg c.toNatClampNeg) else (3, a)) else none
section
variable {nr nl no nc m : Nat} {day : Nat → Int32} {RL : Nat → List (Bool × List Int32)} {a : ra_T} {μ u : km_S}
theorem e_mn_ab {x : Nat} {r : Int32} (h : rA_ a μ) : e_mn x r μ = e_ab a x r (km_i μ 2) := by
  funext k
  match k with
  | 0 => exact congrFun (h.1 35 (by decide)) x
  | 1 => exact congrFun (h.1 36 (by decide)) x
  | 2 => exact congrFun (h.1 37 (by decide)) x
  | 3 => rfl
  | 4 => rfl
  | 5 => rfl
  | _ + 6 => exact congrFun (h.1 41 (by decide)) x
theorem rQ_md (h : rQ_ nl a μ) (k : md_ μ u) : rQ_ nl a u := rQ_nm (W := [57, 68]) h ⟨fun j hj => k.1 j (fun e => hj (by rw [e]; decide)), fun f hf => k.2.1 f (fun e => hf (by rw [e]; decide))⟩ (by decide)
theorem vr_let {l r c : Int32} {Q : Int32 → km_S → Prop} (h10 : nr ≤ 10) (l4 : nl ≤ 400) (A : ao_ nr nl a) (S : rsz_ a) (hn3 : (km_i μ 3).toInt = (nr : Int)) (hn4 : (km_i μ 4).toInt = (nl : Int)) (h5 : (km_i μ 5).toInt = (m : Int)) (hm : m ≤ 6) (hday : ∀ i, i < m → km_a μ 53 i = day i) (hL : ∀ l, l < m → mL_ l (RL l) μ) (h : rQ_ nl a μ) (k0 : an_let nr nl a day m RL (km_i μ 2) l r c = none → rQ_ nl a (mc1_ μ) → Q 0 (mc1_ μ)) (k1 : ∀ x b u, an_let nr nl a day m RL (km_i μ 2) l r c = some (x, b) → km_i u 1 = 0 → rQ_ nl b u → Q x u) : vX12_let l r c μ Q := by
  unfold vX12_let
  rintro μ1 rfl
  have h' : rQ_ nl a (km_si μ 1 0) := rQ_si h (by decide)
  have e1 : km_i (km_si μ 1 0) 1 = 0 := rfl
  have e2 : km_i (km_si μ 1 0) 2 = km_i μ 2 := rfl
  have hn3' : (km_i (km_si μ 1 0) 3).toInt = (nr : Int) := hn3
  have hn4' : (km_i (km_si μ 1 0) 4).toInt = (nl : Int) := hn4
  have h5' : (km_i (km_si μ 1 0) 5).toInt = (m : Int) := h5
  have hday' : ∀ i, i < m → km_a (km_si μ 1 0) 53 i = day i := hday
  have hL' : ∀ l, l < m → mL_ l (RL l) (km_si μ 1 0) := hL
  have fl : an_let nr nl a day m RL (km_i μ 2) l r c = none → vX12_let_22 Q (km_si μ 1 0) := by
    intro e
    rintro _ rfl
    exact k0 e (rQ_si h' (by decide))
  generalize km_si μ 1 0 = u1 at *
  refine vr_isLog hn4' (fun z => ⟨fun _ => fl (if_neg (fun q => z q.1)), fun x => absurd rfl x⟩) (fun x hx hxl => ⟨fun x => absurd x (by decide), fun _ => ?_⟩)
  refine vr_isCell A hn3' h'.1 (fun z => ⟨fun x => absurd rfl x, fun _ => fl (if_neg (fun q => z q.2))⟩) (fun q p hq hp hlt hpl => ⟨fun _ _ => ?_, fun x => absurd x (by decide)⟩)
  have p12 := (A.1 q hlt).1
  have ea : an_let nr nl a day m RL (km_i μ 2) l r c = some (if ¬ a.1 38 x = 0 then (1, a) else if bar_ a x r (km_i μ 2) day m RL = true then (2, a) else if a_open a q p = true then (0, a_take a x q p) else (3, a)) := by
    unfold an_let
    rw [if_pos ⟨in_of hx hxl, in_of hq hlt, by rw [ki_toN hq]; exact in_of hp hpl⟩, ki_toN hx, ki_toN hq, ki_toN hp]
  rw [ki_toN hx, h'.1.1 38 (by decide)]
  refine ⟨fun z => ?_, fun z => k1 1 a u1 (by rw [ea, if_pos z]) e1 h'⟩
  rw [if_neg (fun y => y z)] at ea
  refine vt_ruled (ki_toN hx) h5' hm hday' hL' (fun u2 M => ?_)
  have h2 := rQ_md h' M
  have e12 : km_i u2 1 = 0 := (M.1 1 (by decide)).trans e1
  rw [e_mn_ab h'.1, e2]
  show ((if bar_ a x r (km_i μ 2) day m RL = true then (1 : Int32) else 0) = 0 → _) ∧ (¬ (if bar_ a x r (km_i μ 2) day m RL = true then (1 : Int32) else 0) = 0 → _)
  by_cases cb : bar_ a x r (km_i μ 2) day m RL = true
  · rw [if_pos cb] at ea
    rw [if_pos cb]
    exact ⟨fun y => absurd y (by decide), fun _ => k1 2 a u2 ea e12 h2⟩
  · rw [if_neg cb] at ea
    rw [if_neg cb]
    refine ⟨fun _ => ?_, fun y => absurd rfl y⟩
    refine vr_isOpen h2.1 hq hp (by omega) (by omega) (fun co => ⟨fun _ _ => ?_, fun y => absurd y (by decide)⟩) (fun co => ⟨fun y => absurd rfl y, fun _ => k1 3 a u2 (by rw [ea, if_neg (by rw [co]; decide)]) e12 h2⟩)
    rw [if_pos co] at ea
    rintro μ19 rfl
    have ho := a_openT.1 co
    have c20 := (A.1 q hlt).2.2.1.2
    refine vr_lay (a := fs_ a 38 x 1) (rA_fs h2.1 (by decide)) hx hq hp (by omega) (by omega) S.1 (by show (a.2 (12 * q + p)).length < 20; have := ho.1; omega) (fun u Ru Fu Iu => ?_)
    refine k1 0 (a_take a x q p) u ea ?_ ⟨Ru, rB_p3 h2.2 ⟨fun y hy => ?_, rfl, rfl, rfl⟩ ?_⟩
    · show u.1 1 = 0
      rw [Iu]
      exact e12
    · have ne : ¬ y = x := fun e => by rw [e, z] at hy; exact absurd hy (by decide)
      exact (w_updN ne).trans hy
    · rw [Fu 43 (by decide) (by decide) (by decide) (by decide)]
      exact sa_n (by decide)
end
end
section
/-! the class: a log that is let go -/
section
variable {T : Nat → Nat → Nat} {N : Nat → Nat} {g κ : Nat → Nat} {st na nr nl nc no m : Nat} {day : Nat → Int32} {RL : Nat → List (Bool × List Int32)} {s : sz_T} {B n : Nat} {a : ra_T} {σ τ : kx_S}
theorem e_nm_ab {x : Nat} {r now : Int32} (h4 : q4_ T (g 2) nl a σ) (hx : x < nl) : e_nm (T 8 x) r now σ = e_ab a x r now := by
  obtain ⟨_, _, ⟨b1, b2, b3⟩, _, _, _, b7, _⟩ := h4.2 x hx
  funext k
  match k with
  | 0 => exact b1
  | 1 => exact b2
  | 2 => exact b3
  | 3 => rfl
  | 4 => rfl
  | 5 => rfl
  | _ + 6 => exact b7
theorem qE_jr (J : yJ_ s g κ B n σ) (h : qE_ T N g st na nr nl m day RL no nc a σ) (R : jr_ (g 8) st na σ τ) : qE_ T N g st na nr nl m day RL no nc a τ := by
  obtain ⟨z1, z2⟩ := qE_q0 J h
  obtain ⟨h0, h1, h2, h3, h4, h7, hj, h6, hb, h5⟩ := h
  have F : hf_ [82, 83] g κ st na σ τ := hf_jr hf_refl R (by decide) (by decide)
  obtain ⟨k1, k2, k3, k4, k5, k6, k7⟩ := R
  have ex : ∀ l i, xe τ l i = xe σ l i := by
    intro l i
    have e1 : xr τ 17 l = xr σ 17 l := by show τ.2.2.1 17 l = σ.2.2.1 17 l; rw [k3]
    unfold xe
    rw [e1]
    split
    · show τ.2.2.2.2.2.2.2.1 _ _ = σ.2.2.2.2.2.2.2.1 _ _
      rw [k7]
    · rfl
  have kc : ∀ r, r < nr → κ (T 21 r) = 3 := fun r hr => (z1.2.2.1 r hr).1
  refine ⟨h0, q1_hf h1 F (yg1 J).2.1 (yg1 J).2.2 kc (by decide), q2_hf h2 h1 F kc (by decide), fun k hk => ?_, q4_hf h4 F (yg2 J).2.1 (by decide), q7_hf h7 F (yg3 J).2.1 (yg3 J).2.2 (by decide), qj_hf hj F, q6_hf h6 F (yg5 J).2.1 (yg5 J).2.2 (fun r hr hz => (z2 r hr hz).1) (by decide) rfl rfl rfl rfl rfl, ?_, q5_hf h5 F (yg4 J).2.1 (yg4 J).2.2 (by decide) rfl rfl rfl⟩
  · obtain ⟨a1, a2, a3⟩ := h3 k hk
    exact ⟨by show τ.1 _ = 1; rw [k2]; exact a1, by rw [k1 18 _ (by rintro ⟨_, q | q⟩ <;> exact absurd q (by decide))]; exact a2, fun i x hx => by rw [ex]; exact a3 i x hx⟩
  · rw [k1 218 _ (by rintro ⟨_, q | q⟩ <;> exact absurd q (by decide))]
    exact hb
theorem vq_let {l r c : Int32} {Q : Int32 → kx_S → Prop} {QX : String → kx_S → Prop} (hB : B ≤ 3000) (hn : n ≤ 200) (h10 : nr ≤ 10) (l4 : nl ≤ 400) (J : yJ_ s g κ B n σ) (h : qE_ T N g st na nr nl m day RL no nc a σ) (k0 : an_let nr nl a day m RL s.1.2.2.2.2.2 l r c = none → QX pz_N (xbump σ)) (k1 : ∀ x b u, an_let nr nl a day m RL s.1.2.2.2.2.2 l r c = some (x, b) → qE_ T N g st na nr nl m day RL no nc b u → hf_ [82, 83, 132, 133, 134] g κ st na σ u → Q x u) : vX11_let (g 0) l r c σ Q QX := by
  have H := h
  obtain ⟨h0, h1, h2, h3, h4, h7, hj, h6, hb, h5⟩ := h
  have e217 := (yG_idx J).2.2.2.2.2
  unfold vX11_let
  intro _
  refine vq_logAt l4 J h4 (fun x hx hxl => ?_) (fun z => k0 (if_neg (fun y => z y.1)))
  intro _
  refine vq_reachAt h10 J h1 (fun q hq hlt => ?_) (fun z => k0 (if_neg (fun y => z y.2.1)))
  refine vq_checkCell h1 hlt (fun p hp hpl => ?_) (fun z => k0 (if_neg (fun y => z (by have := y.2.2; rw [ki_toN hq] at this; exact this))))
  intro _
  have ea : an_let nr nl a day m RL s.1.2.2.2.2.2 l r c = some (if ¬ a.1 38 x = 0 then (1, a) else if bar_ a x r s.1.2.2.2.2.2 day m RL = true then (2, a) else if a_open a q p = true then (0, a_take a x q p) else (3, a)) := by
    unfold an_let
    rw [if_pos ⟨in_of hx hxl, in_of hq hlt, by rw [ki_toN hq]; exact in_of hp hpl⟩, ki_toN hx, ki_toN hq, ki_toN hp]
  obtain ⟨⟨_, l8⟩, _, _, l38, _⟩ := h4.2 x hxl
  rw [l38]
  refine ⟨fun z => ?_, fun z => k1 1 a σ (by rw [ea, if_pos z]) H hf_refl⟩
  rw [if_neg (fun y => y z)] at ea
  intro _ a11 e11
  obtain rfl := Option.some.inj ((yg8 J).1.symm.trans e11)
  have wg := vq_weigh (ri := r) (hi := xi σ 217 (g 0)) (Q := fun σ16 => xt σ16 (g 0) = 13 → ∀ a19, xr σ16 215 (g 0) = some a19 → xt σ16 a19 = 5 → (((xi σ16 83 a19) = 0 → xt σ16 (T 10 q) = 10 → vX8_takes (T 10 q) (T 8 x) c σ16 (fun r24 σ23 => ((r24 = 0 → Q 3 σ23) ∧ (¬ (r24 = 0) → Q 0 σ23)))) ∧ (¬ ((xi σ16 83 a19) = 0) → Q 2 σ16))) J hj h7 l8 (fun τ Jt R1 e83 => ?_)
  · exact jaX11_lawInForce (Q := fun q' σ' => σ' = σ ∧ vX3_weigh (g 8) q' (T 8 x) r (xi σ 217 (g 0)) σ' _) (fun q' σ' hh => by
      obtain ⟨y1, y2⟩ := hh
      subst y1
      intro _ _
      exact y2) _ _ (jcX11_lawInForce (Q := fun q' σ' => σ' = σ) (fun q' σ' a b => ⟨a, b⟩) _ _ (rx_lawInForce J (fun q' _ => rfl)) wg)
  · intro _ a19 e19 _
    obtain rfl := Option.some.inj ((yg8 Jt).1.symm.trans e19)
    have Ht := qE_jr J H R1
    rw [e_nm_ab h4 hxl, e217] at e83
    have e83 : xi τ 83 (g 8) = (if bar_ a x r s.1.2.2.2.2.2 day m RL = true then 1 else 0) := e83
    rw [e83]
    by_cases cb : bar_ a x r s.1.2.2.2.2.2 day m RL = true
    · rw [if_pos cb] at ea
      rw [if_pos cb]
      exact ⟨fun y => absurd y (by decide), fun _ => k1 2 a τ ea Ht (hf_jr hf_refl R1 (by decide) (by decide))⟩
    · rw [if_neg cb] at ea
      rw [if_neg cb]
      refine ⟨fun _ _ => ?_, fun y => absurd rfl y⟩
      obtain ⟨Z1, Z2⟩ := qE_q0 Jt Ht
      have Ht' := Ht
      obtain ⟨t0, t1, t2, t3, t4, t7, tj, t6, tb, t5⟩ := Ht'
      refine vq_takes (st := st) (na := na) Jt hB hn Z1 t1 t2 t3 t4 h10 hlt hp hxl (fun _ ho u Ju Fu u3 u4 => ⟨fun y => absurd y (by decide), fun _ => ?_⟩) (fun no_ => ⟨fun _ => k1 3 a τ (by rw [ea, if_neg (fun y => no_ ⟨hpl, y⟩)]) Ht (hf_jr hf_refl R1 (by decide) (by decide)), fun y => absurd rfl y⟩)
      rw [if_pos ho] at ea
      have kc : ∀ r, r < nr → κ (T 21 r) = 3 := fun r hr => (Z1.2.2.1 r hr).1
      have u1 := q1_hf t1 Fu (yg1 Jt).2.1 (yg1 Jt).2.2 kc (by decide)
      have u2 := q2_hf t2 t1 Fu kc (by decide)
      have u7 := q7_hf t7 Fu (yg3 Jt).2.1 (yg3 Jt).2.2 (by decide)
      have uj := qj_hf tj Fu
      have ub : xi u 218 (g 0) = a.1 6 0 := by rw [Fu.2.1 218 _ (by decide) (by decide) (by decide) (by rw [yg0 Jt]; decide)]; exact tb
      exact k1 0 (a_take a x q p) u ea ⟨t0, u1, u2, u3, u4, u7, uj, q6_hf t6 Fu (yg5 Jt).2.1 (yg5 Jt).2.2 (fun r hr hz => (Z2 r hr hz).1) (by decide) rfl rfl rfl rfl rfl, ub, q5_hf t5 Fu (yg4 Jt).2.1 (yg4 Jt).2.2 (by decide) rfl rfl rfl⟩ (hf_trans (hf_jr hf_refl R1 (by decide) (by decide)) (hf_sub Fu (by decide)))
end
end
section
/-! bytes of an int: with or without sign they are the same -/
theorem b_low {x y : BitVec 32} (h : ∀ i, i < 8 → x.getLsbD i = y.getLsbD i) : x &&& 255#32 = y &&& 255#32 := by
  apply BitVec.eq_of_getLsbD_eq
  intro i hi
  rw [BitVec.getLsbD_and, BitVec.getLsbD_and]
  by_cases c : i < 8
  · rw [h i c]
  · have e : (255#32).getLsbD i = false := by
      have : ∀ j, j < 32 → ¬ j < 8 → (255#32).getLsbD j = false := by decide
      exact this i hi c
    rw [e, Bool.and_false, Bool.and_false]
theorem b_sh {x : BitVec 32} {k : Nat} (hk : k ≤ 24) : x.sshiftRight k &&& 255#32 = x >>> k &&& 255#32 := by
  refine b_low (fun i hi => ?_)
  rw [BitVec.getLsbD_sshiftRight, BitVec.getLsbD_ushiftRight]
  have : k + i < 32 := by omega
  simp [this]
  omega
theorem b_24 (x : Int32) : (x >>> ((24 : Int32) &&& 31)) &&& 255 = (x.toUInt32 >>> ((24 : Int32).toUInt32 &&& Int32.toUInt32 31)).toInt32 &&& 255 := Int32.toBitVec_inj.1 (b_sh (x := x.toBitVec) (k := 24) (by decide))
theorem b_16 (x : Int32) : (x >>> ((16 : Int32) &&& 31)) &&& 255 = (x.toUInt32 >>> ((16 : Int32).toUInt32 &&& Int32.toUInt32 31)).toInt32 &&& 255 := Int32.toBitVec_inj.1 (b_sh (x := x.toBitVec) (k := 16) (by decide))
theorem b_8 (x : Int32) : (x >>> ((8 : Int32) &&& 31)) &&& 255 = (x.toUInt32 >>> ((8 : Int32).toUInt32 &&& Int32.toUInt32 31)).toInt32 &&& 255 := Int32.toBitVec_inj.1 (b_sh (x := x.toBitVec) (k := 8) (by decide))
theorem b_0 (x : Int32) : (x >>> ((0 : Int32) &&& 31)) &&& 255 = (x.toUInt32 >>> ((0 : Int32).toUInt32 &&& Int32.toUInt32 31)).toInt32 &&& 255 := Int32.toBitVec_inj.1 (b_sh (x := x.toBitVec) (k := 0) (by decide))
theorem b_255 (v : Int32) : ¬ (v &&& 255) = -1 := by
  intro h
  have e : (v &&& 255).toBitVec.getLsbD 31 = (v.toBitVec.getLsbD 31 && (255#32).getLsbD 31) := BitVec.getLsbD_and
  rw [h, show (255#32).getLsbD 31 = false by decide, Bool.and_false] at e
  exact absurd e (by decide)
end
section
/-! the class: booms -/
theorem hx_0 {X : Nat → Prop} {W : List Nat} {σ τ : kx_S} {q : Nat} (F : hx_ X W σ τ) (h : xt τ q = 0) : xt σ q = 0 := Decidable.byContradiction (fun c => c (by rw [← F.1.1 q c]; exact h))
/-- a list that is made -/
theorem vq_newL {X : Nat → Prop} {W : List Nat} {σ τ : kx_S} {p : Nat} {Q : kx_S → Prop} (F : hx_ X W σ τ) (hp : xt τ p = 0) (kk : ∀ u, u = xsr (xsi (xnew τ p 1) 16 p 0) 17 p (some (xz τ)) → hx_ X W σ u → xt u p = 1 → xi u 18 p = 0 → (∀ x, x ≠ p → xt u x = xt τ x) → (∀ f x, x ≠ p → xi u f x = xi τ f x) → (∀ f x, x ≠ p → xr u f x = xr τ f x) → (∀ l i, l ≠ p → xe u l i = xe τ l i) → Q u) : ∀ σ5, σ5 = xnew τ p 1 → vJx4a65c_init_da8c8 p σ5 Q := by
  intro σ5 e5
  subst e5
  unfold vJx4a65c_init_da8c8 vJxc12de_init_da8c8 vJxa1e45_init_da8c8
  intro _ τ3 e3 _ u e
  have e' : u = xsr (xsi (xnew τ p 1) 16 p 0) 17 p (some (xz τ)) := by rw [e, e3]; rfl
  clear e e3
  have h0 := hx_0 F hp
  have kr : ∀ f x, x ≠ p → xr u f x = xr τ f x := fun f x hx => by
    rw [e']
    show (if f = 17 then va_up (va_up (xr τ 17) p none) p (some (xz τ)) else va_up (xr τ f) p none) x = _
    by_cases q : f = 17
    · rw [if_pos q, va_up_ne _ _ hx, va_up_ne _ _ hx, q]
    · rw [if_neg q, va_up_ne _ _ hx]
  refine kk u e' ?_ ?_ ?_ (fun x hx => ?_) (fun f x hx => ?_) kr (fun l i hl => ?_)
  · rw [e']
    exact hx_srP (hx_siP (hx_new F hp) h0) h0
  · rw [e']
    exact va_up_self _ _ _
  · rw [e']
    exact va_up_self _ _ _
  · rw [e']
    exact va_up_ne _ _ hx
  · rw [e']
    show (if f = 16 then va_up (va_up (xi τ 16) p 0) p 0 else va_up (xi τ f) p 0) x = _
    by_cases q : f = 16
    · rw [if_pos q, va_up_ne _ _ hx, va_up_ne _ _ hx, q]
    · rw [if_neg q, va_up_ne _ _ hx]
  · have e17 := kr 17 l hl
    unfold xe
    rw [e17, e']
    rfl
def bm_ (q : Nat) (x v : Int32) (a b : ra_T) : Prop := b.2 = a.2 ∧ (∀ f, f ∉ [22, 27, 28] → b.1 f = a.1 f) ∧ (∀ r, b.1 22 r = 0 ↔ a.1 22 r = 0) ∧ b.1 27 q = x ∧ b.1 28 q = v ∧ ∀ r, r ≠ q → b.1 27 r = a.1 27 r ∧ b.1 28 r = a.1 28 r
theorem bm_vk {nr q k : Nat} {x v : Int32} {a b : ra_T} (M : bm_ q x v a b) (h : vk_ nr b k) : vk_ nr a k := by
  have el : ∀ r, ln_ b r = ln_ a r := fun r => by unfold ln_; rw [M.2.1 14 (by decide)]
  rcases h with ⟨r, c, h1, h2, h3⟩ | ⟨r, h1, h2, h3⟩
  · exact .inl ⟨r, c, h1, by rw [← el]; exact h2, h3⟩
  · exact .inr ⟨r, h1, fun y => h2 ((M.2.2.1 r).2 y), h3⟩
section
variable {T : Nat → Nat → Nat} {N : Nat → Nat} {g κ : Nat → Nat} {st na nr nl nc no m : Nat} {day : Nat → Int32} {RL : Nat → List (Bool × List Int32)} {s : sz_T} {B n : Nat} {a b : ra_T} {σ τ : kx_S}
theorem vq_boom39 {q : Nat} {mk v : Int32} {Q : Int32 → kx_S → Prop} {QX : String → kx_S → Prop} (hq : q < nr) (hz : ¬ a.1 22 q = 0) (n22 : n22_ T N nr a) (h : qE_ T N g st na nr nl m day RL no nc a σ) (M : bm_ q (mk &&& 65535) v a b) (kk : ∀ u, n22_ T N nr b → qE_ T N g st na nr nl m day RL no nc b u → Q 1 u) : vX11_boom_39 Q QX mk v (T 10 q) σ := by
  obtain ⟨h0, h1, h2, h3, h4, h7, hj, h6, hb, h5⟩ := h
  have e := M.2.1
  have el : ∀ r, ln_ b r = ln_ a r := fun r => by unfold ln_; rw [e 14 (by decide)]
  have eo : ∀ r, od_ b r no 0 = od_ a r no 0 := fun r => od_qm (e 47 (by decide)) no 0
  have qq := (h1.2 q hq).2.2.2.2.1
  unfold vX11_boom_39
  intro _ a2 e2 _ σ5 e5 a8 e8 _ σ11 e11
  rw [e5] at e8
  have e8 : xr σ 172 (T 10 q) = some a8 := e8
  rcases qq with z | ⟨_, z2, z3, z4, z5, z6, z7⟩
  · exact absurd z.2 hz
  obtain rfl := Option.some.inj (z2.symm.trans e2)
  obtain rfl := Option.some.inj (z2.symm.trans e8)
  rw [e11, e5]
  clear e11 e5 e8 e2
  have ne : ∀ r, r < nr → r ≠ q → ¬ a.1 22 r = 0 → xr σ 32 (T 2 r) = some (T 1 (120 + r)) → T 2 r ≠ T 2 q := by
    intro r hr hne hr0 h32 x
    rw [x, z4] at h32
    have y := congrArg N (Option.some.inj h32)
    rw [h0.1 (120 + q) (.inr ⟨q, hq, hz, rfl⟩), h0.1 (120 + r) (.inr ⟨r, hr, hr0, rfl⟩)] at y
    omega
  refine kk _ (fun r hr h => n22 r hr (fun y => h ((M.2.2.1 r).2 y))) ⟨⟨fun k hk => h0.1 k (bm_vk M hk), fun r c hr hc => h0.2.1 r c hr (by rw [← el]; exact hc), h0.2.2⟩, ⟨h1.1, fun r hr => ?_⟩, ?_, ?_, ?_, h7, hj, ⟨h6.1, h6.2.1, fun o ho => ?_, fun r hr hb => ?_⟩, by rw [e 6 (by decide)]; exact hb, ?_⟩
  · obtain ⟨a1, a2, ⟨a4, a5, a6, a7, a8⟩, a9, a10, a11, a12, a13, a14⟩ := h1.2 r hr
    refine ⟨a1, a2, ⟨by rw [e 16 (by decide)]; exact a4, by rw [e 21 (by decide)]; exact a5, by rw [e 18 (by decide)]; exact a6, by rw [e 19 (by decide)]; exact a7, by rw [e 23 (by decide)]; exact a8⟩, by rw [e 13 (by decide)]; exact a9, ?_, a11, a12, by rw [el]; exact a13, by rw [el]; exact a14⟩
    rcases a10 with ⟨y1, y2⟩ | ⟨y1, y2, y3, y4, y5, y6, y7⟩
    · exact .inl ⟨y1, (M.2.2.1 r).2 y2⟩
    · refine .inr ⟨fun x => y1 ((M.2.2.1 r).1 x), y2, y3, y4, y5, ?_, ?_⟩
      · by_cases c : r = q
        · rw [c, M.2.2.2.1]
          exact va_up_self _ _ _
        · rw [(M.2.2.2.2.2 r c).1, ← y6]
          exact va_up_ne _ _ (ne r hr c y1 y4)
      · by_cases c : r = q
        · rw [c, M.2.2.2.2.1]
          exact va_up_self _ _ _
        · rw [(M.2.2.2.2.2 r c).2, ← y7]
          exact va_up_ne _ _ (ne r hr c y1 y4)
  · unfold q2_ at h2 ⊢
    simp only [el, e 15 (by decide), e 33 (by decide), e 34 (by decide)]
    exact h2
  · intro k hk
    rw [M.1]
    exact h3 k (bm_vk M hk)
  · unfold q4_ at h4 ⊢
    simp only [e 35 (by decide), e 36 (by decide), e 37 (by decide), e 38 (by decide), e 39 (by decide), e 40 (by decide), e 41 (by decide), e 42 (by decide)]
    exact h4
  · obtain ⟨b1, b3, b4, b5, b6, r, b7, b8, b9⟩ := h6.2.2.1 o ho
    exact ⟨b1, by rw [e 48 (by decide)]; exact b3, by rw [e 49 (by decide)]; exact b4, by rw [e 50 (by decide)]; exact b5, b6, r, b7, by rw [e 47 (by decide)]; exact b8, fun x => b9 ((M.2.2.1 r).1 x)⟩
  · rw [eo]
    exact h6.2.2.2 r hr (fun x => hb ((M.2.2.1 r).2 x))
  · unfold q5_ at h5 ⊢
    simp only [e 44 (by decide), e 45 (by decide), e 46 (by decide)]
    exact h5
/-- a boom that is made: its fields are nought -/
theorem vq_boomNew {q p h u : Nat} {τ6 : kx_S} (h10 : nr ≤ 10) (hq : q < nr) (z22 : a.1 22 q = 0) (z2 : a.2 (120 + q) = []) (n22 : n22_ T N nr a) (J : yJ_ s g κ B n σ) (H : qE_ T N g st na nr nl m day RL no nc a σ) (F : hx_ (fun _ => False) [] σ τ) (hp : xt σ p = 0) (hh : xt σ h = 0) (hu : xt σ u = 0) (hhu : h ≠ u) (tp : xt τ p = 2) (th : xt τ h = 1) (tu : xt τ u = 1) (sh : xi τ 18 h = 0) (su : xi τ 18 u = 0) (i34 : xi τ 34 p = 0) (i35 : xi τ 35 p = 0) (r32 : xr τ 32 p = some h) (r33 : xr τ 33 p = some u) (e6 : τ6 = xsr τ 172 (T 10 q) (some p)) : ∃ T' N', T' 10 = T 10 ∧ T' 20 = T 20 ∧ n22_ T' N' nr (fs_ (fs_ (fs_ a 22 q 1) 27 q 0) 28 q 0) ∧ qE_ T' N' g st na nr nl m day RL no nc (fs_ (fs_ (fs_ a 22 q 1) 27 q 0) 28 q 0) τ6 := by
  obtain ⟨h0, h1, h2, h3, h4, h7, hj, h6, hb, h5⟩ := H
  have nn : ∀ f ∈ ([] : List Nat), ∀ L : List Nat, f ∉ L := fun f hf => absurd hf (List.not_mem_nil)
  have r1 := q1_hx h1 F (yg1 J).2.1 (fun x => x) (fun r hr x => x) (fun f hf => nn f hf _)
  have r2 := q2_hx h2 h1 F (fun f hf => nn f hf _)
  have r3 := q3_hx h3 F (fun k hk x => x)
  have r4 := q4_hx h4 F (yg2 J).2.1 (fun x => x) (fun f hf => nn f hf _)
  have r5 := q5_hx h5 F (yg4 J).2.1 (fun x => x) (List.not_mem_nil)
  have r6 := q6_hx h6 F (yg5 J).2.1 (fun x => x) (fun r hr hb x => x) (fun f hf => nn f hf _)
  have r7 := q7_hx h7 F (yg3 J).2.1 (fun x => x) (List.not_mem_nil)
  have rj := qj_hx hj F
  have rb : xi τ 218 (g 0) = a.1 6 0 := by rw [F.2.1 218 _ (List.not_mem_nil) (by decide) (by decide) (by rw [yg0 J]; decide)]; exact hb
  have N_ : ∀ x, xt σ x ≠ 0 → va_up (va_up N h (120 + q)) u q x = N x := fun x hx => (va_up_ne _ _ (fun e => hx (by rw [e]; exact hu))).trans (va_up_ne _ _ (fun e => hx (by rw [e]; exact hh)))
  have Nh : va_up (va_up N h (120 + q)) u q h = 120 + q := (va_up_ne _ _ hhu).trans (va_up_self _ _ _)
  have Nu : va_up (va_up N h (120 + q)) u q u = q := va_up_self _ _ _
  have e22 : ∀ r, r ≠ q → upd (a.1 22) q 1 r = a.1 22 r := fun r hr => w_updN hr
  have vb : ∀ k, vk_ nr (fs_ (fs_ (fs_ a 22 q 1) 27 q 0) 28 q 0) k → k ≠ 120 + q → vk_ nr a k := by
    intro k hk hne
    rcases hk with z | ⟨r, x1, x2, x3⟩
    · exact .inl z
    · have c : r ≠ q := fun e => hne (by rw [x3, e])
      have x2 : ¬ upd (a.1 22) q 1 r = 0 := x2
      rw [e22 r c] at x2
      exact .inr ⟨r, x1, x2, x3⟩
  have i1 : ∀ k, k ≠ 120 + q → t8_ (t8_ (t8_ T 2 q p) 1 (120 + q) h) 22 q u 1 k = T 1 k := fun k hk => va_up_ne _ _ hk
  have i1s : t8_ (t8_ (t8_ T 2 q p) 1 (120 + q) h) 22 q u 1 (120 + q) = h := va_up_self _ _ _
  have oe : od_ a q no 0 = [] := by
    refine List.eq_nil_iff_forall_not_mem.2 (fun o ho => ?_)
    obtain ⟨_, o2, o3⟩ := (od_lt (a := a) (r := q) no 0).1 o ho
    obtain ⟨_, _, _, _, _, r, c1, c2, c3⟩ := h6.2.2.1 o (by omega)
    have : r = q := by omega
    exact c3 (by rw [this]; exact z22)
  have eo : ∀ r, od_ (fs_ (fs_ (fs_ a 22 q 1) 27 q 0) 28 q 0) r no 0 = od_ a r no 0 := fun r => od_qm (a := a) (b := fs_ (fs_ (fs_ a 22 q 1) 27 q 0) 28 q 0) rfl no 0
  refine ⟨t8_ (t8_ (t8_ T 2 q p) 1 (120 + q) h) 22 q u, va_up (va_up N h (120 + q)) u q, rfl, rfl, ?_, ?_⟩
  · intro r hr hz
    have hz : ¬ upd (a.1 22) q 1 r = 0 := hz
    show va_up (va_up N h (120 + q)) u q (va_up (T 22) q u r) = r
    by_cases c : r = q
    · rw [c, va_up_self (T 22)]
      exact Nu
    · rw [e22 r c] at hz
      rw [va_up_ne (T 22) _ c, N_ _ (by rw [(h6.2.2.2 r hr hz).1]; decide)]
      exact n22 r hr hz
  rw [e6]
  refine ⟨⟨?_, ?_, ?_, ?_⟩, ⟨r1.1, fun r hr => ?_⟩, ?_, ?_, r4, r7, rj, ⟨r6.1, r6.2.1, fun o ho => ?_, fun r hr hz => ?_⟩, rb, ?_⟩
  · intro k hk
    by_cases c : k = 120 + q
    · rw [c, i1s]
      exact Nh
    · have hk' := vb k hk c
      rw [i1 k c, N_ _ (by rw [(h3 k hk').1]; decide)]
      exact h0.1 k hk'
  · intro r c hr hc
    have hc : c < ln_ a r := hc
    show va_up (va_up N h (120 + q)) u q (T 3 (12 * r + c)) = _
    rw [N_ _ (by rw [((h2 r hr c hc).1).2]; decide)]
    exact h0.2.1 r c hr hc
  · intro r hr
    show va_up (va_up N h (120 + q)) u q (T 10 r) = r
    rw [N_ _ (by rw [((h1.2 r hr).1).2]; decide)]
    exact h0.2.2.1 r hr
  · intro j hj'
    show va_up (va_up N h (120 + q)) u q (T 8 j) = j
    rw [N_ _ (by rw [((h4.2 j hj').1).2]; decide)]
    exact h0.2.2.2 j hj'
  · obtain ⟨a1, a2, a3, a9, a10, a11⟩ := r1.2 r hr
    refine ⟨a1, a2, a3, a9, ?_, a11⟩
    show (va_up (xr τ 172) (T 10 q) (some p) (T 10 r) = none ∧ upd (a.1 22) q 1 r = 0) ∨ (¬ upd (a.1 22) q 1 r = 0 ∧ va_up (xr τ 172) (T 10 q) (some p) (T 10 r) = some (va_up (T 2) q p r) ∧ xt τ (va_up (T 2) q p r) = 2 ∧ xr τ 32 (va_up (T 2) q p r) = some (va_up (T 1) (120 + q) h (120 + r)) ∧ xr τ 33 (va_up (T 2) q p r) = some (va_up (T 22) q u r) ∧ xi τ 34 (va_up (T 2) q p r) = upd (a.1 27) q 0 r ∧ xi τ 35 (va_up (T 2) q p r) = upd (a.1 28) q 0 r)
    by_cases c : r = q
    · rw [c, va_up_self (xr τ 172), va_up_self (T 2), va_up_self (T 1), va_up_self (T 22), w_updS, w_updS, w_updS]
      exact .inr ⟨by decide, rfl, tp, r32, r33, i34, i35⟩
    · have nR : T 10 r ≠ T 10 q := fun e => c (by rw [← h0.2.2.1 r hr, e, h0.2.2.1 q hq])
      rw [va_up_ne (xr τ 172) _ nR, va_up_ne (T 2) _ c, va_up_ne (T 1) _ (show 120 + r ≠ 120 + q by omega), va_up_ne (T 22) _ c, w_updN c, w_updN c, w_updN c]
      exact a10
  · intro r hr c hc
    have hc : c < ln_ a r := hc
    obtain ⟨a1, a2, a3, a4⟩ := r2 r hr c hc
    have l12 := (h1.2 r hr).2.2.2.2.2.2.2.2.1
    refine ⟨a1, a2, ?_, a4⟩
    rw [i1 _ (by omega)]
    exact a3
  · intro k hk
    by_cases c : k = 120 + q
    · rw [c, i1s]
      have ea : (fs_ (fs_ (fs_ a 22 q 1) 27 q 0) 28 q 0).2 (120 + q) = [] := z2
      rw [ea]
      refine ⟨th, ?_, fun i x hx => ?_⟩
      · show (xi τ 18 h).toInt = _
        rw [sh]
        rfl
      · rw [List.getElem?_nil] at hx
        cases hx
    · rw [i1 k c]
      exact r3 k (vb k hk c)
  · obtain ⟨b1, b3, b4, b5, b6, r, b7, b8, b9⟩ := r6.2.2.1 o ho
    refine ⟨b1, b3, b4, b5, ?_, r, b7, b8, ?_⟩
    · show va_up (va_up N h (120 + q)) u q (T 9 o) = o
      rw [N_ _ (by rw [((h6.2.2.1 o ho).1).2]; decide)]
      exact b6
    · show ¬ upd (a.1 22) q 1 r = 0
      by_cases c : r = q
      · rw [c, w_updS]
        decide
      · rw [e22 r c]
        exact b9
  · rw [eo]
    have hz : ¬ upd (a.1 22) q 1 r = 0 := hz
    by_cases c : r = q
    · rw [c, oe]
      have i22 : t8_ (t8_ (t8_ T 2 q p) 1 (120 + q) h) 22 q u 22 q = u := va_up_self _ _ _
      rw [i22]
      refine ⟨tu, ?_, fun i x hx => ?_⟩
      · show (xi τ 18 u).toInt = _
        rw [su]
        rfl
      · rw [List.getElem?_nil] at hx
        cases hx
    · have i22 : t8_ (t8_ (t8_ T 2 q p) 1 (120 + q) h) 22 q u 22 r = T 22 r := va_up_ne _ _ c
      rw [i22]
      rw [e22 r c] at hz
      exact r6.2.2.2 r hr hz
  · obtain ⟨o1, o2, o3⟩ := r5
    refine ⟨o1, o2, fun k hk => ?_⟩
    obtain ⟨b1, b3, b4, b5⟩ := o3 k hk
    refine ⟨b1, b3, b4, ?_⟩
    show va_up (va_up N h (120 + q)) u q (T 4 k) = k
    rw [N_ _ (by rw [((h5.2.2 k hk).1).2]; decide)]
    exact b5
theorem vq_boom {r mk v : Int32} (h10 : nr ≤ 10) (hs : s.1.1.toInt = (nr : Int)) (Z : ∀ r, r < 10 → a.1 22 r = 0 → a.2 (120 + r) = []) (n22 : n22_ T N nr a) (J : yJ_ s g κ B n σ) (h : qE_ T N g st na nr nl m day RL no nc a σ) : vX11_boom (g 0) r mk v σ (fun _ u => ∃ T' N', T' 20 = T 20 ∧ n22_ T' N' nr (ab_boom r mk v s a) ∧ qE_ T' N' g st na nr nl m day RL no nc (ab_boom r mk v s a) u) (fun _ u => ∃ T' N', T' 20 = T 20 ∧ n22_ T' N' nr (ab_boom r mk v s a) ∧ qE_ T' N' g st na nr nl m day RL no nc (ab_boom r mk v s a) u) := by
  have H := h
  obtain ⟨h0, h1, h2, h3, h4, h7, hj, h6, hb, h5⟩ := h
  have z100 : (100 : Int32).toInt = 100 := by decide
  have no_ : ¬ (z_is r s ∧ ¬ (v < 1 ∨ ¬ v ≤ 100)) → ab_boom r mk v s a = a := fun c => if_neg c
  unfold vX11_boom
  intro _
  refine vq_reachAt h10 J h1 (fun q hq hlt => ?_) (fun c => ?_)
  · have hz : z_is r s := ⟨by omega, by omega⟩
    refine vy_within (fun d => ⟨fun x => absurd rfl x, fun _ => ?_⟩) (fun c1 c2 => ⟨fun _ _ => ?_, fun x => absurd x (by decide)⟩)
    · rw [no_ (fun x => x.2 (by rw [ki_lt, ki_z1, ki_le, z100]; rw [ki_z1, z100] at d; omega))]
      exact ⟨T, N, rfl, n22, H⟩
    · have ea : ab_boom r mk v s a = fs_ (fs_ (fs_ a 22 q 1) 27 q (mk &&& 65535)) 28 q v := by
        unfold ab_boom
        rw [if_pos ⟨hz, by rw [ki_lt, ki_z1, ki_le, z100]; rw [ki_z1] at c1; rw [z100] at c2; omega⟩, ki_toN hq]
      rw [ea]
      have nf : ∀ (c : ra_T) (x1 x2 x3 : Int32) f, f ∉ [22, 27, 28] → (fs_ (fs_ (fs_ c 22 q x1) 27 q x2) 28 q x3).1 f = c.1 f := fun c x1 x2 x3 f hf => by
        rw [fs_n (fun e => hf (by rw [e]; decide)), fs_n (fun e => hf (by rw [e]; decide)), fs_n (fun e => hf (by rw [e]; decide))]
      refine ⟨fun a23 e23 => ?_, fun en _ p hp _ τ1 e1 => ?_⟩
      · have nz : ¬ a.1 22 q = 0 := by
          rcases (h1.2 q hlt).2.2.2.2.1 with z | z
          · rw [z.1] at e23
            cases e23
          · exact z.1
        refine vq_boom39 (b := fs_ (fs_ (fs_ a 22 q 1) 27 q (mk &&& 65535)) 28 q v) hlt nz n22 H ⟨rfl, nf _ _ _ _, fun x => ?_, w_updS, w_updS, fun x hx => ⟨w_updN hx, w_updN hx⟩⟩ (fun u x y => ⟨T, N, rfl, x, y⟩)
        show upd (a.1 22) q 1 x = 0 ↔ _
        by_cases c : x = q
        · rw [c, w_updS]
          exact ⟨fun y => absurd y (by decide), fun y => absurd y nz⟩
        · rw [w_updN c]
      · have nz : a.1 22 q = 0 := by
          rcases (h1.2 q hlt).2.2.2.2.1 with z | z
          · exact z.2
          · rw [z.2.1] at en
            cases en
        have F1 : hx_ (fun _ => False) [] σ τ1 := by rw [e1]; exact hx_new hx_refl hp
        have tp1 : xt τ1 p = 2 := by rw [e1]; exact va_up_self _ _ _
        have z1 : ∀ f, xi τ1 f p = 0 := fun f => by rw [e1]; exact va_up_self _ _ _
        clear e1
        unfold vX0_init
        intro _ h hh _
        have hp1 : p ≠ h := fun e => by rw [e, hh] at tp1; omega
        refine vq_newL F1 hh (fun τ2 _ F2 th2 sh2 t2 i2 r2' _ _ τ3 e3 _ u hu _ => ?_)
        have F3 : hx_ (fun _ => False) [] σ τ3 := by rw [e3]; exact hx_srP F2 hp
        have th3 : xt τ3 h = 1 := by rw [e3]; exact th2
        have tp3 : xt τ3 p = 2 := by rw [e3]; exact (t2 p hp1).trans tp1
        have sh3 : xi τ3 18 h = 0 := by rw [e3]; exact sh2
        have z3 : ∀ f, xi τ3 f p = 0 := fun f => by rw [e3]; exact (i2 f p hp1).trans (z1 f)
        have r3' : xr τ3 32 p = some h := by rw [e3]; exact va_up_self _ _ _
        clear e3
        have hp3 : p ≠ u := fun e => by rw [e, hu] at tp3; omega
        have hh3 : h ≠ u := fun e => by rw [e, hu] at th3; omega
        refine vq_newL F3 hu (fun τ4 _ F4 tu4 su4 t4 i4 r4' _ _ τ5 e5 _ τ6 e6 => ?_)
        have F5 : hx_ (fun _ => False) [] σ τ5 := by rw [e5]; exact hx_srP F4 hp
        have tu5 : xt τ5 u = 1 := by rw [e5]; exact tu4
        have su5 : xi τ5 18 u = 0 := by rw [e5]; exact su4
        have th5 : xt τ5 h = 1 := by rw [e5]; exact (t4 h hh3).trans th3
        have sh5 : xi τ5 18 h = 0 := by rw [e5]; exact (i4 18 h hh3).trans sh3
        have tp5 : xt τ5 p = 2 := by rw [e5]; exact (t4 p hp3).trans tp3
        have z5 : ∀ f, xi τ5 f p = 0 := fun f => by rw [e5]; exact (i4 f p hp3).trans (z3 f)
        have r5' : xr τ5 33 p = some u := by rw [e5]; exact va_up_self _ _ _
        have r5'' : xr τ5 32 p = some h := by rw [e5]; exact (r4' 32 p hp3).trans r3'
        clear e5
        obtain ⟨T', N', eT, eT2, n22', H'⟩ := vq_boomNew (st := st) (na := na) h10 hlt nz (Z q (by omega) nz) n22 J H F5 hp (hx_0 F1 hh) (hx_0 F3 hu) hh3 tp5 th5 tu5 sh5 su5 (z5 34) (z5 35) r5'' r5' e6
        rw [← eT]
        refine vq_boom39 (b := fs_ (fs_ (fs_ a 22 q 1) 27 q (mk &&& 65535)) 28 q v) hlt (by show ¬ upd (a.1 22) q 1 q = 0; rw [w_updS]; decide) n22' H' ⟨rfl, fun f hf => (nf _ _ _ _ f hf).trans (nf _ _ _ _ f hf).symm, fun x => ?_, w_updS, w_updS, fun x hx => ⟨?_, ?_⟩⟩ (fun u x y => ⟨T', N', eT2, x, y⟩)
        · exact Iff.rfl
        · show upd (a.1 27) q _ x = upd (a.1 27) q 0 x
          rw [w_updN hx, w_updN hx]
        · show upd (a.1 28) q _ x = upd (a.1 28) q 0 x
          rw [w_updN hx, w_updN hx]
  · rw [no_ (fun x => c ⟨x.1.1, by have := x.1.2; omega⟩)]
    exact ⟨T, N, rfl, n22, H⟩
end
end
section
/-! the class: reaches -/
def q1b_ (T : Nat → Nat → Nat) (g1 r : Nat) (a : ra_T) (σ : kx_S) : Prop := (xe σ g1 r = some (T 10 r) ∧ xt σ (T 10 r) = 10) ∧ (xi σ 160 (T 10 r)).toInt = (r : Int) ∧ (xi σ 162 (T 10 r) = a.1 16 r ∧ xi σ 165 (T 10 r) = a.1 21 r ∧ xi σ 169 (T 10 r) = a.1 18 r ∧ xi σ 170 (T 10 r) = a.1 19 r ∧ xi σ 171 (T 10 r) = a.1 23 r) ∧ ((xr σ 161 (T 10 r) = none ∧ a.1 13 r = -1) ∨ ∃ q : Nat, (a.1 13 r).toInt = (q : Int) ∧ q < r ∧ xr σ 161 (T 10 r) = some (T 10 q)) ∧ ((xr σ 172 (T 10 r) = none ∧ a.1 22 r = 0) ∨ (¬ a.1 22 r = 0 ∧ xr σ 172 (T 10 r) = some (T 2 r) ∧ xt σ (T 2 r) = 2 ∧ xr σ 32 (T 2 r) = some (T 1 (120 + r)) ∧ xr σ 33 (T 2 r) = some (T 22 r) ∧ xi σ 34 (T 2 r) = a.1 27 r ∧ xi σ 35 (T 2 r) = a.1 28 r)) ∧ (xr σ 163 (T 10 r) = some (T 21 r) ∧ xt σ (T 21 r) = 1 ∧ (xi σ 18 (T 21 r)).toInt = (ln_ a r : Int) ∧ ln_ a r ≤ 12 ∧ 1 ≤ ln_ a r)
/-- a reach that is made, not yet among the others: c cells so far -/
def rk4_ (σ : kx_S) (N : Nat → Nat) (g1 l p nr c : Nat) (jm cr : Int32) (bw : Option Nat) (C H M : Nat → Nat) (τ : kx_S) : Prop := hx_ (fun x => x = l ∨ x = g1) [] σ τ ∧ (xt τ p = 10 ∧ xr τ 163 p = some l ∧ xt τ l = 1 ∧ (xi τ 18 l).toInt = (c : Int)) ∧ ((xi τ 160 p).toInt = (nr : Int) ∧ xi τ 162 p = jm ∧ (∀ f, f ∈ [165, 169, 170, 171] → xi τ f p = 0) ∧ xr τ 161 p = bw ∧ xr τ 172 p = none) ∧ ((∀ x, xt σ x ≠ 0 → M x = N x) ∧ M p = nr) ∧ ∀ j, j < c → (xe τ l j = some (C j) ∧ xt τ (C j) = 3) ∧ xi τ 48 (C j) = cr ∧ xr τ 49 (C j) = some (H j) ∧ (xi τ 50 (C j) = 0 ∧ xi τ 51 (C j) = 0) ∧ (xt τ (H j) = 1 ∧ xi τ 18 (H j) = 0 ∧ H j ≠ l ∧ xt σ (H j) = 0) ∧ M (C j) = 12 * nr + j ∧ M (H j) = 12 * nr + j
section
variable {T : Nat → Nat → Nat} {N : Nat → Nat} {g κ : Nat → Nat} {st na nr nl nc no m : Nat} {day : Nat → Int32} {RL : Nat → List (Bool × List Int32)} {s : sz_T} {B n : Nat} {a b : ra_T} {σ τ : kx_S} {X : Nat → Prop} {W : List Nat}
theorem q1_hy (h : q1_ T (g 1) nr a σ) (F : hx_ X W σ τ) (t1 : xt σ (g 1) = 1) (xc : ∀ r, r < nr → ¬ X (T 21 r)) (hW : ∀ f ∈ W, f ∉ [160, 162, 165, 169, 170, 171, 34, 35]) : ∀ r, r < nr → q1b_ T (g 1) r a τ := by
  obtain ⟨h1, h2⟩ := h
  have f2 := (F.2.2.2.1 (g 1) t1).2
  intro r hr
  obtain ⟨⟨a1, a2⟩, a3, ⟨a4, a5, a6, a7, a8⟩, a9, a10, a11, a12, a13, a14⟩ := h2 r hr
  have tR : xt σ (T 10 r) ≠ 0 := by rw [a2]; decide
  have xk : ∀ {f b : Nat}, f ∈ [160, 162, 165, 169, 170, 171, 34, 35] → xt σ b ≠ 0 → xi τ f b = xi σ f b := fun {f b} hf hb => F.2.1 f b (fun q => hW f q hf) (by intro e; rw [e] at hf; exact absurd hf (by decide)) (by intro e; rw [e] at hf; exact absurd hf (by decide)) hb
  have c1 := F.2.2.1 (T 21 r) a12 (xc r hr)
  refine ⟨⟨by rw [f2 r (by omega)]; exact a1, fg_tag F.1 a2 (by decide)⟩, by rw [xk (by decide) tR]; exact a3, ⟨by rw [xk (by decide) tR]; exact a4, by rw [xk (by decide) tR]; exact a5, by rw [xk (by decide) tR]; exact a6, by rw [xk (by decide) tR]; exact a7, by rw [xk (by decide) tR]; exact a8⟩, ?_, ?_, by rw [F.1.2.1 163 _ (by decide) tR]; exact a11, fg_tag F.1 a12 (by decide), by rw [c1]; exact a13, a14⟩
  · rw [F.1.2.1 161 _ (by decide) tR]
    exact a9
  · rw [F.1.2.1 172 _ (by decide) tR]
    rcases a10 with q | ⟨q1, q2, q3, q4, q5, q6, q7⟩
    · exact .inl q
    · have tB : xt σ (T 2 r) ≠ 0 := by rw [q3]; decide
      exact .inr ⟨q1, q2, fg_tag F.1 q3 (by decide), by rw [F.1.2.1 32 _ (by decide) tB]; exact q4, by rw [F.1.2.1 33 _ (by decide) tB]; exact q5, by rw [xk (by decide) tB]; exact q6, by rw [xk (by decide) tB]; exact q7⟩
theorem vq_newCell {c l p : Nat} {jm cr : Int32} {bw : Option Nat} {C H M : Nat → Nat} {Q : kx_S → Prop} (J : yJ_ s g κ B n τ) (hB : B + 2 ≤ 3000) (hn : n + 1 ≤ 200) (kl0 : κ l = 3) (I : rk4_ σ N (g 1) l p nr c jm cr bw C H M τ) (hc : c < 12) (hcr : cr.toInt ≤ 20) (kk : ∀ κ' C' H' M' u, yJ_ s g κ' (B + 1 + 1) (n + 1) u → κ' l = 3 → rk4_ σ N (g 1) l p nr (c + 1) jm cr bw C' H' M' u → Q u) : ∀ p13, xt τ p13 = 0 → p13 ≠ xz τ → ∀ σ16, σ16 = xnew τ p13 3 → vX1_init p13 cr σ16 (fun σ18 => xt σ18 l = 1 → vJx4a65c_add_9ea2d l p13 σ18 (fun r20 σ19 => Q σ19)) := by
  obtain ⟨F0, ⟨tp, r163, tl, sl⟩, ⟨p160, p162, pz, p161, p172⟩, ⟨M1, M2⟩, CC⟩ := I
  intro q hq hqz τ1 e1
  have q0 : q ≠ g 0 := fun e => by have := yg0 J; rw [← e, hq] at this; omega
  have ql : l ≠ q := fun e => by rw [e, hq] at tl; omega
  have qp : p ≠ q := fun e => by rw [e, hq] at tp; omega
  have I1 : yI_ s (fun a => False ∨ a = q) g κ (B + 1) n τ1 := by rw [e1]; exact yI_new J hq hqz (by decide)
  have F1 : hx_ (fun x => x = l ∨ x = g 1) [] σ τ1 := by rw [e1]; exact hx_new F0 hq
  have tq1 : xt τ1 q = 3 := by rw [e1]; exact va_up_self _ _ _
  have i1 : ∀ f a, a ≠ q → xi τ1 f a = xi τ f a := fun f a ha => by rw [e1]; exact va_up_ne _ _ ha
  have r1 : ∀ f a, a ≠ q → xr τ1 f a = xr τ f a := fun f a ha => by rw [e1]; exact va_up_ne _ _ ha
  have t1 : ∀ a, a ≠ q → xt τ1 a = xt τ a := fun a ha => by rw [e1]; exact va_up_ne _ _ ha
  have x1 : ∀ a i, a ≠ q → xe τ1 a i = xe τ a i := fun a i ha => by rw [e1]; exact xe_new ha
  have z1 : ∀ f, xi τ1 f q = 0 := fun f => by rw [e1]; exact va_up_self _ _ _
  have hq0 := hx_0 F0 hq
  clear e1
  unfold vX1_init
  intro _ τ2 e2 _ u hu huz
  have I2 : yI_ s (fun a => False ∨ a = q) g κ (B + 1) n τ2 := by rw [e2]; exact yI_48 hcr I1
  have F2 : hx_ (fun x => x = l ∨ x = g 1) [] σ τ2 := by rw [e2]; exact hx_siP F1 hq0
  have tq2 : xt τ2 q = 3 := by rw [e2]; exact tq1
  have i2 : ∀ f a, a ≠ q → xi τ2 f a = xi τ f a := fun f a ha => by
    rw [e2, ← i1 f a ha]
    exact xup_ne τ1.2.1 ha
  have r2 : ∀ f a, a ≠ q → xr τ2 f a = xr τ f a := fun f a ha => by rw [e2]; exact r1 f a ha
  have t2 : ∀ a, a ≠ q → xt τ2 a = xt τ a := fun a ha => by rw [e2]; exact t1 a ha
  have x2 : ∀ a i, a ≠ q → xe τ2 a i = xe τ a i := fun a i ha => by rw [e2]; exact x1 a i ha
  have q48 : xi τ2 48 q = cr := by rw [e2]; exact va_up_self _ _ _
  have q50 : xi τ2 50 q = 0 := by rw [e2]; exact z1 50
  have q51 : xi τ2 51 q = 0 := by rw [e2]; exact z1 51
  clear e2
  have u2 : u ≠ g 2 := fun e => by have := (yg2 I2).2.1; rw [← e, hu] at this; omega
  have hu0 := hx_0 F2 hu
  have uq : q ≠ u := fun e => by rw [e, hu] at tq2; omega
  have ul : l ≠ u := fun e => by have := t2 l ql; rw [tl, e, hu] at this; omega
  have up : p ≠ u := fun e => by have := t2 p qp; rw [tp, e, hu] at this; omega
  have old : ∀ x, xt τ x ≠ 0 → x ≠ q ∧ x ≠ u := fun x hx => by
    have c1 : x ≠ q := fun e => hx (by rw [e]; exact hq)
    exact ⟨c1, fun e => hx (by rw [← t2 x c1, e]; exact hu)⟩
  refine vq_newL F2 hu (fun τ3 e3 F3 tu3 su3 t3 i3 r3 x3 _ τ4 e4 _ => ?_)
  have I3 := (yI_newL (t := 8) I2 hu (.inr (.inr (.inr (.inl rfl)))) e3).1
  clear e3
  have I4 : yI_ s (fun a => False ∨ a = q) g (va_up κ u 8) (B + 1 + 1) (n + 1) τ4 := by rw [e4]; exact yI_srE I3 (.inr rfl) (by decide) (by decide) q0
  have F4 : hx_ (fun x => x = l ∨ x = g 1) [] σ τ4 := by rw [e4]; exact hx_srP F3 hq0
  have tq4 : xt τ4 q = 3 := by rw [e4]; exact (t3 q uq).trans tq2
  have tu4 : xt τ4 u = 1 := by rw [e4]; exact tu3
  have su4 : xi τ4 18 u = 0 := by rw [e4]; exact su3
  have r4 : xr τ4 49 q = some u := by rw [e4]; exact va_up_self _ _ _
  have k4i : ∀ f x, xt τ x ≠ 0 → xi τ4 f x = xi τ f x := fun f x hx => by
    rw [e4]
    exact (i3 f x (old x hx).2).trans (i2 f x (old x hx).1)
  have k4r : ∀ f x, xt τ x ≠ 0 → xr τ4 f x = xr τ f x := fun f x hx => by
    rw [e4]
    refine Eq.trans ?_ ((r3 f x (old x hx).2).trans (r2 f x (old x hx).1))
    exact xup_ne τ3.2.2.1 (old x hx).1
  have k4t : ∀ x, xt τ x ≠ 0 → xt τ4 x = xt τ x := fun x hx => by
    rw [e4]
    exact (t3 x (old x hx).2).trans (t2 x (old x hx).1)
  have k4x : ∀ i, xe τ4 l i = xe τ l i := fun i => by
    rw [e4]
    exact (x3 l i ul).trans (x2 l i ql)
  have q4 : ∀ f, xi τ4 f q = xi τ2 f q := fun f => by rw [e4]; exact i3 f q uq
  clear e4 i1 r1 t1 x1 z1 F1 I1 I3 F3 t3 i3 r3 x3
  have J4 : yJ_ s g (va_up κ u 8) (B + 1 + 1) (n + 1) τ4 := ⟨I4.1, yP_add I4.2.1 tq4 (fun x => absurd x (by decide)) (fun _ => ⟨u, r4, tu4, va_up_self _ _ _, u2⟩) (fun x => absurd x (by decide)) (fun x => absurd x (by decide)) (fun x => absurd x (by decide)) (.inr (.inl rfl)), I4.2.2⟩
  clear I4
  have hl0 : xt τ l ≠ 0 := by rw [tl]; decide
  have hp0 : xt τ p ≠ 0 := by rw [tp]; decide
  have tl4 : xt τ4 l = 1 := (k4t l hl0).trans tl
  have kl : va_up κ u 8 l = 3 := by rw [va_up_ne _ _ ul]; exact kl0
  have s4 : (xi τ4 18 l).toInt = (c : Int) := by rw [k4i 18 l hl0]; exact sl
  have bl : (xi τ4 18 l).toInt < (ylb g l : Int) := by
    have : ylb g l ≥ 100 := by unfold ylb; split <;> omega
    omega
  refine jaJx4a65c_add_9ea2d (Q := fun _ u' => (yJ_ s g (va_up κ u 8) (B + 1 + 1) (n + 1) u' ∧ ya_ l q τ4 u') ∧ ∀ b, xt τ4 b ≠ 0 → xt u' b = xt τ4 b ∧ xai u' b = xai τ4 b) (fun _ w hh => ?_) _ _ _ (jcJx4a65c_add_9ea2d (Q := fun _ u' => yJ_ s g (va_up κ u 8) (B + 1 + 1) (n + 1) u' ∧ ya_ l q τ4 u') (Q' := fun _ u' => ∀ b, xt τ4 b ≠ 0 → xt u' b = xt τ4 b ∧ xai u' b = xai τ4 b) (fun _ _ x y => ⟨x, y⟩) _ _ _ (ry_add J4.1 (by omega) hn tl4 (by rw [tq4, kl]) bl (fun τ5 L5 A5 => ?_)) vy_xai)
  · obtain ⟨⟨J5, A5⟩, X5⟩ := hh
    have F5 : hx_ (fun x => x = l ∨ x = g 1) [] σ w := hx_ya F4 A5 (.inl rfl) (by omega) (fun b hb => (X5 b hb).2)
    have w18 : ∀ x, x ≠ l → xi w 18 x = xi τ4 18 x := fun x hx => by rw [A5.2.2.2.1, va_up_ne _ _ hx]
    have wi : ∀ f x, f ≠ 16 → f ≠ 18 → xi w f x = xi τ4 f x := fun f x h1 h2 => by rw [A5.2.2.1 f h1 h2]
    have wr : ∀ f x, f ≠ 17 → xr w f x = xr τ4 f x := fun f x h1 => by rw [A5.2.2.2.2.1 f h1]
    have wt : ∀ x, xt τ4 x ≠ 0 → xt w x = xt τ4 x := fun x hx => A5.1.1 x hx
    have wtp : xt w p = 10 := (wt p (by rw [k4t p hp0]; exact hp0)).trans ((k4t p hp0).trans tp)
    refine kk (va_up κ u 8) (va_up C c q) (va_up H c u) (va_up (va_up M q (12 * nr + c)) u (12 * nr + c)) w J5 kl ⟨F5, ⟨wtp, ?_, ?_, ?_⟩, ⟨?_, ?_, fun f hf => ?_, ?_, ?_⟩, ⟨fun x hx => ?_, ?_⟩, fun j hj => ?_⟩
    · rw [wr 163 p (by decide), k4r 163 p hp0]; exact r163
    · rw [wt l (by rw [tl4]; decide)]; exact tl4
    · rw [A5.2.2.2.1, va_up_self]
      exact ki_addN s4 ki_z1 (by omega)
    · rw [wi 160 p (by decide) (by decide), k4i 160 p hp0]; exact p160
    · rw [wi 162 p (by decide) (by decide), k4i 162 p hp0]; exact p162
    · rw [wi f p (by intro e; rw [e] at hf; exact absurd hf (by decide)) (by intro e; rw [e] at hf; exact absurd hf (by decide)), k4i f p hp0]
      exact pz f hf
    · rw [wr 161 p (by decide), k4r 161 p hp0]; exact p161
    · rw [wr 172 p (by decide), k4r 172 p hp0]; exact p172
    · rw [va_up_ne _ _ (fun e => hx (by rw [e]; exact hu0)), va_up_ne _ _ (fun e => hx (by rw [e]; exact hq0))]
      exact M1 x hx
    · rw [va_up_ne _ _ up, va_up_ne _ _ qp]
      exact M2
    · by_cases cj : j = c
      · rw [cj, va_up_self C, va_up_self H]
        have ex := A5.2.2.2.2.2.2.1
        rw [ki_toN s4] at ex
        refine ⟨⟨ex, (wt q (by rw [tq4]; decide)).trans tq4⟩, by rw [wi 48 q (by decide) (by decide), q4]; exact q48, by rw [wr 49 q (by decide)]; exact r4, ⟨by rw [wi 50 q (by decide) (by decide), q4]; exact q50, by rw [wi 51 q (by decide) (by decide), q4]; exact q51⟩, ⟨(wt u (by rw [tu4]; decide)).trans tu4, (w18 u (fun e => ul e.symm)).trans su4, fun e => ul e.symm, hu0⟩, ?_, va_up_self _ _ _⟩
        rw [va_up_ne _ _ uq]
        exact va_up_self _ _ _
      · rw [va_up_ne C _ cj, va_up_ne H _ cj]
        obtain ⟨⟨b1, b2⟩, b3, b4, ⟨b5, b6⟩, ⟨b7, b8, b9, b10⟩, b11, b12⟩ := CC j (by omega)
        have hC : xt τ (C j) ≠ 0 := by rw [b2]; decide
        have hH : xt τ (H j) ≠ 0 := by rw [b7]; decide
        have hC4 : xt τ4 (C j) ≠ 0 := by rw [k4t _ hC]; exact hC
        have hH4 : xt τ4 (H j) ≠ 0 := by rw [k4t _ hH]; exact hH
        refine ⟨⟨?_, (wt _ hC4).trans ((k4t _ hC).trans b2)⟩, by rw [wi 48 _ (by decide) (by decide), k4i 48 _ hC]; exact b3, by rw [wr 49 _ (by decide), k4r 49 _ hC]; exact b4, ⟨by rw [wi 50 _ (by decide) (by decide), k4i 50 _ hC]; exact b5, by rw [wi 51 _ (by decide) (by decide), k4i 51 _ hC]; exact b6⟩, ⟨(wt _ hH4).trans ((k4t _ hH).trans b7), by rw [w18 _ b9, k4i 18 _ hH]; exact b8, b9, b10⟩, ?_, ?_⟩
        · rw [A5.2.2.2.2.2.1 l tl4 j (by omega), k4x]
          exact b1
        · rw [va_up_ne _ _ (old _ hC).2, va_up_ne _ _ (old _ hC).1]
          exact b11
        · rw [va_up_ne _ _ (old _ hH).2, va_up_ne _ _ (old _ hH).1]
          exact b12
  · refine ⟨?_, A5⟩
    have og : ∀ i, va_up κ u 8 (g i) ≠ 3 → xi τ5 18 (g i) = xi τ4 18 (g i) := fun i h => by
      rw [A5.2.2.2.1, va_up_ne _ _ (fun e => h (by rw [e]; exact kl))]
    have p2 := og 2 (by rw [(yg2 J4).2.2]; decide)
    have p3 := og 3 (by rw [(yg3 J4).2.2]; decide)
    have p4 := og 4 (by rw [(yg4 J4).2.2]; decide)
    have p5 := og 5 (by rw [(yg5 J4).2.2]; decide)
    have SS := J4.2.2.2.2.2.2.2
    have ids := yG_idx J4
    have S5 := yS_add J4 A5 (fun e => by have := (yg1 J4).2.2; rw [← e, kl] at this; cases this) (by rw [p3]; exact SS.2.1) (by rw [p4]; exact SS.2.2.1) (by rw [p5]; exact SS.2.2.2)
    have I5 := yI_tr2 J4 L5 A5 S5 (yK9_same J4 A5 (by rw [kl]; decide))
    rw [p2, p4, p5, ids.2.1, ids.2.2.1, ids.2.2.2.1] at I5
    exact I5
def tR_ (T : Nat → Nat → Nat) (nr p l : Nat) (C H : Nat → Nat) : Nat → Nat → Nat := fun j => if j = 10 then va_up (T 10) nr p else if j = 21 then va_up (T 21) nr l else if j = 3 then (fun k => if 12 * nr ≤ k ∧ k < 12 * nr + 12 then C (k - 12 * nr) else T 3 k) else if j = 1 then (fun k => if 12 * nr ≤ k ∧ k < 12 * nr + 12 then H (k - 12 * nr) else T 1 k) else T j
/-- a reach among the others -/
theorem vq_reachIn {c l p : Nat} {nx ln jm cr : Int32} {bw : Option Nat} {C H M : Nat → Nat} {Q : Int32 → kx_S → Prop} {κ' : Nat → Nat} {B' n' : Nat} (hB : B' ≤ 3000) (hn : n' ≤ 200) (n10 : nr < 10) (J : yJ_ s g κ B n σ) (J' : yJ_ s g κ' B' n' τ) (hs : s.1.1.toInt = (nr : Int)) (h : qE_ T N g st na nr nl m day RL no nc a σ) (n22 : n22_ T N nr a) (hlp : xt σ l = 0) (hln : ln.toInt = (c : Int)) (c12 : c ≤ 12) (c1 : 1 ≤ c) (hbw : (bw = none ∧ nx = -1) ∨ ∃ q : Nat, nx.toInt = (q : Int) ∧ q < nr ∧ bw = some (T 10 q)) (z18 : a.1 18 nr = 0 ∧ a.1 19 nr = 0) (z21 : a.1 21 nr = 0 ∧ a.1 22 nr = 0 ∧ a.1 23 nr = 0) (z33 : ∀ c, c < 12 → a.1 33 (12 * nr + c) = 0 ∧ a.1 34 (12 * nr + c) = 0) (z2 : ∀ c, c < 12 → a.2 (12 * nr + c) = []) (I : rk4_ σ N (g 1) l p nr c jm cr bw C H M τ) (kk : ∀ u v T' N', T' 20 = T 20 → n22_ T' N' (nr + 1) (fs_ (fs_ (fs_ (fs_ a 13 nr nx) 14 nr ln) 15 nr cr) 16 nr jm) → qE_ T' N' g st na (nr + 1) nl m day RL no nc (fs_ (fs_ (fs_ (fs_ a 13 nr nx) 14 nr ln) 15 nr cr) 16 nr jm) u → Q v u) : vX11_reach_148 Q (g 0) p τ := by
  obtain ⟨Q0, Q22⟩ := qE_q0 J h
  obtain ⟨h0, h1, h2, h3, h4, h7, hj, h6, hb, h5⟩ := h
  obtain ⟨F0, ⟨tp, r163, tl, sl⟩, ⟨p160, p162, pz, p161, p172⟩, ⟨M1, M2⟩, CC⟩ := I
  have ids := yG_idx J'
  have sg : (xi τ 18 (g 1)).toInt = (nr : Int) := by rw [ids.1]; exact hs
  have ne := yG_ne J'.2.2.1
  have G1 := yg1 J'
  unfold vX11_reach_148
  intro _ a2 e2 _
  obtain rfl := Option.some.inj (G1.1.symm.trans e2)
  refine jaJx4a65c_add_9ea2d (Q := fun _ u => ya_ (g 1) p τ u ∧ ∀ b, xt τ b ≠ 0 → xt u b = xt τ b ∧ xai u b = xai τ b) (fun _ u hh _ => ?_) _ _ _ (jcJx4a65c_add_9ea2d (Q := fun _ u => ya_ (g 1) p τ u) (Q' := fun _ u => ∀ b, xt τ b ≠ 0 → xt u b = xt τ b ∧ xai u b = xai τ b) (fun _ _ x y => ⟨x, y⟩) _ _ _ (ry_add J'.1 hB hn G1.2.1 (by rw [tp, G1.2.2]) (by unfold ylb; rw [if_neg ne.1]; omega) (fun _ _ A => A)) vy_xai)
  obtain ⟨A, XA⟩ := hh
  have F : hx_ (fun x => x = l ∨ x = g 1) [] σ u := hx_ya F0 A (.inr rfl) (by omega) (fun b hb => (XA b hb).2)
  have g1o : xt σ (g 1) = 1 := (yg1 J).2.1
  have lg : l ≠ g 1 := fun e => by rw [e, g1o] at hlp; omega
  have nX : ∀ x, xt σ x ≠ 0 → x ≠ g 1 → ¬ (x = l ∨ x = g 1) := fun x h1 h2 => by
    rintro (e | e)
    · exact h1 (by rw [e]; exact hlp)
    · exact h2 e
  have ne10 : ∀ x, κ x ≠ 10 → x ≠ g 1 := fun x hx e => hx (by rw [e]; exact (yg1 J).2.2)
  have nn : ∀ f ∈ ([] : List Nat), ∀ L : List Nat, f ∉ L := fun f hf => absurd hf (List.not_mem_nil)
  have t21 : ∀ r, r < nr → xt σ (T 21 r) = 1 := fun r hr => (h1.2 r hr).2.2.2.2.2.2.1
  have r1 := q1_hy h1 F g1o (fun r hr => nX _ (by rw [t21 r hr]; decide) (ne10 _ (by rw [(Q0.2.2.1 r hr).1]; decide))) (fun f hf => nn f hf _)
  have r2 := q2_hx h2 h1 F (fun f hf => nn f hf _)
  have r3 := q3_hx h3 F (fun k hk => nX _ (by rw [(h3 k hk).1]; decide) (ne10 _ (by rw [(Q0.1 k hk).1]; decide)))
  have r4 := q4_hx h4 F (yg2 J).2.1 (nX _ (by rw [(yg2 J).2.1]; decide) (ne10 _ (by rw [(yg2 J).2.2]; decide))) (fun f hf => nn f hf _)
  have r5 := q5_hx h5 F (yg4 J).2.1 (nX _ (by rw [(yg4 J).2.1]; decide) (ne10 _ (by rw [(yg4 J).2.2]; decide))) (List.not_mem_nil)
  have r6 := q6_hx h6 F (yg5 J).2.1 (nX _ (by rw [(yg5 J).2.1]; decide) (ne10 _ (by rw [(yg5 J).2.2]; decide))) (fun r hr hb => nX _ (by rw [(h6.2.2.2 r hr hb).1]; decide) (ne10 _ (by rw [(Q22 r hr hb).1]; decide))) (fun f hf => nn f hf _)
  have r7 := q7_hx h7 F (yg3 J).2.1 (nX _ (by rw [(yg3 J).2.1]; decide) (ne10 _ (by rw [(yg3 J).2.2]; decide))) (List.not_mem_nil)
  have rj := qj_hx hj F
  have rb : xi u 218 (g 0) = a.1 6 0 := by rw [F.2.1 218 _ (List.not_mem_nil) (by decide) (by decide) (by rw [yg0 J]; decide)]; exact hb
  have w18 : ∀ x, x ≠ g 1 → xi u 18 x = xi τ 18 x := fun x hx => by rw [A.2.2.2.1, va_up_ne _ _ hx]
  have wi : ∀ f x, f ≠ 16 → f ≠ 18 → xi u f x = xi τ f x := fun f x h1 h2 => by rw [A.2.2.1 f h1 h2]
  have wr : ∀ f x, f ≠ 17 → xr u f x = xr τ f x := fun f x h1 => by rw [A.2.2.2.2.1 f h1]
  have wt : ∀ x, xt τ x ≠ 0 → xt u x = xt τ x := fun x hx => A.1.1 x hx
  have eln : ln.toNatClampNeg = c := ki_toN hln
  have lnS : ln_ (fs_ (fs_ (fs_ (fs_ a 13 nr nx) 14 nr ln) 15 nr cr) 16 nr jm) nr = c := by
    show (upd (a.1 14) nr ln nr).toNatClampNeg = c
    rw [w_updS]
    exact eln
  have lnN : ∀ r, r ≠ nr → ln_ (fs_ (fs_ (fs_ (fs_ a 13 nr nx) 14 nr ln) 15 nr cr) 16 nr jm) r = ln_ a r := fun r hr => by
    show (upd (a.1 14) nr ln r).toNatClampNeg = _
    rw [w_updN hr]
    rfl
  have l12 : ∀ r, r < nr → ln_ a r ≤ 12 := fun r hr => (h1.2 r hr).2.2.2.2.2.2.2.2.1
  have eo : ∀ r, od_ (fs_ (fs_ (fs_ (fs_ a 13 nr nx) 14 nr ln) 15 nr cr) 16 nr jm) r no 0 = od_ a r no 0 := fun r => od_qm (a := a) (b := fs_ (fs_ (fs_ (fs_ a 13 nr nx) 14 nr ln) 15 nr cr) 16 nr jm) rfl no 0
  have T10n : ∀ r, r ≠ nr → tR_ T nr p l C H 10 r = T 10 r := fun r hr => va_up_ne _ _ hr
  have T10s : tR_ T nr p l C H 10 nr = p := va_up_self _ _ _
  have T21n : ∀ r, r ≠ nr → tR_ T nr p l C H 21 r = T 21 r := fun r hr => va_up_ne _ _ hr
  have T21s : tR_ T nr p l C H 21 nr = l := va_up_self _ _ _
  have T3n : ∀ k, ¬ (12 * nr ≤ k ∧ k < 12 * nr + 12) → tR_ T nr p l C H 3 k = T 3 k := fun k hk => if_neg hk
  have T3s : ∀ j, j < 12 → tR_ T nr p l C H 3 (12 * nr + j) = C j := fun j hj => by
    refine (if_pos ⟨by omega, by omega⟩ : tR_ T nr p l C H 3 (12 * nr + j) = C (12 * nr + j - 12 * nr)).trans ?_
    rw [Nat.add_sub_cancel_left]
  have T1n : ∀ k, ¬ (12 * nr ≤ k ∧ k < 12 * nr + 12) → tR_ T nr p l C H 1 k = T 1 k := fun k hk => if_neg hk
  have T1s : ∀ j, j < 12 → tR_ T nr p l C H 1 (12 * nr + j) = H j := fun j hj => by
    refine (if_pos ⟨by omega, by omega⟩ : tR_ T nr p l C H 1 (12 * nr + j) = H (12 * nr + j - 12 * nr)).trans ?_
    rw [Nat.add_sub_cancel_left]
  have vkc : ∀ k, vk_ (nr + 1) (fs_ (fs_ (fs_ (fs_ a 13 nr nx) 14 nr ln) 15 nr cr) 16 nr jm) k → (∃ j, j < c ∧ k = 12 * nr + j) ∨ (vk_ nr a k ∧ ¬ (12 * nr ≤ k ∧ k < 12 * nr + 12)) := by
    intro k hk
    rcases hk with ⟨r, d, x1, x2, x3⟩ | ⟨r, x1, x2, x3⟩
    · by_cases e : r = nr
      · rw [e, lnS] at x2
        exact .inl ⟨d, x2, by rw [x3, e]⟩
      · rw [lnN r e] at x2
        have := l12 r (by omega)
        exact .inr ⟨.inl ⟨r, d, by omega, x2, x3⟩, by omega⟩
    · by_cases e : r = nr
      · have x2 : ¬ a.1 22 r = 0 := x2
        rw [e] at x2
        exact absurd z21.2.1 x2
      · exact .inr ⟨.inr ⟨r, by omega, x2, x3⟩, by omega⟩
  have e22 : ∀ r, r < nr + 1 → ¬ a.1 22 r = 0 → r < nr := fun r hr hz => by
    have : r ≠ nr := fun e => hz (by rw [e]; exact z21.2.1)
    omega
  refine kk u _ (tR_ T nr p l C H) M rfl ?_ ⟨⟨?_, ?_, ?_, ?_⟩, ⟨?_, fun r hr => ?_⟩, ?_, ?_, r4, r7, rj, ⟨r6.1, r6.2.1, fun o ho => ?_, fun r hr hz => ?_⟩, rb, ?_⟩
  · intro r hr hz
    have hz : ¬ a.1 22 r = 0 := hz
    have hr' := e22 r hr hz
    show M (T 22 r) = r
    rw [M1 _ (by rw [(h6.2.2.2 r hr' hz).1]; decide)]
    exact n22 r hr' hz
  · intro k hk
    rcases vkc k hk with ⟨j, hj1, e⟩ | ⟨hk', hk2⟩
    · rw [e, T1s j (by omega)]
      exact (CC j hj1).2.2.2.2.2.2
    · rw [T1n k hk2, M1 _ (by rw [(h3 k hk').1]; decide)]
      exact h0.1 k hk'
  · intro r d hr hd
    by_cases e : r = nr
    · rw [e, lnS] at hd
      rw [e, T3s d (by omega)]
      exact (CC d hd).2.2.2.2.2.1
    · rw [lnN r e] at hd
      have hr' : r < nr := by omega
      have := l12 r hr'
      rw [T3n _ (by omega), M1 _ (by rw [((h2 r hr' d hd).1).2]; decide)]
      exact h0.2.1 r d hr' hd
  · intro r hr
    by_cases e : r = nr
    · rw [e, T10s]
      exact M2
    · have hr' : r < nr := by omega
      rw [T10n r e, M1 _ (by rw [((h1.2 r hr').1).2]; decide)]
      exact h0.2.2.1 r hr'
  · intro j hj'
    show M (T 8 j) = j
    rw [M1 _ (by rw [((h4.2 j hj').1).2]; decide)]
    exact h0.2.2.2 j hj'
  · rw [A.2.2.2.1, va_up_self]
    exact ki_addN sg ki_z1 (by omega)
  · show q1b_ (tR_ T nr p l C H) (g 1) r (fs_ (fs_ (fs_ (fs_ a 13 nr nx) 14 nr ln) 15 nr cr) 16 nr jm) u
    unfold q1b_
    by_cases e : r = nr
    · subst e
      have ex := A.2.2.2.2.2.2.1
      rw [ki_toN sg] at ex
      rw [T10s, T21s, lnS]
      refine ⟨⟨ex, (wt p (by rw [tp]; decide)).trans tp⟩, by rw [wi 160 p (by decide) (by decide)]; exact p160, ⟨?_, ?_, ?_, ?_, ?_⟩, ?_, .inl ⟨by rw [wr 172 p (by decide)]; exact p172, z21.2.1⟩, by rw [wr 163 p (by decide)]; exact r163, (wt l (by rw [tl]; decide)).trans tl, by rw [w18 l lg]; exact sl, c12, c1⟩
      · rw [wi 162 p (by decide) (by decide), p162]
        exact w_updS.symm
      · rw [wi 165 p (by decide) (by decide), pz 165 (by decide)]
        exact z21.1.symm
      · rw [wi 169 p (by decide) (by decide), pz 169 (by decide)]
        exact z18.1.symm
      · rw [wi 170 p (by decide) (by decide), pz 170 (by decide)]
        exact z18.2.symm
      · rw [wi 171 p (by decide) (by decide), pz 171 (by decide)]
        exact z21.2.2.symm
      · have e13 : (fs_ (fs_ (fs_ (fs_ a 13 r nx) 14 r ln) 15 r cr) 16 r jm).1 13 r = nx := w_updS
        rw [e13, wr 161 p (by decide), p161]
        rcases hbw with ⟨y1, y2⟩ | ⟨q, y1, y2, y3⟩
        · exact .inl ⟨y1, y2⟩
        · exact .inr ⟨q, y1, y2, by rw [y3, T10n q (by omega)]⟩
    · have hr' : r < nr := by omega
      have R := r1 r hr'
      unfold q1b_ at R
      obtain ⟨b1, b2, ⟨b3, b4⟩, b5, b6, b7, b8, b9⟩ := R
      rw [T10n r e, T21n r e, lnN r e]
      refine ⟨b1, b2, ⟨b3.trans (w_updN e).symm, b4⟩, ?_, ?_, b7, b8, b9⟩
      · have e13 : (fs_ (fs_ (fs_ (fs_ a 13 nr nx) 14 nr ln) 15 nr cr) 16 nr jm).1 13 r = a.1 13 r := w_updN e
        rw [e13]
        rcases b5 with y | ⟨q, y1, y2, y3⟩
        · exact .inl y
        · exact .inr ⟨q, y1, y2, by rw [T10n q (by omega)]; exact y3⟩
      · rw [T1n (120 + r) (by omega)]
        exact b6
  · intro r hr d hd
    by_cases e : r = nr
    · subst e
      rw [lnS] at hd
      obtain ⟨⟨b1, b2⟩, b3, b4, ⟨b5, b6⟩, ⟨b7, b8, b9, b10⟩, b11, b12⟩ := CC d hd
      have z := z33 d (by omega)
      rw [T21s, T3s d (by omega), T1s d (by omega)]
      refine ⟨⟨?_, (wt _ (by rw [b2]; decide)).trans b2⟩, ?_, by rw [wr 49 _ (by decide)]; exact b4, by rw [wi 50 _ (by decide) (by decide), b5]; exact z.1.symm, by rw [wi 51 _ (by decide) (by decide), b6]; exact z.2.symm⟩
      · rw [A.2.2.2.2.2.1 l tl d (by omega)]
        exact b1
      · rw [wi 48 _ (by decide) (by decide), b3]
        exact w_updS.symm
    · have hr' : r < nr := by omega
      rw [lnN r e] at hd
      have := l12 r hr'
      obtain ⟨b1, b2, b3⟩ := r2 r hr' d hd
      rw [T21n r e, T3n _ (by omega), T1n _ (by omega)]
      exact ⟨b1, b2.trans (w_updN e).symm, b3⟩
  · intro k hk
    rcases vkc k hk with ⟨j, hj1, e⟩ | ⟨hk', hk2⟩
    · subst e
      obtain ⟨_, _, _, _, ⟨b7, b8, b9, b10⟩, _, _⟩ := CC j hj1
      have ea : (fs_ (fs_ (fs_ (fs_ a 13 nr nx) 14 nr ln) 15 nr cr) 16 nr jm).2 (12 * nr + j) = [] := z2 j (by omega)
      rw [T1s j (by omega), ea]
      refine ⟨(wt _ (by rw [b7]; decide)).trans b7, ?_, fun i x hx => ?_⟩
      · rw [w18 _ (fun e => by rw [e, g1o] at b10; omega), b8]
        rfl
      · rw [List.getElem?_nil] at hx
        cases hx
    · rw [T1n k hk2]
      exact r3 k hk'
  · obtain ⟨b1, b3, b4, b5, b6, r, b7, b8⟩ := r6.2.2.1 o ho
    refine ⟨b1, b3, b4, b5, ?_, r, by omega, b8⟩
    show M (T 9 o) = o
    rw [M1 _ (by rw [((h6.2.2.1 o ho).1).2]; decide)]
    exact b6
  · rw [eo]
    have hz : ¬ a.1 22 r = 0 := hz
    exact r6.2.2.2 r (e22 r hr hz) hz
  · obtain ⟨o1, o2, o3⟩ := r5
    refine ⟨o1, o2, fun k hk => ?_⟩
    obtain ⟨b1, ⟨r, b2, b3, b4⟩, b5, b6⟩ := o3 k hk
    refine ⟨b1, ⟨r, by omega, b3, ?_⟩, b5, ?_⟩
    · rw [T10n r (by omega)]
      exact b4
    · show M (T 4 k) = k
      rw [M1 _ (by rw [((h5.2.2 k hk).1).2]; decide)]
      exact b6
theorem vq_reach90 {c : Nat} {nx ln jm cr : Int32} {bw : Option Nat} {Q : Int32 → kx_S → Prop} (hB3 : B ≤ 2100) (hn2 : n ≤ 155) (n10 : nr < 10) (J : yJ_ s g κ B n σ) (hs : s.1.1.toInt = (nr : Int)) (h : qE_ T N g st na nr nl m day RL no nc a σ) (n22 : n22_ T N nr a) (hln : ln.toInt = (c : Int)) (c12 : c ≤ 12) (c1 : 1 ≤ c) (hcr : cr.toInt ≤ 20) (hbw : (bw = none ∧ nx = -1) ∨ ∃ q : Nat, nx.toInt = (q : Int) ∧ q < nr ∧ bw = some (T 10 q)) (z18 : a.1 18 nr = 0 ∧ a.1 19 nr = 0) (z21 : a.1 21 nr = 0 ∧ a.1 22 nr = 0 ∧ a.1 23 nr = 0) (z33 : ∀ c, c < 12 → a.1 33 (12 * nr + c) = 0 ∧ a.1 34 (12 * nr + c) = 0) (z2 : ∀ c, c < 12 → a.2 (12 * nr + c) = []) (kk : ∀ u v T' N', T' 20 = T 20 → n22_ T' N' (nr + 1) (fs_ (fs_ (fs_ (fs_ a 13 nr nx) 14 nr ln) 15 nr cr) 16 nr jm) → qE_ T' N' g st na (nr + 1) nl m day RL no nc (fs_ (fs_ (fs_ (fs_ a 13 nr nx) 14 nr ln) 15 nr cr) 16 nr jm) u → Q v u) : vX11_reach_90 Q (g 0) ln cr jm bw σ := by
  have h1 := h.2.1
  unfold vX11_reach_90
  intro _ p hp hpz τ1 e1
  have p0 : p ≠ g 0 := fun e => by have := yg0 J; rw [← e, hp] at this; omega
  have p1 : g 1 ≠ p := fun e => by have := (yg1 J).2.1; rw [e, hp] at this; omega
  have I1 : yI_ s (fun a => False ∨ a = p) g κ (B + 1) n τ1 := by rw [e1]; exact yI_new J hp hpz (by decide)
  have F1 : hx_ (fun _ => False) [] σ τ1 := by rw [e1]; exact hx_new hx_refl hp
  have tp1 : xt τ1 p = 10 := by rw [e1]; exact va_up_self _ _ _
  have i1 : ∀ f, xi τ1 f p = 0 := fun f => by rw [e1]; exact va_up_self _ _ _
  have r1 : ∀ f, xr τ1 f p = none := fun f => by rw [e1]; exact va_up_self _ _ _
  have np : ∀ r : Nat, (r : Int) < (xi τ1 18 (g 1)).toInt → xe τ1 (g 1) r ≠ some p := by
    intro r hr q
    rw [e1, xe_new p1] at q
    have hr2 : (r : Int) < (xi σ 18 (g 1)).toInt := by
      rw [e1] at hr
      have : xi (xnew σ p 10) 18 (g 1) = xi σ 18 (g 1) := va_up_ne _ _ p1
      rw [this] at hr
      exact hr
    obtain ⟨y, ey, ty⟩ := ry_el J.1 (yg1 J).2.1 hr2
    rw [q] at ey
    rw [← Option.some.inj ey, hp, (yg1 J).2.2] at ty
    cases ty
  clear e1
  have ids1 := yG_idx I1
  intro _ a30 e30 _
  obtain rfl := Option.some.inj ((yg1 I1).1.symm.trans e30)
  unfold vJx4a65c_size_8abf5
  intro _
  rw [ids1.1]
  unfold vX8_init
  intro _ τ2 e2 τ4 e4 τ6 e6 _ u hu huz
  have I6 : yI_ s (fun a => False ∨ a = p) g κ (B + 1) n τ6 := by
    rw [e6, e4, e2]
    exact yI_si (by decide) (yI_srE (yI_160 I1 np) (.inr rfl) (by decide) (by decide) p0)
  have F6 : hx_ (fun _ => False) [] σ τ6 := by rw [e6, e4, e2]; exact hx_siP (hx_srP (hx_siP F1 hp) hp) hp
  have tp6 : xt τ6 p = 10 := by rw [e6, e4, e2]; exact tp1
  have a160 : xi τ6 160 p = s.1.1 := by rw [e6, e4, e2]; exact va_up_self _ _ _
  have a162 : xi τ6 162 p = jm := by rw [e6]; exact va_up_self _ _ _
  have az : ∀ f, f ∈ [165, 169, 170, 171] → xi τ6 f p = 0 := fun f hf => by
    rw [e6, e4, e2]
    simp at hf
    rcases hf with e | e | e | e <;> (rw [e]; exact i1 _)
  have r161 : xr τ6 161 p = bw := by rw [e6, e4, e2]; exact va_up_self _ _ _
  have r172 : xr τ6 172 p = none := by rw [e6, e4, e2]; exact r1 172
  clear e6 e4 e2 i1 r1 np I1 ids1
  have up : p ≠ u := fun e => by rw [e, hu] at tp6; omega
  have hu0 := hx_0 F6 hu
  refine vq_newL F6 hu (fun τ7 e7 F7 tu7 su7 t7 i7 r7 x7 _ τ8 e8 => ?_)
  have I7 := (yI_newL (t := 3) I6 hu (.inl rfl) e7).1
  clear e7
  have I8 : yI_ s (fun a => False ∨ a = p) g (va_up κ u 3) (B + 1 + 1) (n + 1) τ8 := by rw [e8]; exact yI_srE I7 (.inr rfl) (by decide) (by decide) p0
  have F8 : hx_ (fun _ => False) [] σ τ8 := by rw [e8]; exact hx_srP F7 hp
  have tp8 : xt τ8 p = 10 := by rw [e8]; exact (t7 p up).trans tp6
  have tu8 : xt τ8 u = 1 := by rw [e8]; exact tu7
  have r163 : xr τ8 163 p = some u := by rw [e8]; exact va_up_self _ _ _
  have r161' : xr τ8 161 p = bw := by rw [e8]; exact (r7 161 p up).trans r161
  have r172' : xr τ8 172 p = none := by rw [e8]; exact (r7 172 p up).trans r172
  have su8 : xi τ8 18 u = 0 := by rw [e8]; exact su7
  have i8 : ∀ f, xi τ8 f p = xi τ6 f p := fun f => by rw [e8]; exact i7 f p up
  clear e8 t7 i7 r7 x7 F7 I7
  have hbw8 : xr τ8 161 p = none ∨ ∃ h, xr τ8 161 p = some h ∧ xt τ8 h = 10 := by
    rw [r161']
    rcases hbw with y | ⟨q, y1, y2, y3⟩
    · exact .inl y.1
    · exact .inr ⟨T 10 q, y3, fg_tag F8.1 ((h1.2 q y2).1).2 (by decide)⟩
  have J8 : yJ_ s g (va_up κ u 3) (B + 1 + 1) (n + 1) τ8 := ⟨I8.1, yP_add I8.2.1 tp8 (fun x => absurd x (by decide)) (fun x => absurd x (by decide)) (fun x => absurd x (by decide)) (fun x => absurd x (by decide)) (fun _ => ⟨hbw8, ⟨u, r163, tu8, va_up_self _ _ _⟩, .inl r172'⟩) (by decide), I8.2.2⟩
  clear I8
  have Y8 : rk4_ σ N (g 1) u p nr 0 jm cr bw (fun _ => 0) (fun _ => 0) (va_up N p nr) τ8 := ⟨hx_mono F8 (fun _ x => x.elim), ⟨tp8, r163, tu8, by rw [su8]; rfl⟩, ⟨by rw [i8, a160]; exact hs, (i8 162).trans a162, fun f hf => (i8 f).trans (az f hf), r161', r172'⟩, ⟨fun x hx => N_new hp hx, va_up_self _ _ _⟩, fun j hj => absurd hj (Nat.not_lt_zero j)⟩
  have Lp : ∀ (f d : Nat) (i : Int32) (κ' : Nat → Nat) (B' n' : Nat) (C H M : Nat → Nat) (τ : kx_S), i.toInt = (d : Int) → d ≤ c → yJ_ s g κ' B' n' τ → κ' u = 3 → rk4_ σ N (g 1) u p nr d jm cr bw C H M τ → B' = B + 2 + 2 * d → n' = n + 1 + d → vX11_reach_117 (vX11_reach_148 Q) Q f (g 0) ln cr p i τ := by
    intro f
    induction f with
    | zero => intro d i κ' B' n' C H M τ _ _ _ _ _ _ _; exact True.intro
    | succ f ih =>
      intro d i κ' B' n' C H M τ hi hd J' kl Y' eB en
      refine ⟨fun q => ?_, fun q _ a10 e10 _ => ?_⟩
      · rw [ki_le] at q
        have ed : d = c := by omega
        subst ed
        exact vq_reachIn (by omega) (by omega) n10 J J' hs h n22 hu0 hln c12 c1 hbw z18 z21 z33 z2 Y' kk
      · rw [ki_le] at q
        obtain rfl := Option.some.inj (Y'.2.1.2.1.symm.trans e10)
        refine vq_newCell J' (by omega) (by omega) kl Y' (by omega) hcr (fun κ2 C2 H2 M2 τ2 J2 kl2 Y2 w ew => ?_)
        exact ih (d + 1) w κ2 (B' + 1 + 1) (n' + 1) C2 H2 M2 τ2 (by rw [ew]; exact ki_addN hi ki_z1 (by omega)) (by omega) J2 kl2 Y2 (by omega) (by omega)
  exact fun j => Lp j 0 0 _ _ _ _ _ _ τ8 ki_z0 (Nat.zero_le _) J8 (va_up_self _ _ _) Y8 (by omega) (by omega)
theorem vq_reach {nx ln cr jm : Int32} (hB3 : B ≤ 2100) (hn2 : n ≤ 155) (h10 : nr ≤ 10) (J : yJ_ s g κ B n σ) (hs : s.1.1.toInt = (nr : Int)) (A : ao_ nr nl a) (Z : zi_ nr nl a) (Z18 : ∀ r, nr ≤ r → a.1 18 r = 0 ∧ a.1 19 r = 0) (n22 : n22_ T N nr a) (h : qE_ T N g st na nr nl m day RL no nc a σ) : vX11_reach (g 0) nx ln cr jm σ (fun _ u => ∃ T' N', T' 20 = T 20 ∧ n22_ T' N' (if s.1.1 = 10 ∨ nx < -1 ∨ s.1.1 ≤ nx ∨ ln < 1 ∨ 12 < ln ∨ cr < 1 ∨ 20 < cr ∨ jm < 0 ∨ ¬ jm ≤ 1000 then nr else nr + 1) (ab_reach nx ln cr jm s a) ∧ qE_ T' N' g st na (if s.1.1 = 10 ∨ nx < -1 ∨ s.1.1 ≤ nx ∨ ln < 1 ∨ 12 < ln ∨ cr < 1 ∨ 20 < cr ∨ jm < 0 ∨ ¬ jm ≤ 1000 then nr else nr + 1) nl m day RL no nc (ab_reach nx ln cr jm s a) u) := by
  have H := h
  have h1 := h.2.1
  have ids := yG_idx J
  have z10 : (10 : Int32).toInt = 10 := by decide
  have z12 : (12 : Int32).toInt = 12 := by decide
  have z20 : (20 : Int32).toInt = 20 := by decide
  have z1000 : (1000 : Int32).toInt = 1000 := by decide
  have no_ : (s.1.1 = 10 ∨ nx < -1 ∨ s.1.1 ≤ nx ∨ ln < 1 ∨ 12 < ln ∨ cr < 1 ∨ 20 < cr ∨ jm < 0 ∨ ¬ jm ≤ 1000) → ∃ T' N', T' 20 = T 20 ∧ n22_ T' N' (if s.1.1 = 10 ∨ nx < -1 ∨ s.1.1 ≤ nx ∨ ln < 1 ∨ 12 < ln ∨ cr < 1 ∨ 20 < cr ∨ jm < 0 ∨ ¬ jm ≤ 1000 then nr else nr + 1) (ab_reach nx ln cr jm s a) ∧ qE_ T' N' g st na (if s.1.1 = 10 ∨ nx < -1 ∨ s.1.1 ≤ nx ∨ ln < 1 ∨ 12 < ln ∨ cr < 1 ∨ 20 < cr ∨ jm < 0 ∨ ¬ jm ≤ 1000 then nr else nr + 1) nl m day RL no nc (ab_reach nx ln cr jm s a) σ := fun c => ⟨T, N, by
    unfold ab_reach
    rw [if_pos c, if_pos c]
    exact ⟨rfl, n22, H⟩⟩
  have hp := ki_pred (x := xi σ 18 (g 1)) (n := nr) h1.1 (by omega)
  unfold vX11_reach
  intro _ a2 e2 _
  obtain rfl := Option.some.inj ((yg1 J).1.symm.trans e2)
  unfold vJx4a65c_size_8abf5
  intro _
  refine ⟨fun c => no_ (.inl ?_), fun c _ a45 e45 _ _ => ?_⟩
  · rw [ki_le, z10, h1.1] at c
    exact ki_eq.2 (by rw [z10, hs]; omega)
  rw [ki_le, z10, h1.1] at c
  refine vy_within (fun d => ⟨fun x => absurd rfl x, fun _ => no_ (.inr ?_)⟩) (fun c1 c2 => ⟨fun _ => ?_, fun x => absurd x (by decide)⟩)
  · obtain rfl := Option.some.inj ((yg1 J).1.symm.trans e45)
    rw [ki_zm, hp] at d
    rw [ki_lt, ki_zm, ki_le, hs]
    by_cases q : nx.toInt < -1
    · exact .inl q
    · exact .inr (.inl (by omega))
  obtain rfl := Option.some.inj ((yg1 J).1.symm.trans e45)
  rw [ki_zm] at c1
  rw [hp] at c2
  refine vy_within (fun d => ⟨fun _ => no_ (.inr (.inr (.inr ?_))), fun x => absurd rfl x⟩) (fun c3 c4 => ⟨fun x => absurd x (by decide), fun _ => ?_⟩)
  · rw [ki_z1, z12] at d
    rw [ki_lt (b := 1), ki_z1, ki_lt (b := ln), z12]
    by_cases q : ln.toInt < 1
    · exact .inl q
    · exact .inr (.inl (by omega))
  rw [ki_z1] at c3
  rw [z12] at c4
  refine vy_within (fun d => ⟨fun _ => no_ (.inr (.inr (.inr (.inr (.inr ?_))))), fun x => absurd rfl x⟩) (fun c5 c6 => ⟨fun x => absurd x (by decide), fun _ => ?_⟩)
  · rw [ki_z1, z20] at d
    rw [ki_lt (b := 1), ki_z1, ki_lt (b := cr), z20]
    by_cases q : cr.toInt < 1
    · exact .inl q
    · exact .inr (.inl (by omega))
  rw [ki_z1] at c5
  rw [z20] at c6
  refine vy_within (fun d => ⟨fun x => absurd rfl x, fun _ => no_ (.inr (.inr (.inr (.inr (.inr (.inr (.inr ?_)))))))⟩) (fun c7 c8 => ⟨fun _ => ?_, fun x => absurd x (by decide)⟩)
  · rw [ki_z0, z1000] at d
    rw [ki_lt, ki_z0, ki_le, z1000]
    by_cases q : jm.toInt < 0
    · exact .inl q
    · exact .inr (by omega)
  rw [ki_z0] at c7
  rw [z1000] at c8
  have ok : ¬ (s.1.1 = 10 ∨ nx < -1 ∨ s.1.1 ≤ nx ∨ ln < 1 ∨ 12 < ln ∨ cr < 1 ∨ 20 < cr ∨ jm < 0 ∨ ¬ jm ≤ 1000) := by
    intro q
    rw [ki_lt, ki_le, ki_lt, ki_lt, ki_lt, ki_lt, ki_lt, ki_le, ki_zm, ki_z1, z12, z20, ki_z0, z1000, hs] at q
    rcases q with q | q
    · have q' := congrArg Int32.toInt q
      rw [z10, hs] at q'
      omega
    · omega
  clear no_
  unfold ab_reach
  rw [if_neg ok, if_neg ok, ki_toN hs]
  obtain ⟨c0, hc0⟩ : ∃ k : Nat, ln.toInt = (k : Int) := ⟨ln.toInt.toNat, by omega⟩
  have z2 : ∀ c, c < 12 → a.2 (12 * nr + c) = [] := by
    intro d hd
    refine List.eq_nil_iff_forall_not_mem.2 (fun x hx => ?_)
    rcases (A.2.1 _ x hx).2 with ⟨r, d', y1, y2, y3⟩ | ⟨r, y1, y3⟩
    · have := (A.1 r y1).1
      omega
    · omega
  have z33 : ∀ c, c < 12 → a.1 33 (12 * nr + c) = 0 ∧ a.1 34 (12 * nr + c) = 0 := fun d hd => Z.2.2.1 nr d (by omega) hd (fun y => absurd y.1 (Nat.lt_irrefl _))
  have fin : ∀ bw, ((bw = none ∧ nx = -1) ∨ ∃ q : Nat, nx.toInt = (q : Int) ∧ q < nr ∧ bw = some (T 10 q)) → vX11_reach_90 (fun _ u => ∃ T' N', T' 20 = T 20 ∧ n22_ T' N' (nr + 1) (fs_ (fs_ (fs_ (fs_ a 13 nr nx) 14 nr ln) 15 nr cr) 16 nr jm) ∧ qE_ T' N' g st na (nr + 1) nl m day RL no nc (fs_ (fs_ (fs_ (fs_ a 13 nr nx) 14 nr ln) 15 nr cr) 16 nr jm) u) (g 0) ln cr jm bw σ := fun bw hbw => vq_reach90 hB3 hn2 (by omega) J hs H n22 hc0 (by omega) (by omega) c6 hbw (Z18 nr (Nat.le_refl _)) (Z.2.2.2 nr (Nat.le_refl _)) z33 z2 (fun u v T' N' e x y => ⟨T', N', e, x, y⟩)
  refine ⟨fun q => fin none (.inl ⟨rfl, ?_⟩), fun q _ a64 e64 _ => ?_⟩
  · rw [ki_lt, ki_z0] at q
    exact ki_eq.2 (by rw [ki_zm]; omega)
  · rw [ki_lt, ki_z0] at q
    obtain rfl := Option.some.inj ((yg1 J).1.symm.trans e64)
    obtain ⟨j, hj⟩ : ∃ k : Nat, nx.toInt = (k : Int) := ⟨nx.toInt.toNat, by omega⟩
    refine vy_get (fun _ _ => ?_)
    rw [ki_toN hj, ((h1.2 j (by omega)).1).1]
    intro a69 e69 _
    obtain rfl := Option.some.inj e69
    exact fin _ (.inr ⟨j, hj, by omega, rfl⟩)
end
end
section
/-! feed: bytes on the tape -/
def sh_ (j : Nat) : Int32 := match j with
  | 0 => 24
  | 1 => 16
  | 2 => 8
  | _ => 0
def bw_ (w : Int32) (j : Nat) : Int32 := (w >>> (sh_ j &&& 31)) &&& 255
def bt_ (a b c d e : Int32) (k : Nat) : Int32 := bw_ (if k < 4 then a else if k < 8 then b else if k < 12 then c else if k < 16 then d else e) (k % 4)
def tz_ (F : Nat → Int32) (L k : Nat) (bt : Nat → Int32) : Nat → Int32 := fun i => if L ≤ i ∧ i < L + k then bt (i - L) else F i
theorem tz_0 {F : Nat → Int32} {L : Nat} {bt : Nat → Int32} : tz_ F L 0 bt = F := by
  funext i
  exact if_neg (by omega)
theorem tz_s {F : Nat → Int32} {L k : Nat} {bt : Nat → Int32} : upd (tz_ F L k bt) (L + k) (bt k) = tz_ F L (k + 1) bt := by
  funext i
  by_cases c : i = L + k
  · rw [c, w_updS]
    unfold tz_
    rw [if_pos ⟨by omega, by omega⟩, Nat.add_sub_cancel_left]
  · rw [w_updN c]
    unfold tz_
    by_cases d : L ≤ i ∧ i < L + k
    · rw [if_pos d, if_pos ⟨d.1, by omega⟩]
    · rw [if_neg d, if_neg (by omega)]
theorem tz_byte {F : Nat → Int32} {L k : Nat} {a b c d e : Int32} (h : ∀ i, i < 500 → ¬ F i = -1) : ∀ i, i < 500 → ¬ tz_ F L k (bt_ a b c d e) i = -1 := by
  intro i hi
  unfold tz_
  split
  · exact b_255 _
  · exact h i hi
/-! the class -/
def nT_ (tp tb : Nat) (σ u : kx_S) : Prop := (∀ f x, f ≠ 177 → xi u f x = xi σ f x) ∧ u.1 = σ.1 ∧ u.2.2.1 = σ.2.2.1 ∧ xn u = xn σ ∧ (∀ x, x ≠ tb → xai u x = xai σ x) ∧ u.2.2.2.2.2.2.2.1 = σ.2.2.2.2.2.2.2.1 ∧ xz u = xz σ
def ap_ (tp tb L k : Nat) (bt : Nat → Int32) (σ u : kx_S) : Prop := nT_ tp tb σ u ∧ (xi u 177 tp).toInt = ((L + k : Nat) : Int) ∧ xai u tb = tz_ (xai σ tb) L k bt
section
variable {σ u : kx_S} {tp tb L k : Nat} {bt : Nat → Int32} {w l2 : Int32} {Q : kx_S → Prop}
theorem vq_ap1 {q j : Nat} (A : ap_ tp tb L k bt σ u) (hr : xr σ 176 tp = some tb) (hn : xn σ tb = 500) (hk : L + k < 500) (hl : ¬ l2 < 0) (hb : bt k = (w.toUInt32 >>> (l2.toUInt32 &&& Int32.toUInt32 31)).toInt32 &&& 255) (kk : ∀ u' v, v = l2 + (-8) → ap_ tp tb L (k + 1) bt σ u' → vX9_append_3 Q j tp w v u') : vX9_append_3 Q (j + 1) tp w l2 u := by
  obtain ⟨⟨n1, n2, n3, n4, n5, n6, n7⟩, a2, a3⟩ := A
  have hr' : xr u 176 tp = some tb := by show u.2.2.1 176 tp = _; rw [n3]; exact hr
  have hn' : xn u tb = 500 := by rw [n4]; exact hn
  have z5 : (nI 500).toInt = 500 := by decide
  refine ⟨fun c => absurd c hl, fun _ _ a3' e3 _ => ?_⟩
  obtain rfl := Option.some.inj (hr'.symm.trans e3)
  rw [hn']
  refine ⟨fun c => ?_, fun _ a7 e7 v9 e9 _ _ σ12 e12 σ16 e16 v20 e20 => ?_⟩
  · rw [ki_le, z5, a2] at c
    omega
  · obtain rfl := Option.some.inj (hr'.symm.trans e7)
    refine kk σ16 v20 e20 ?_
    rw [ki_toN a2, e9, ← hb] at e12
    rw [e16, e12]
    refine ⟨⟨fun f x hf => ?_, n2, n3, n4, fun x hx => ?_, n6, n7⟩, ?_, ?_⟩
    · refine Eq.trans ?_ (n1 f x hf)
      show (if f = 177 then _ else u.2.1 f) x = u.2.1 f x
      rw [if_neg hf]
    · refine Eq.trans ?_ (n5 x hx)
      exact va_up_ne _ _ hx
    · have e : xi (xsi (xsai u tb (L + k) (bt k)) 177 tp (xi (xsai u tb (L + k) (bt k)) 177 tp + 1)) 177 tp = xi u 177 tp + 1 := va_up_self _ _ _
      rw [e, show L + (k + 1) = L + k + 1 from rfl]
      exact ki_addN a2 ki_z1 (by omega)
    · have e : xai (xsi (xsai u tb (L + k) (bt k)) 177 tp (xi (xsai u tb (L + k) (bt k)) 177 tp + 1)) tb = upd (xai u tb) (L + k) (bt k) := va_up_self _ _ _
      rw [e, a3]
      exact tz_s
theorem vq_append (A : ap_ tp tb L k bt σ u) (hr : xr σ 176 tp = some tb) (hn : xn σ tb = 500) (hk : L + k + 4 ≤ 500) (hb : ∀ j, j < 4 → bt (k + j) = bw_ w j) (kk : ∀ u', ap_ tp tb L (k + 4) bt σ u' → Q u') : vX9_append tp w u Q := by
  have s1 : (24 : Int32) + (-8) = 16 := by decide
  have s2 : (16 : Int32) + (-8) = 8 := by decide
  have s3 : (8 : Int32) + (-8) = 0 := by decide
  have s4 : (0 : Int32) + (-8) = -8 := by decide
  intro j
  cases j with
  | zero => exact True.intro
  | succ j =>
    refine vq_ap1 (q := 0) A hr hn (by omega) (by decide) ((hb 0 (by decide)).trans (b_24 w)) (fun u1 v1 e1 A1 => ?_)
    rw [s1] at e1
    subst e1
    cases j with
    | zero => exact True.intro
    | succ j =>
      refine vq_ap1 (q := 0) A1 hr hn (by omega) (by decide) ((hb 1 (by decide)).trans (b_16 w)) (fun u2 v2 e2 A2 => ?_)
      rw [s2] at e2
      subst e2
      cases j with
      | zero => exact True.intro
      | succ j =>
        refine vq_ap1 (q := 0) A2 hr hn (by omega) (by decide) ((hb 2 (by decide)).trans (b_8 w)) (fun u3 v3 e3 A3 => ?_)
        rw [s3] at e3
        subst e3
        cases j with
        | zero => exact True.intro
        | succ j =>
          refine vq_ap1 (q := 0) A3 hr hn (by omega) (by decide) ((hb 3 (by decide)).trans (b_0 w)) (fun u4 v4 e4 A4 => ?_)
          rw [s4] at e4
          subst e4
          cases j with
          | zero => exact True.intro
          | succ j => exact ⟨fun _ => kk u4 A4, fun c => absurd (show (-8 : Int32) < 0 by decide) c⟩
end
/-- the tape, the reader, the fault -/
def fT_ (g : Nat → Nat) (T : Nat → Nat → Nat) (m st na tk ca tb : Nat) (F : Nat → Int32) (flt : Int32) (σ : kx_S) : Prop := (xr σ 112 (g 7) = some tk ∧ xr σ 113 (g 7) = some ca ∧ xr σ 192 tk = some (g 6) ∧ xr σ 176 (g 6) = some tb) ∧ (xt σ tk = 12 ∧ xt σ ca = 20 ∧ xt σ tb = 20 ∧ xn σ ca = 500 ∧ xn σ tb = 500) ∧ (tb ≠ ca ∧ tb ≠ st ∧ tb ≠ na ∧ ca ≠ st ∧ ca ≠ na) ∧ (∀ i, i < m → T 20 i ≠ tb ∧ T 20 i ≠ ca) ∧ (∀ i, i < 500 → xai σ tb i = F i) ∧ xi σ 219 (g 0) = flt
def ab_tape (a b c d e : Int32) (s : sz_T) (F : Nat → Int32) : Nat → Int32 := if s.1.2.2.2.2.1 + 20 ≤ 500 then tz_ F s.1.2.2.2.2.1.toNatClampNeg 20 (bt_ a b c d e) else F
section
variable {T : Nat → Nat → Nat} {N : Nat → Nat} {g κ : Nat → Nat} {st na nr nl nc no m tk ca tb : Nat} {day : Nat → Int32} {RL : Nat → List (Bool × List Int32)} {s : sz_T} {B n : Nat} {a b : ra_T} {σ τ : kx_S} {F : Nat → Int32} {flt : Int32}
theorem qE_same (h : qE_ T N g st na nr nl m day RL no nc a σ) (ki : ∀ f, f ∈ qE_W → ∀ x, xi τ f x = xi σ f x) (kr : ∀ f x, xr τ f x = xr σ f x) (kt : ∀ x, xt τ x = xt σ x) (ke : ∀ l i, xe τ l i = xe σ l i) (kn : ∀ x, xn τ x = xn σ x) (ka : ∀ i, i < m → ∀ j, xai τ (T 20 i) j = xai σ (T 20 i) j) : qE_ T N g st na nr nl m day RL no nc a τ := by
  obtain ⟨h0, h1, h2, h3, h4, h7, hj, h6, hb, h5⟩ := h
  refine ⟨h0, ?_, ?_, ?_, ?_, ?_, ?_, ?_, ?_, ?_⟩
  · unfold q1_ at h1 ⊢
    simp only [ke, kt, ki 18 (by decide), ki 160 (by decide), ki 162 (by decide), ki 165 (by decide), ki 169 (by decide), ki 170 (by decide), ki 171 (by decide), ki 34 (by decide), ki 35 (by decide), kr]
    exact h1
  · unfold q2_ at h2 ⊢
    simp only [ke, kt, ki 48 (by decide), ki 50 (by decide), ki 51 (by decide), kr]
    exact h2
  · unfold q3_ at h3 ⊢
    simp only [ke, kt, ki 18 (by decide)]
    exact h3
  · unfold q4_ at h4 ⊢
    simp only [ke, kt, ki 18 (by decide), ki 128 (by decide), ki 129 (by decide), ki 130 (by decide), ki 131 (by decide), ki 132 (by decide), ki 133 (by decide), ki 134 (by decide), ki 135 (by decide), ki 136 (by decide)]
    exact h4
  · obtain ⟨l1, l2, l3⟩ := h7
    refine ⟨by rw [ki 18 (by decide)]; exact l1, l2, fun i hi => ?_⟩
    obtain ⟨⟨a1, a2⟩, a3, ⟨⟨b1, b2, b3, b4⟩, b5⟩, a4, a5, a6⟩ := l3 i hi
    exact ⟨⟨by rw [ke]; exact a1, by rw [kt]; exact a2⟩, by rw [ki 96 (by decide)]; exact a3, ⟨⟨by rw [kr]; exact b1, by rw [kn]; exact b2, b3, fun j hj => by rw [ka i hi j]; exact b4 j hj⟩, by rw [kt]; exact b5⟩, a4, a5, a6⟩
  · unfold qj_ j0_ at hj ⊢
    simp only [kt, kn, kr]
    exact hj
  · unfold q6_ at h6 ⊢
    simp only [ke, kt, ki 18 (by decide), ki 144 (by decide), ki 145 (by decide), ki 146 (by decide)]
    exact h6
  · rw [ki 218 (by decide)]; exact hb
  · unfold q5_ at h5 ⊢
    simp only [ke, kt, ki 18 (by decide), ki 65 (by decide), kr]
    exact h5
theorem xe_eq (kr : ∀ f x, xr τ f x = xr σ f x) (ka : τ.2.2.2.2.2.2.2.1 = σ.2.2.2.2.2.2.2.1) (l i : Nat) : xe τ l i = xe σ l i := by
  have e1 := kr 17 l
  unfold xe
  rw [e1]
  split
  · show τ.2.2.2.2.2.2.2.1 _ _ = σ.2.2.2.2.2.2.2.1 _ _
    rw [ka]
  · rfl
theorem qE_nT (h : qE_ T N g st na nr nl m day RL no nc a σ) (k : nT_ (g 6) tb σ τ) (h20 : ∀ i, i < m → T 20 i ≠ tb) : qE_ T N g st na nr nl m day RL no nc a τ := by
  obtain ⟨n1, n2, n3, n4, n5, n6, n7⟩ := k
  have kr : ∀ f x, xr τ f x = xr σ f x := fun f x => congrFun (congrFun n3 f) x
  exact qE_same h (fun f hf x => n1 f x (by intro e; rw [e] at hf; exact absurd hf (by decide))) kr (fun x => congrFun n2 x) (xe_eq kr n6) (fun x => by rw [n4]) (fun i hi j => by rw [n5 _ (h20 i hi)])
theorem vq_feed {p1 p2 p3 p4 p5 : Int32} {L : Nat} (hL : s.1.2.2.2.2.1.toInt = (L : Int)) (L5 : L ≤ 500) (J : yJ_ s g κ B n σ) (t : fT_ g T m st na tk ca tb F flt σ) (h : qE_ T N g st na nr nl m day RL no nc a σ) : vX11_feed (g 0) p1 p2 p3 p4 p5 σ (fun _ u => qE_ T N g st na nr nl m day RL no nc a u ∧ fT_ g T m st na tk ca tb (ab_tape p1 p2 p3 p4 p5 s F) flt u) := by
  obtain ⟨⟨t1, t2, t3, t4⟩, ⟨t5, t6, t7, t8, t9⟩, t10, t11, t12, t13⟩ := t
  have z480 : (480 : Int32).toInt = 480 := by decide
  have z500 : (500 : Int32).toInt = 500 := by decide
  have z20 : (20 : Int32).toInt = 20 := by decide
  have e177 : xi σ 177 (g 6) = s.1.2.2.2.2.1 := (yG_idx J).2.2.2.2.1
  have hL' : (xi σ 177 (g 6)).toInt = (L : Int) := by rw [e177]; exact hL
  have t20 := ki_add (a := s.1.2.2.2.2.1) (b := 20) (by rw [z20]; omega) (by rw [z20]; omega)
  have G6 := (yg6 J).1
  have pl : ∀ {k : Nat} {u : kx_S} {x : Nat}, ap_ (g 6) tb L k (bt_ p1 p2 p3 p4 p5) σ u → xr u 213 (g 0) = some x → g 6 = x := fun A e => by
    refine Option.some.inj (G6.symm.trans (Eq.trans ?_ e))
    exact (congrFun (congrFun A.1.2.2.1 213) (g 0)).symm
  unfold vX11_feed
  intro _ a2 e2 _
  obtain rfl := Option.some.inj (G6.symm.trans e2)
  refine ⟨fun c a6 e6 _ => ?_, fun c => ?_⟩
  · rw [ki_le, z480, hL'] at c
    obtain rfl := Option.some.inj (G6.symm.trans e6)
    have A0 : ap_ (g 6) tb L 0 (bt_ p1 p2 p3 p4 p5) σ σ := ⟨⟨fun _ _ _ => rfl, rfl, rfl, rfl, fun _ _ => rfl, rfl, rfl⟩, hL', tz_0.symm⟩
    have by_ : ∀ (q : Nat) (w : Int32), (∀ j, j < 4 → (if 4 * q + j < 4 then p1 else if 4 * q + j < 8 then p2 else if 4 * q + j < 12 then p3 else if 4 * q + j < 16 then p4 else p5) = w) → ∀ j, j < 4 → bt_ p1 p2 p3 p4 p5 (4 * q + j) = bw_ w j := by
      intro q w hw j hj
      unfold bt_
      rw [hw j hj, show (4 * q + j) % 4 = j by omega]
    refine vq_append A0 t4 t9 (by omega) (by_ 0 p1 (fun j hj => by rw [if_pos (by omega)])) (fun u1 A1 _ x1 e1 _ => ?_)
    obtain rfl := pl A1 e1
    refine vq_append A1 t4 t9 (by omega) (by_ 1 p2 (fun j hj => by rw [if_neg (by omega), if_pos (by omega)])) (fun u2 A2 _ x2 e2 _ => ?_)
    obtain rfl := pl A2 e2
    refine vq_append A2 t4 t9 (by omega) (by_ 2 p3 (fun j hj => by rw [if_neg (by omega), if_neg (by omega), if_pos (by omega)])) (fun u3 A3 _ x3 e3 _ => ?_)
    obtain rfl := pl A3 e3
    refine vq_append A3 t4 t9 (by omega) (by_ 3 p4 (fun j hj => by rw [if_neg (by omega), if_neg (by omega), if_neg (by omega), if_pos (by omega)])) (fun u4 A4 _ x4 e4 _ => ?_)
    obtain rfl := pl A4 e4
    refine vq_append A4 t4 t9 (by omega) (by_ 4 p5 (fun j hj => by rw [if_neg (by omega), if_neg (by omega), if_neg (by omega), if_neg (by omega)])) (fun u5 A5 _ x5 e5 _ => ?_)
    obtain ⟨k1, k2, k3⟩ := A5
    refine ⟨qE_nT h k1 (fun i hi => (t11 i hi).1), ?_⟩
    obtain ⟨n1, n2, n3, n4, n5, n6, n7⟩ := k1
    have kr : ∀ f x, xr u5 f x = xr σ f x := fun f x => congrFun (congrFun n3 f) x
    have kt : ∀ x, xt u5 x = xt σ x := fun x => congrFun n2 x
    have ea : ab_tape p1 p2 p3 p4 p5 s F = tz_ F L 20 (bt_ p1 p2 p3 p4 p5) := by
      unfold ab_tape
      rw [if_pos (by rw [ki_le, t20, hL, z20, z500]; omega), ki_toN hL]
    rw [ea]
    refine ⟨⟨by rw [kr]; exact t1, by rw [kr]; exact t2, by rw [kr]; exact t3, by rw [kr]; exact t4⟩, ⟨by rw [kt]; exact t5, by rw [kt]; exact t6, by rw [kt]; exact t7, by rw [n4]; exact t8, by rw [n4]; exact t9⟩, t10, t11, fun i hi => ?_, by rw [n1 219 _ (by decide)]; exact t13⟩
    rw [k3]
    unfold tz_
    rw [t12 i hi]
  · rw [ki_le, z480, hL'] at c
    have ea : ab_tape p1 p2 p3 p4 p5 s F = F := by
      unfold ab_tape
      rw [if_neg (by rw [ki_le, t20, hL, z20, z500]; omega)]
    rw [ea]
    exact ⟨h, ⟨t1, t2, t3, t4⟩, ⟨t5, t6, t7, t8, t9⟩, t10, t11, t12, t13⟩
end
/-! the reference -/
section
variable {μ u : km_S} {F : Nat → Int32} {L k : Nat} {p1 p2 p3 p4 p5 l6 : Int32} {Q : Int32 → km_S → Prop} {K : km_S → Prop}
def mg_ (F : Nat → Int32) (L k : Nat) (bt : Nat → Int32) (u : km_S) : Prop := (km_i u 9).toInt = ((L + k : Nat) : Int) ∧ ∀ i, i < 500 → km_a u 52 i = tz_ F L k bt i
theorem mg_sh (hk : l6.toInt = (k : Int)) (h20 : k < 20) : (24 - (8 * (l6 - l6 / 4 * 4))) = sh_ (k % 4) := by
  have c : k = 0 ∨ k = 1 ∨ k = 2 ∨ k = 3 ∨ k = 4 ∨ k = 5 ∨ k = 6 ∨ k = 7 ∨ k = 8 ∨ k = 9 ∨ k = 10 ∨ k = 11 ∨ k = 12 ∨ k = 13 ∨ k = 14 ∨ k = 15 ∨ k = 16 ∨ k = 17 ∨ k = 18 ∨ k = 19 := by omega
  have e : l6 = nI k := ki_eq.2 (by rw [hk, t_nI (by omega)])
  rw [e]
  rcases c with c | c | c | c | c | c | c | c | c | c | c | c | c | c | c | c | c | c | c | c <;> (rw [c]; decide)
theorem vr_fd1 {n : Nat} (M : mg_ F L k (bt_ p1 p2 p3 p4 p5) u) (hk : l6.toInt = (k : Int)) (h20 : k < 20) (hL : L + 20 ≤ 500) (kk : ∀ u' v, v.toInt = ((k + 1 : Nat) : Int) → mg_ F L (k + 1) (bt_ p1 p2 p3 p4 p5) u' → vX12_feed_23 K Q n p1 p2 p3 p4 p5 v u') : vX12_feed_23 K Q (n + 1) p1 p2 p3 p4 p5 l6 u := by
  obtain ⟨m1, m2⟩ := M
  have z20 : (20 : Int32).toInt = 20 := by decide
  have z4 : (4 : Int32).toInt = 4 := by decide
  have z8 : (8 : Int32).toInt = 8 := by decide
  have z12 : (12 : Int32).toInt = 12 := by decide
  have z16 : (16 : Int32).toInt = 16 := by decide
  have st : ∀ w : Int32, (if k < 4 then p1 else if k < 8 then p2 else if k < 12 then p3 else if k < 16 then p4 else p5) = w → vX12_feed_76 (vX12_feed_23 K Q n) Q p1 p2 p3 p4 p5 l6 w u := by
    intro w hw
    unfold vX12_feed_76
    rw [mg_sh hk h20, ki_toN m1]
    rintro - μ2 rfl μ3 rfl v4 e4
    refine kk _ v4 (by rw [e4]; exact ki_addN hk ki_z1 (by omega)) ⟨?_, fun i hi => ?_⟩
    · have e : km_i (km_si (km_sa u 52 (L + k) ((w >>> (sh_ (k % 4) &&& 31)) &&& 255)) 9 (km_i (km_sa u 52 (L + k) ((w >>> (sh_ (k % 4) &&& 31)) &&& 255)) 9 + 1)) 9 = km_i u 9 + 1 := (w_updS : upd u.1 9 (km_i u 9 + 1) 9 = km_i u 9 + 1)
      rw [e, show L + (k + 1) = L + k + 1 from rfl]
      exact ki_addN m1 ki_z1 (by omega)
    · rw [← tz_s]
      have eb : (w >>> (sh_ (k % 4) &&& 31)) &&& 255 = bt_ p1 p2 p3 p4 p5 k := by
        unfold bt_
        rw [hw]
        rfl
      rw [eb]
      have e : km_a (km_si (km_sa u 52 (L + k) (bt_ p1 p2 p3 p4 p5 k)) 9 (km_i (km_sa u 52 (L + k) (bt_ p1 p2 p3 p4 p5 k)) 9 + 1)) 52 i = upd (km_a u 52) (L + k) (bt_ p1 p2 p3 p4 p5 k) i := rfl
      rw [e]
      by_cases c : i = L + k
      · rw [c, w_updS, w_updS]
      · rw [w_updN c, w_updN c]
        exact m2 i hi
  show (20 ≤ l6 → _) ∧ (¬ (20 ≤ l6) → ((4 ≤ l6 → ((8 ≤ l6 → ((12 ≤ l6 → ((16 ≤ l6 → _) ∧ (¬ (16 ≤ l6) → _))) ∧ (¬ (12 ≤ l6) → _))) ∧ (¬ (8 ≤ l6) → _))) ∧ (¬ (4 ≤ l6) → _)))
  rw [ki_le, ki_le, ki_le, ki_le, ki_le, z20, z4, z8, z12, z16, hk]
  exact ⟨fun c => by omega, fun _ => ⟨fun c4 => ⟨fun c8 => ⟨fun c12 => ⟨fun c16 => st p5 (by rw [if_neg (by omega), if_neg (by omega), if_neg (by omega), if_neg (by omega)]), fun c16 => st p4 (by rw [if_neg (by omega), if_neg (by omega), if_neg (by omega), if_pos (by omega)])⟩, fun c12 => st p3 (by rw [if_neg (by omega), if_neg (by omega), if_pos (by omega)])⟩, fun c8 => st p2 (by rw [if_neg (by omega), if_pos (by omega)])⟩, fun c4 => st p1 (by rw [if_pos (by omega)])⟩⟩
theorem vr_feed {s : sz_T} (hs : sm_ μ = s) (hL : s.1.2.2.2.2.1.toInt = (L : Int)) (L5 : L ≤ 500) (hF : ∀ i, i < 500 → km_a μ 52 i = F i) : vX12_feed p1 p2 p3 p4 p5 μ (fun _ u => ∀ i, i < 500 → km_a u 52 i = ab_tape p1 p2 p3 p4 p5 s F i) := by
  have z500 : (500 : Int32).toInt = 500 := by decide
  have z20 : (20 : Int32).toInt = 20 := by decide
  have t20 := ki_add (a := s.1.2.2.2.2.1) (b := 20) (by rw [z20]; omega) (by rw [z20]; omega)
  have e9 : km_i μ 9 = s.1.2.2.2.2.1 := congrArg (fun s : sz_T => s.1.2.2.2.2.1) hs
  unfold vX12_feed
  rintro μ1 rfl
  have e9' : km_i (km_si μ 1 0) 9 = s.1.2.2.2.2.1 := e9
  rw [e9']
  refine ⟨fun c => ?_, fun c => ?_⟩
  · have c' := c
    rw [ki_le, t20, hL, z20, z500] at c'
    have ea : ab_tape p1 p2 p3 p4 p5 s F = tz_ F L 20 (bt_ p1 p2 p3 p4 p5) := by
      unfold ab_tape
      rw [if_pos c, ki_toN hL]
    rw [ea]
    have Lp : ∀ (j k : Nat) (l6 : Int32) (u : km_S), l6.toInt = (k : Int) → k ≤ 20 → mg_ F L k (bt_ p1 p2 p3 p4 p5) u → vX12_feed_23 (vX12_feed_120 (fun _ u => ∀ i, i < 500 → km_a u 52 i = tz_ F L 20 (bt_ p1 p2 p3 p4 p5) i)) (fun _ u => ∀ i, i < 500 → km_a u 52 i = tz_ F L 20 (bt_ p1 p2 p3 p4 p5) i) j p1 p2 p3 p4 p5 l6 u := by
      intro j
      induction j with
      | zero => intro _ _ _ _ _ _; exact True.intro
      | succ j ih =>
        intro k l6 u hk k20 M
        by_cases c20 : k = 20
        · subst c20
          exact ⟨fun _ => M.2, fun q => absurd (show (20 : Int32) ≤ l6 by rw [ki_le, z20, hk]; omega) q⟩
        · exact vr_fd1 M hk (by omega) (by omega) (fun u' v hv M' => ih (k + 1) v u' hv (by omega) M')
    refine fun j => Lp j 0 0 _ ki_z0 (by omega) ⟨?_, fun i hi => ?_⟩
    · rw [e9']
      exact hL
    · rw [tz_0]
      exact hF i hi
  · have ea : ab_tape p1 p2 p3 p4 p5 s F = F := by
      unfold ab_tape
      rw [if_neg c]
    rw [ea]
    exact hF
end
end
section
/-! law: a text that is read; both sides -/
abbrev lw_T : Type := Nat × (Nat → Int32) × (Nat → List (Bool × List Int32))
def ab_law (l1 l2 : Int32) (s : sz_T) (F : Nat → Int32) (w : lw_T) (flt : Int32) : lw_T × Int32 := if l1 < 0 ∨ s.1.2.2.2.2.1 < l1 ∨ l2 < 0 ∨ ¬ l2 ≤ 1000 then (w, flt) else if w.1 = 6 then (w, -1) else match p_text F l1.toNatClampNeg 13 0 (t_tok F l1.toNatClampNeg 0) with
  | .inl p => (w, nI p)
  | .inr rs => ((w.1 + 1, upd w.2.1 w.1 l2, fun i => if i = w.1 then rs else w.2.2 i), -1)
/-! what is told of the laws, apart from both -/
def kL_ (w : lw_T) : Prop := w.1 ≤ 6 ∧ ∀ l, l < w.1 → (w.2.2 l).length ≤ 12 ∧ (∀ x ∈ w.2.2 l, ed_ 33 x.2 0 1) ∧ (p_ops (w.2.2 l)).length ≤ 500
theorem enc_len3 {M : Nat} : ∀ (L : List Int32) (d e : Nat), ed_ M L d e → 2 * (enc L).length + d ≤ 3 * L.length + e := by
  intro L
  induction L with
  | nil => intro d e h; have h : d = e := h; rw [h]; exact Nat.le_of_eq (by simp [enc])
  | cons c L ih =>
    intro d e h
    have el : (enc (c :: L)).length = (enc1 c).length + (enc L).length := by
      unfold enc
      rw [List.flatMap_cons, List.length_append]
    have l2 : (enc1 c).length ≤ 2 := by
      unfold enc1
      split
      · exact Nat.le_refl 2
      · split
        · exact Nat.le_succ 1
        · exact Nat.le_succ 1
    have l1 : ¬ -8 < c.toInt → (enc1 c).length = 1 := by
      intro q
      have z8 : (-8 : Int32).toInt = -8 := by decide
      unfold enc1
      rw [if_neg (by rw [ki_le, ki_z0]; omega), if_neg (by rw [ki_lt, z8]; omega)]
      rfl
    rw [el, List.length_cons]
    unfold ed_ at h
    split at h
    · have := ih _ _ h.2
      omega
    · next q =>
      have l1 := l1 q
      split at h
      · have := ih _ _ h.2
        omega
      · have := ih _ _ h.2.2
        have := h.2.1
        omega
theorem enc_ops : ∀ (R : List (Bool × List Int32)), (∀ x ∈ R, ed_ 33 x.2 0 1) → 2 * (enc (p_ops R)).length ≤ 3 * (p_ops R).length + R.length := by
  intro R
  induction R with
  | nil => intro _; exact Nat.le_of_eq (by simp [enc, p_ops])
  | cons r R ih =>
    intro h
    have e1 : p_ops (r :: R) = r.2 ++ p_ops R := by
      unfold p_ops
      rw [List.flatMap_cons]
    have e2 : enc (r.2 ++ p_ops R) = enc r.2 ++ enc (p_ops R) := by
      unfold enc
      rw [List.flatMap_append]
    have h1 := enc_len3 r.2 0 1 (h r (List.mem_cons_self))
    have h2 := ih (fun x hx => h x (List.mem_cons_of_mem r hx))
    rw [e1, e2, List.length_append, List.length_append, List.length_cons]
    omega
theorem ops_flat : ∀ R : List (Bool × List Int32), (p_ops R).length ≤ (p_flat R).length := by
  intro R
  induction R with
  | nil => exact Nat.le_refl _
  | cons r R ih =>
    have e1 : p_ops (r :: R) = r.2 ++ p_ops R := by
      unfold p_ops
      rw [List.flatMap_cons]
    have e2 : p_flat (r :: R) = (r.2 ++ [if r.1 = true then -18 else -17]) ++ p_flat R := by
      unfold p_flat
      rw [List.flatMap_cons]
    rw [e1, e2, List.length_append, List.length_append, List.length_append]
    omega
theorem text12 {f : Nat → Int32} {n : Nat} : ∀ (m i : Nat) (t : tk_T) (rs : List (Bool × List Int32)), i ≤ 12 → p_text f n m i t = .inr rs → rs.length + i ≤ 12 := by
  intro m
  induction m with
  | zero =>
    intro i t rs hi h
    have h : (.inr [] : pt_T) = .inr rs := h
    rw [← Sum.inr.inj h]
    exact (Nat.zero_add i).symm ▸ hi
  | succ m ih =>
    intro i t rs hi h
    have h : (if t.1 = 0 then (.inr [] : pt_T) else match p_rule f n i t with
      | .inl p => .inl p
      | .inr (t2, cs) => match p_text f n m (i + 1) t2 with
        | .inl p => .inl p
        | .inr rs => .inr ((t_wd f t 7, cs) :: rs)) = .inr rs := h
    by_cases c : t.1 = 0
    · rw [if_pos c] at h
      rw [← Sum.inr.inj h]
      exact (Nat.zero_add i).symm ▸ hi
    · rw [if_neg c] at h
      have i11 : i ≠ 12 := by
        intro e
        subst e
        have er : p_rule f n 12 t = .inl t.2.1 := by
          unfold p_rule
          split
          · rfl
          · rfl
        rw [er] at h
        cases h
      revert h
      cases p_rule f n i t with
      | inl p => intro h; cases h
      | inr y =>
        obtain ⟨t2, cs⟩ := y
        intro h
        have h : (match p_text f n m (i + 1) t2 with
          | .inl p => (.inl p : pt_T)
          | .inr rs => .inr ((t_wd f t 7, cs) :: rs)) = .inr rs := h
        revert h
        cases e2 : p_text f n m (i + 1) t2 with
        | inl p => intro h; cases h
        | inr rs2 =>
          intro h
          rw [← Sum.inr.inj h, List.length_cons]
          have := ih (i + 1) t2 rs2 (by omega) e2
          omega
theorem kL_law {l1 l2 flt : Int32} {s : sz_T} {F : Nat → Int32} {w : lw_T} (h : kL_ w) (h5 : ∀ l, l < (ab_law l1 l2 s F w flt).1.1 → (p_flat ((ab_law l1 l2 s F w flt).1.2.2 l)).length ≤ 500) : kL_ (ab_law l1 l2 s F w flt).1 := by
  revert h5
  unfold ab_law
  split
  · intro _; exact h
  · split
    · intro _; exact h
    · next c6 =>
      cases e : p_text F l1.toNatClampNeg 13 0 (t_tok F l1.toNatClampNeg 0) with
      | inl p => intro _; exact h
      | inr rs =>
        intro h5
        have h5 : ∀ l, l < w.1 + 1 → (p_flat (if l = w.1 then rs else w.2.2 l)).length ≤ 500 := h5
        refine ⟨by show w.1 + 1 ≤ 6; have := h.1; omega, fun l hl => ?_⟩
        have hl : l < w.1 + 1 := hl
        show (if l = w.1 then rs else w.2.2 l).length ≤ 12 ∧ (∀ x ∈ (if l = w.1 then rs else w.2.2 l), ed_ 33 x.2 0 1) ∧ (p_ops (if l = w.1 then rs else w.2.2 l)).length ≤ 500
        by_cases c : l = w.1
        · have h5 := h5 l hl
          rw [if_pos c] at h5 ⊢
          refine ⟨text12 13 0 _ rs (by decide) e, pe_text (n := l1.toNatClampNeg) (f := F) 13 0 _ rs ⟨0, Nat.zero_le _, rfl⟩ e, Nat.le_trans (ops_flat rs) h5⟩
        · rw [if_neg c]
          exact h.2 l (by omega)
theorem nI_ofN {x : Int32} {p : Nat} (h : x.toInt = (p : Int)) : x = nI p := ki_eq.2 (by
  have := Int32.toInt_lt x
  rw [h, nI_toInt (n := p) (by omega)])
/-! the reference -/
def mM_ (l : Nat) (R : List (Bool × List Int32)) (μ : km_S) : Prop := (km_a μ 54 l).toInt = (R.length : Int) ∧ mR_ l R μ ∧ (km_a μ 55 (13 * l + R.length)).toInt = ((enc (p_ops R)).length : Int) ∧ ∀ i, i < (enc (p_ops R)).length → km_a μ 56 (900 * l + i) = (enc (p_ops R)).getD i 0
def fL_ (w : lw_T) (μ : km_S) : Prop := (km_i μ 5).toInt = (w.1 : Int) ∧ (∀ i, i < w.1 → km_a μ 53 i = w.2.1 i) ∧ ∀ l, l < w.1 → mM_ l (w.2.2 l) μ
theorem mM_L {w : lw_T} {μ : km_S} (K : kL_ w) (h : fL_ w μ) : ∀ l, l < w.1 → mL_ l (w.2.2 l) μ := fun l hl => by
  obtain ⟨a, b, c, d⟩ := h.2.2 l hl
  obtain ⟨k1, k2, k3⟩ := K.2 l hl
  exact ⟨a, k1, b, c, d, k2, k3⟩
theorem mM_gu {l lw : Nat} {R : List (Bool × List Int32)} {μ u : km_S} (h : mM_ l R μ) (k : gu_ lw μ u) (hl : l < lw) (h12 : R.length ≤ 12) (he : (enc (p_ops R)).length ≤ 900) : mM_ l R u := by
  obtain ⟨a, b, c, d⟩ := h
  obtain ⟨g1, g2, g3, g4, g5, g6, g7⟩ := k
  refine ⟨by rw [g6 l (by omega)]; exact a, fun i r hr => ?_, by rw [g4 _ (by omega)]; exact c, fun i hi => by rw [g3 _ (by omega)]; exact d i hi⟩
  have hlt := (List.getElem?_eq_some_iff.1 hr).1
  rw [g5 _ (by omega), g4 _ (by omega)]
  exact b i r hr
theorem fL_nm {w : lw_T} {μ u : km_S} {W : List Nat} (h : fL_ w μ) (F : nm_ W μ u) (hW : ∀ f ∈ W, f ∉ [5, 53, 54, 55, 56, 58]) : fL_ w u := by
  have k : ∀ f, f ∈ [5, 53, 54, 55, 56, 58] → f ∉ W := fun f hf q => hW f q hf
  have e5 := F.1 5 (k 5 (by decide))
  have e53 := F.2 53 (k 53 (by decide))
  have e54 := F.2 54 (k 54 (by decide))
  have e55 := F.2 55 (k 55 (by decide))
  have e56 := F.2 56 (k 56 (by decide))
  have e58 := F.2 58 (k 58 (by decide))
  unfold fL_ mM_ mR_ at h ⊢
  rw [e5, e53, e54, e55, e56, e58]
  exact h
section
variable {μ : km_S} {s : sz_T} {F : Nat → Int32} {L : Nat} {w : lw_T} {flt l1 l2 : Int32}
theorem vr_law (hs : sm_ μ = s) (hL : s.1.2.2.2.2.1.toInt = (L : Int)) (L5 : L ≤ 500) (hF : ∀ i, i < 500 → km_a μ 52 i = F i) (hb : ∀ i, i < 500 → ¬ F i = -1) (K : kL_ w) (h : fL_ w μ) (hf : km_i μ 10 = flt) : vX12_law l1 l2 μ (fun _ u => fL_ (ab_law l1 l2 s F w flt).1 u ∧ km_i u 10 = (ab_law l1 l2 s F w flt).2) := by
  have e9 : km_i μ 9 = s.1.2.2.2.2.1 := congrArg (fun s : sz_T => s.1.2.2.2.2.1) hs
  have z6 : (6 : Int32).toInt = 6 := by decide
  unfold vX12_law
  rintro μ1 rfl
  have e9' : km_i (km_si μ 1 0) 9 = s.1.2.2.2.2.1 := e9
  rw [e9']
  have no_ : (l1 < 0 ∨ s.1.2.2.2.2.1 < l1 ∨ l2 < 0 ∨ ¬ l2 ≤ 1000) → vX12_law_28 (fun _ u => fL_ (ab_law l1 l2 s F w flt).1 u ∧ km_i u 10 = (ab_law l1 l2 s F w flt).2) (km_si μ 1 0) := by
    intro c
    unfold vX12_law_28 vX12_fail
    rintro _ rfl
    have ea : ab_law l1 l2 s F w flt = (w, flt) := if_pos c
    rw [ea]
    exact ⟨h, hf⟩
  refine ⟨fun c => no_ (.inl c), fun c1 => ⟨fun c => no_ (.inr (.inl c)), fun c2 => ⟨fun c => no_ (.inr (.inr (.inl c))), fun c3 => ⟨fun c4 => ?_, fun c => no_ (.inr (.inr (.inr c)))⟩⟩⟩⟩
  have ok : ¬ (l1 < 0 ∨ s.1.2.2.2.2.1 < l1 ∨ l2 < 0 ∨ ¬ l2 ≤ 1000) := by
    rintro (q | q | q | q)
    · exact c1 q
    · exact c2 q
    · exact c3 q
    · exact q c4
  clear no_
  rintro μ8 rfl μ9 rfl
  have e5 : (km_i (km_si (km_si (km_si μ 1 0) 9 0) 10 (-1)) 5).toInt = (w.1 : Int) := h.1
  refine ⟨fun c5 => ?_, fun c5 => ?_⟩
  · have n6 : ¬ w.1 = 6 := fun e => c5 (ki_eq.2 (by rw [e5, z6, e]; rfl))
    have w6 : w.1 < 6 := by have := K.1; omega
    rw [ki_lt, ki_z0] at c1
    rw [ki_lt, hL] at c2
    obtain ⟨n, hn⟩ : ∃ n : Nat, l1.toInt = (n : Int) := ⟨l1.toInt.toNat, by omega⟩
    have n5 : n ≤ 500 := by omega
    rintro μ11 rfl μ12 rfl μ13 rfl μ14 rfl
    have C : m0_ F n w.1 (km_si (km_si (km_si (km_si (km_si (km_si (km_si μ 1 0) 9 0) 10 (-1)) 61 l1) 60 0) 66 0) 59 0) := ⟨⟨hn, n5, fun i hi => hF i (by omega)⟩, fun i hi => hb i (by omega), h.1, w6⟩
    refine ve_text C rfl rfl rfl (fun u hz => ?_)
    have ea : ab_law l1 l2 s F w flt = match p_text F n 13 0 (t_tok F n 0) with
        | .inl p => (w, nI p)
        | .inr rs => ((w.1 + 1, upd w.2.1 w.1 l2, fun i => if i = w.1 then rs else w.2.2 i), -1) := by
      unfold ab_law
      rw [if_neg ok, if_neg n6, ki_toN hn]
    rw [ea]
    clear ea
    have old : gu_ w.1 (km_si (km_si (km_si (km_si (km_si (km_si (km_si μ 1 0) 9 0) 10 (-1)) 61 l1) 60 0) 66 0) 59 0) u → (∀ i, i < w.1 → km_a u 53 i = w.2.1 i) ∧ (∀ l, l < w.1 → mM_ l (w.2.2 l) u) ∧ km_i u 5 = km_i μ 5 ∧ km_i u 10 = -1 := by
      intro G
      refine ⟨fun i hi => ?_, fun l hl => ?_, G.1 5 (by decide) (by decide) (by decide) (by decide) (by decide) (by decide) (by decide) (by decide), G.1 10 (by decide) (by decide) (by decide) (by decide) (by decide) (by decide) (by decide) (by decide)⟩
      · rw [G.2.1 53 (by decide) (by decide) (by decide) (by decide)]
        exact h.2.1 i hi
      · obtain ⟨k1, k2, k3⟩ := K.2 l hl
        have := enc_ops _ k2
        exact mM_gu (μ := km_si (km_si (km_si (km_si (km_si (km_si (km_si μ 1 0) 9 0) 10 (-1)) 61 l1) 60 0) 66 0) 59 0) (h.2.2 l hl) G hl k1 (by omega)
    generalize km_si (km_si (km_si (km_si (km_si (km_si (km_si μ 1 0) 9 0) 10 (-1)) 61 l1) 60 0) 66 0) 59 0 = μ14 at hz old
    revert hz
    cases p_text F n 13 0 (t_tok F n 0) with
    | inl p =>
      intro hz
      obtain ⟨G, b1, b2⟩ := hz
      obtain ⟨o1, o2, o3, o4⟩ := old G
      refine ⟨fun q => absurd q b1, fun _ => ?_⟩
      rintro μ20 rfl
      refine ⟨⟨?_, o1, o2⟩, ?_⟩
      · show (km_i u 5).toInt = _
        rw [o3]
        exact h.1
      · have e : km_i (km_si u 10 (km_i u 67)) 10 = km_i u 67 := (w_updS : upd u.1 10 (km_i u 67) 10 = km_i u 67)
        rw [e]
        exact nI_ofN b2
    | inr rs =>
      intro hz
      obtain ⟨G, b1, b2, b3, b4, b5⟩ := hz
      obtain ⟨o1, o2, o3, o4⟩ := old G
      have e5' : (km_i u 5).toInt = (w.1 : Int) := by rw [o3]; exact h.1
      refine ⟨fun _ _ => ?_, fun q => absurd b1 q⟩
      rw [ki_toN e5']
      rintro μ18 rfl μ19 rfl
      refine ⟨⟨?_, fun i hi => ?_, fun l hl => ?_⟩, o4⟩
      · have e : km_i (km_si (km_sa u 53 w.1 l2) 5 (km_i (km_sa u 53 w.1 l2) 5 + 1)) 5 = km_i u 5 + 1 := (w_updS : upd u.1 5 (km_i u 5 + 1) 5 = km_i u 5 + 1)
        rw [e]
        exact ki_addN e5' ki_z1 (by omega)
      · have hi : i < w.1 + 1 := hi
        show upd (u.2.1 53) w.1 l2 i = upd w.2.1 w.1 l2 i
        by_cases c : i = w.1
        · rw [c, w_updS, w_updS]
        · rw [w_updN c, w_updN c]
          exact o1 i (by omega)
      · have hl : l < w.1 + 1 := hl
        show mM_ l (if l = w.1 then rs else w.2.2 l) u
        by_cases c : l = w.1
        · rw [if_pos c, c]
          exact ⟨b5, b3, b4, b2.2⟩
        · rw [if_neg c]
          exact o2 l (by omega)
  · have n6 : w.1 = 6 := by
      have := congrArg Int32.toInt c5
      rw [e5, z6] at this
      omega
    have ea : ab_law l1 l2 s F w flt = (w, -1) := by
      unfold ab_law
      rw [if_neg ok, if_pos n6]
    rw [ea]
    exact ⟨h, rfl⟩
end
/-! the class -/
theorem hx_newA {X : Nat → Prop} {W : List Nat} {σ τ : kx_S} {p t n B0 n0 : Nat} {g κ : Nat → Nat} (h : hx_ X W σ τ) (Ly : yL_ g κ B0 n0 τ) (hp : xt τ p = 0) : hx_ X W σ (xnewA τ p t n) := by
  obtain ⟨h1, h2, h3, h4, h5⟩ := h
  have ne : ∀ b, xt σ b ≠ 0 → b ≠ p := fun b hb e => hb (by rw [← h1.1 b hb, e]; exact hp)
  refine ⟨fg_trans h1 (fg_newA hp), h2, h3, fun l a1 => ⟨(h4 l a1).1, fun i hi => ?_⟩, fun b hb => (va_up_ne _ _ (ne b hb)).trans (h5 b hb)⟩
  obtain ⟨d, d1, d2, d3, d4⟩ := Ly.1 l (fg_tag h1 a1 (by decide))
  have sz := (h4 l a1).1
  refine Eq.trans ?_ ((h4 l a1).2 i hi)
  rcases d4 with ⟨_, z2⟩ | ⟨_, z2, _⟩
  · exfalso
    rw [z2, ki_z0] at sz
    omega
  · have dp : d ≠ p := fun e => by rw [e, hp] at z2; omega
    have e1 : xr (xnewA τ p t n) 17 l = some d := d1
    unfold xe
    rw [e1, d1]
    show va_up τ.2.2.2.2.2.2.2.1 p (fun _ => none) d i = τ.2.2.2.2.2.2.2.1 d i
    rw [va_up_ne _ _ dp]
theorem hx_sAIP {X : Nat → Prop} {W : List Nat} {σ τ : kx_S} {p : Nat} {f : Nat → Int32} (h : hx_ X W σ τ) (hp : xt σ p = 0) : hx_ X W σ (xsAI τ p f) := by
  obtain ⟨h1, h2, h3, h4, h5⟩ := h
  exact ⟨h1, h2, h3, h4, fun b hb => (va_up_ne _ _ (fun e => hb (by rw [e]; exact hp))).trans (h5 b hb)⟩
theorem vq_copyOf {X : Nat → Prop} {W : List Nat} {σ0 σ : kx_S} {h k B0 n0 : Nat} {g κ : Nat → Nat} {v : Int32} {Q : Nat → kx_S → Prop} (F : hx_ X W σ0 σ) (Ly : yL_ g κ B0 n0 σ) (th : xt σ h = 20) (nh : xn σ h = 500) (hv : v.toInt = (k : Int)) (k5 : k ≤ 500) (kk : ∀ p τ, xt σ p = 0 → hx_ X W σ0 τ → xt τ p = 20 → xn τ p = k → (∀ i, i < k → xai τ p i = xai σ h i) → (∀ f x, xi τ f x = xi σ f x) → (∀ x, x ≠ p → xt τ x = xt σ x) → Q p τ) : vJ7_copyOf_59c91 h v σ Q := by
  have e500 : (nI (xn σ h)).toInt = 500 := by rw [nh]; decide
  have z0 : Int32.toNatClampNeg 0 = 0 := by decide
  unfold vJ7_copyOf_59c91
  intro _
  refine ⟨fun c _ _ _ p hp hz σ9 e9 _ v12 e12 _ _ _ _ _ σ18 e18 => ?_, fun c _ _ p hp hz σ26 e26 => ?_⟩
  · have hph : h ≠ p := fun e => by rw [e, hp] at th; omega
    have hp0 := hx_0 F hp
    have F9 : hx_ X W σ0 σ9 := by rw [e9]; exact hx_newA F Ly hp
    have nh9 : xn σ9 h = 500 := by rw [e9]; exact (va_up_ne _ _ hph).trans nh
    have np9 : xn σ9 p = v.toNatClampNeg := by rw [e9]; exact va_up_self _ _ _
    have tp9 : xt σ9 p = 20 := by rw [e9]; exact va_up_self _ _ _
    have ah9 : xai σ9 h = xai σ h := by rw [e9]; exact va_up_ne _ _ hph
    have i9 : ∀ f x, xi σ9 f x = xi σ f x := fun f x => by rw [e9]; rfl
    have t9 : ∀ x, x ≠ p → xt σ9 x = xt σ x := fun x hx => by rw [e9]; exact va_up_ne _ _ hx
    clear e9
    have hw : v12 = v := by
      rw [e12, nh9]
      have e5 : (nI 500).toInt = 500 := by decide
      by_cases q : v < nI 500
      · rw [if_pos q]
      · rw [if_neg q]
        rw [ki_lt, e5] at q
        exact ki_eq.2 (by rw [e5]; omega)
    rw [hw, z0, ki_toN hv] at e18
    refine kk p σ18 hp (by rw [e18]; exact hx_sAIP F9 hp0) (by rw [e18]; exact tp9) (by rw [e18]; exact np9.trans (ki_toN hv)) (fun i hi => ?_) (fun f x => by rw [e18]; exact i9 f x) (fun x hx => by rw [e18]; exact t9 x hx)
    have e : xai σ18 p = va_cpy (xai σ9 h) (xai σ9 p) 0 0 k := by rw [e18]; exact va_up_self _ _ _
    rw [e]
    unfold va_cpy
    rw [if_pos ⟨Nat.zero_le i, by omega⟩, Nat.sub_zero, Nat.zero_add, ah9]
  · have hp0 := hx_0 F hp
    have ek : k = 500 := by
      have := congrArg Int32.toInt c
      rw [e500, hv] at this
      omega
    have F9 : hx_ X W σ0 (xnewA σ p 20 (xn σ h)) := hx_newA F Ly hp
    refine kk p σ26 hp (by rw [e26]; exact hx_sAIP F9 hp0) (by rw [e26]; exact va_up_self _ _ _) ?_ (fun i hi => ?_) (fun f x => by rw [e26]; rfl) (fun x hx => by rw [e26]; exact va_up_ne _ _ hx)
    · rw [e26, ek, ← nh]
      exact va_up_self _ _ _
    · have e : xai σ26 p = xai σ h := by rw [e26]; exact va_up_self _ _ _
      rw [e]
section
variable {T : Nat → Nat → Nat} {N : Nat → Nat} {g κ : Nat → Nat} {st na nr nl nc no m tk ca tb : Nat} {day : Nat → Int32} {RL : Nat → List (Bool × List Int32)} {s : sz_T} {B n : Nat} {a b : ra_T} {σ τ : kx_S} {F : Nat → Int32} {flt : Int32}
theorem qE_rf (h : qE_ T N g st na nr nl m day RL no nc a σ) (k : rf_ (g 7) tk ca σ τ) (h20 : ∀ i, i < m → T 20 i ≠ ca) : qE_ T N g st na nr nl m day RL no nc a τ := by
  obtain ⟨n1, n2, n3, n4, n5, n6, n7⟩ := k
  have kr : ∀ f x, xr τ f x = xr σ f x := fun f x => congrFun (congrFun n3 f) x
  have ka : τ.2.2.2.2.2.2.2.1 = σ.2.2.2.2.2.2.2.1 := congrArg (fun q => q.2.1) n7
  refine qE_same h (fun f hf x => n1 f x (fun y => ?_) (fun y => ?_)) kr (fun x => congrFun n2 x) (xe_eq kr ka) (fun x => congrFun n5 x) (fun i hi j => by rw [n6 _ (h20 i hi)])
  · rcases y.2 with e | e | e | e <;> (rw [e] at hf; exact absurd hf (by decide))
  · rcases y.2 with e | e | e <;> (rw [e] at hf; exact absurd hf (by decide))
theorem fT_rf (t : fT_ g T m st na tk ca tb F flt σ) (k : rf_ (g 7) tk ca σ τ) : fT_ g T m st na tk ca tb F flt τ := by
  obtain ⟨⟨t1, t2, t3, t4⟩, ⟨t5, t6, t7, t8, t9⟩, t10, t11, t12, t13⟩ := t
  obtain ⟨n1, n2, n3, n4, n5, n6, n7⟩ := k
  have kr : ∀ f x, xr τ f x = xr σ f x := fun f x => congrFun (congrFun n3 f) x
  have kt : ∀ x, xt τ x = xt σ x := fun x => congrFun n2 x
  have kn : ∀ x, xn τ x = xn σ x := fun x => congrFun n5 x
  refine ⟨⟨by rw [kr]; exact t1, by rw [kr]; exact t2, by rw [kr]; exact t3, by rw [kr]; exact t4⟩, ⟨by rw [kt]; exact t5, by rw [kt]; exact t6, by rw [kt]; exact t7, by rw [kn]; exact t8, by rw [kn]; exact t9⟩, t10, t11, fun i hi => by rw [n6 tb t10.1]; exact t12 i hi, ?_⟩
  rw [n1 219 _ (fun y => by rcases y.2 with e | e | e | e <;> exact absurd e (by decide)) (fun y => by rcases y.2 with e | e | e <;> exact absurd e (by decide))]
  exact t13
theorem fT_hx {X : Nat → Prop} {W : List Nat} (t : fT_ g T m st na tk ca tb F flt σ) (k : hx_ X W σ τ) (h0 : xt σ (g 0) ≠ 0) (h6 : xt σ (g 6) ≠ 0) (h7 : xt σ (g 7) ≠ 0) (hW : 219 ∉ W) : fT_ g T m st na tk ca tb F flt τ := by
  obtain ⟨⟨t1, t2, t3, t4⟩, ⟨t5, t6, t7, t8, t9⟩, t10, t11, t12, t13⟩ := t
  have o5 : xt σ tk ≠ 0 := by rw [t5]; decide
  have o6 : xt σ ca ≠ 0 := by rw [t6]; decide
  have o7 : xt σ tb ≠ 0 := by rw [t7]; decide
  obtain ⟨⟨f1, f2, f3, f4⟩, k2, k3, k4, k5⟩ := k
  exact ⟨⟨by rw [f2 112 _ (by decide) h7]; exact t1, by rw [f2 113 _ (by decide) h7]; exact t2, by rw [f2 192 _ (by decide) o5]; exact t3, by rw [f2 176 _ (by decide) h6]; exact t4⟩, ⟨by rw [f1 _ o5]; exact t5, by rw [f1 _ o6]; exact t6, by rw [f1 _ o7]; exact t7, by rw [f3 _ o6]; exact t8, by rw [f3 _ o7]; exact t9⟩, t10, t11, fun i hi => by rw [k5 _ o7]; exact t12 i hi, by rw [k2 219 _ hW (by decide) (by decide) h0]; exact t13⟩
theorem nW_2 {f1 f2 x y : Nat} {v w : Int32} : nW_ [f1, f2] σ (xsi (xsi σ f1 x v) f2 y w) := by
  refine ⟨fun f b hf => ?_, rfl, fun _ _ _ => rfl, rfl, rfl, rfl, rfl⟩
  have h1 : f ≠ f1 := fun e => hf (by rw [e]; exact List.mem_cons_self)
  have h2 : f ≠ f2 := fun e => hf (by rw [e]; exact List.mem_cons_of_mem _ (List.mem_cons_self))
  show (if f = f2 then va_up ((xsi σ f1 x v).2.1 f2) y w else (if f = f1 then va_up (σ.2.1 f1) x v else σ.2.1 f)) b = σ.2.1 f b
  rw [if_neg h2, if_neg h1]
theorem vq_law {l1 l2 : Int32} {L : Nat} (hB : B + 2 ≤ 3000) (hn : n ≤ 200) (hL : s.1.2.2.2.2.1.toInt = (L : Int)) (L5 : L ≤ 500) (J : yJ_ s g κ B n σ) (t : fT_ g T m st na tk ca tb F flt σ) (n22 : n22_ T N nr a) (h : qE_ T N g st na nr nl m day RL no nc a σ) : vX11_law (g 0) l1 l2 σ (fun _ u => ∃ T' N', n22_ T' N' nr a ∧ qE_ T' N' g st na nr nl (ab_law l1 l2 s F (m, day, RL) flt).1.1 (ab_law l1 l2 s F (m, day, RL) flt).1.2.1 (ab_law l1 l2 s F (m, day, RL) flt).1.2.2 no nc a u ∧ fT_ g T' (ab_law l1 l2 s F (m, day, RL) flt).1.1 st na tk ca tb F (ab_law l1 l2 s F (m, day, RL) flt).2 u) (fun _ u => ∃ T' N', n22_ T' N' nr a ∧ qE_ T' N' g st na nr nl (ab_law l1 l2 s F (m, day, RL) flt).1.1 (ab_law l1 l2 s F (m, day, RL) flt).1.2.1 (ab_law l1 l2 s F (m, day, RL) flt).1.2.2 no nc a u ∧ fT_ g T' (ab_law l1 l2 s F (m, day, RL) flt).1.1 st na tk ca tb F (ab_law l1 l2 s F (m, day, RL) flt).2 u) := by
  have G6 := yg6 J
  have ids := yG_idx J
  have z1000 : (1000 : Int32).toInt = 1000 := by decide
  have z6 : (6 : Int32).toInt = 6 := by decide
  have m6 := h.2.2.2.2.2.1.2.1
  have no_ : (l1 < 0 ∨ s.1.2.2.2.2.1 < l1 ∨ l2 < 0 ∨ ¬ l2 ≤ 1000) → ∀ u, (u = σ ∨ u = xbump σ) → ∃ T' N', n22_ T' N' nr a ∧ qE_ T' N' g st na nr nl (ab_law l1 l2 s F (m, day, RL) flt).1.1 (ab_law l1 l2 s F (m, day, RL) flt).1.2.1 (ab_law l1 l2 s F (m, day, RL) flt).1.2.2 no nc a u ∧ fT_ g T' (ab_law l1 l2 s F (m, day, RL) flt).1.1 st na tk ca tb F (ab_law l1 l2 s F (m, day, RL) flt).2 u := by
    intro c u hu
    have ea : ab_law l1 l2 s F (m, day, RL) flt = ((m, day, RL), flt) := if_pos c
    rw [ea]
    rcases hu with e | e
    · rw [e]; exact ⟨T, N, n22, h, t⟩
    · rw [e]; exact ⟨T, N, n22, qE_bump h, t⟩
  unfold vX11_law
  intro _ a3 e3 _
  obtain rfl := Option.some.inj (G6.1.symm.trans e3)
  rw [ids.2.2.2.2.1]
  refine vy_within (fun c => ⟨fun _ => ?_, fun x => absurd rfl x⟩) (fun c1 c2 => ⟨fun x => absurd x (by decide), fun _ => ?_⟩)
  · unfold vX11_law_26
    intro _
    refine no_ ?_ _ (.inr rfl)
    rw [ki_z0] at c
    rw [ki_lt, ki_z0, ki_lt]
    by_cases q : l1.toInt < 0
    · exact .inl q
    · exact .inr (.inl (by omega))
  rw [ki_z0] at c1
  refine vy_within (fun c => ⟨fun x => absurd rfl x, fun _ => ?_⟩) (fun c3 c4 => ⟨fun _ _ a13 e13 _ τ1 e1 τ2 e2 a22 e22 _ => ?_, fun x => absurd x (by decide)⟩)
  · unfold vX11_law_26
    intro _
    refine no_ (.inr (.inr ?_)) _ (.inr rfl)
    rw [ki_z0, z1000] at c
    rw [ki_lt, ki_z0, ki_le, z1000]
    by_cases q : l2.toInt < 0
    · exact .inl q
    · exact .inr (by omega)
  rw [ki_z0] at c3
  rw [z1000] at c4
  have ok : ¬ (l1 < 0 ∨ s.1.2.2.2.2.1 < l1 ∨ l2 < 0 ∨ ¬ l2 ≤ 1000) := by
    intro q
    rw [ki_lt, ki_lt, ki_lt, ki_le, ki_z0, z1000] at q
    omega
  clear no_
  obtain rfl := Option.some.inj (G6.1.symm.trans e13)
  have J2 : yJ_ (zt_ s 0) g κ B n τ2 := by rw [e2, e1]; exact yI_si (by decide) (yI_177 (by decide) J)
  have h2 : qE_ T N g st na nr nl m day RL no nc a τ2 := by rw [e2, e1]; exact qE_nW h nW_2 (by decide)
  have t2 : fT_ g T m st na tk ca tb F (-1) τ2 := by
    obtain ⟨t1', t2', t3', t4', t5', t6'⟩ := t
    rw [e2, e1]
    exact ⟨t1', t2', t3', t4', t5', va_up_self _ _ _⟩
  clear e1 e2
  obtain rfl := Option.some.inj ((yg3 J2).1.symm.trans e22)
  have s3 : (xi τ2 18 (g 3)).toInt = (m : Int) := h2.2.2.2.2.2.1.1
  unfold vJx4a65c_size_8abf5
  intro _
  rw [ki_lt, z6, s3]
  refine ⟨fun c5 _ a29 e29 _ => ?_, fun c5 => ?_⟩
  rotate_left
  · have ea : ab_law l1 l2 s F (m, day, RL) flt = ((m, day, RL), -1) := by
      unfold ab_law
      rw [if_neg ok, if_pos (show m = 6 by omega)]
    rw [ea]
    exact ⟨T, N, n22, h2, t2⟩
  obtain rfl := Option.some.inj ((yg7 J2).1.symm.trans e29)
  obtain ⟨n', hn'⟩ : ∃ n : Nat, l1.toInt = (n : Int) := ⟨l1.toInt.toNat, by omega⟩
  have n5 : n' ≤ 500 := by omega
  have ea : ab_law l1 l2 s F (m, day, RL) flt = match p_text F n' 13 0 (t_tok F n' 0) with
      | .inl p => ((m, day, RL), nI p)
      | .inr rs => ((m + 1, upd day m l2, fun i => if i = m then rs else RL i), -1) := by
    unfold ab_law
    rw [if_neg ok, if_neg (show ¬ m = 6 by omega), ki_toN hn']
  rw [ea]
  clear ea
  have C : c0_ F n' (g 7) tk ca (g 6) tb τ2 := by
    obtain ⟨⟨x1, x2, x3, x4⟩, ⟨x5, x6, x7, x8, x9⟩, x10, x11, x12, x13⟩ := t2
    exact ⟨x1, x2, x8, x3, x4, x9, x10.1, fun i hi => x12 i (by omega), n5⟩
  refine jaX5_readText (Q := fun u => yJ_ (zt_ s 0) g κ B n u ∧ cz_ n' (g 7) tk ca τ2 [] (p_text F n' 13 0 (t_tok F n' 0)) u) (fun τ3 hh _ a34 e34 _ => ?_) _ _ _ (jcX5_readText (Q := fun u => yJ_ (zt_ s 0) g κ B n u) (Q' := fun u => cz_ n' (g 7) tk ca τ2 [] (p_text F n' 13 0 (t_tok F n' 0)) u) (fun _ x y => ⟨x, y⟩) _ _ _ (rx_readText J2 (yg7 J2).2 (fun τ3 K3 => K3.1)) (vc_text C hn' (fun u hu => hu)))
  obtain ⟨J3, hz⟩ := hh
  obtain rfl := Option.some.inj ((yg7 J3).1.symm.trans e34)
  have R : rf_ (g 7) tk ca τ2 τ3 := by
    revert hz
    cases p_text F n' 13 0 (t_tok F n' 0) with
    | inl p => exact fun hz => hz.1.1
    | inr rs => exact fun hz => hz.1.1
  have h3 := qE_rf h2 R (fun i hi => (t2.2.2.2.1 i hi).2)
  have t3 := fT_rf t2 R
  clear t2 h2 C t R
  revert hz
  cases ep : p_text F n' 13 0 (t_tok F n' 0) with
  | inl p =>
    intro hz
    obtain ⟨_, b1, b2⟩ := hz
    refine ⟨fun q => absurd q b1, fun _ a67 e67 _ σ70 e70 a74 e74 _ => ?_⟩
    obtain rfl := Option.some.inj ((yg7 J3).1.symm.trans e67)
    refine ⟨T, N, n22, ?_, ?_⟩
    · rw [e70]
      exact qE_nW h3 (W := [219]) ⟨fun f b hf => by
        have h2 : f ≠ 219 := fun e => hf (by rw [e]; exact List.mem_cons_self)
        show (if f = 219 then va_up (τ3.2.1 219) (g 0) _ else τ3.2.1 f) b = τ3.2.1 f b
        rw [if_neg h2], rfl, fun _ _ _ => rfl, rfl, rfl, rfl, rfl⟩ (by decide)
    · obtain ⟨t1', t2', t3', t4', t5', t6'⟩ := t3
      rw [e70]
      refine ⟨t1', t2', t3', t4', t5', ?_⟩
      have e : xi (xsi τ3 219 (g 0) (xi τ3 116 (g 7))) 219 (g 0) = xi τ3 116 (g 7) := va_up_self _ _ _
      rw [e]
      exact nI_ofN b2
  | inr rs =>
    intro hz
    have hz : cX_ n' (g 7) tk ca τ2 τ3 ∧ xi τ3 115 (g 7) = 0 ∧ cC_ (g 7) ca (p_flat rs) τ3 := hz
    obtain ⟨_, b1, b2, b3⟩ := hz
    refine ⟨fun _ a38 e38 _ p hp hpz τ4 e4 _ a47 e47 _ a50 e50 a52 e52 _ => ?_, fun q => absurd b1 q⟩
    obtain rfl := Option.some.inj ((yg3 J3).1.symm.trans e38)
    have ca3 := t3.1.2.1
    have tca3 := t3.2.1.2.1
    have nca3 := t3.2.1.2.2.2.1
    have p0 : p ≠ g 0 := fun e => by have := yg0 J3; rw [← e, hp] at this; omega
    have p7 : g 7 ≠ p := fun e => by have := (yg7 J3).2; rw [e, hp] at this; omega
    have pca : ca ≠ p := fun e => by rw [e, hp] at tca3; omega
    have I4 : yI_ (zt_ s 0) (fun a => False ∨ a = p) g κ (B + 1) n τ4 := by rw [e4]; exact yI_new J3 hp hpz (by decide)
    have F4 : hx_ (fun x => x = g 3) [] τ3 τ4 := by rw [e4]; exact hx_new hx_refl hp
    have tp4 : xt τ4 p = 6 := by rw [e4]; exact va_up_self _ _ _
    have i4 : ∀ f x, x ≠ p → xi τ4 f x = xi τ3 f x := fun f x hx => by rw [e4]; exact va_up_ne _ _ hx
    have aca4 : xai τ4 ca = xai τ3 ca := by rw [e4]; rfl
    clear e4
    obtain rfl := Option.some.inj ((yg7 I4).1.symm.trans e47)
    obtain rfl := Option.some.inj ((yg7 I4).1.symm.trans e52)
    have eca : ca = a50 := by
      have := F4.1.2.1 113 (g 7) (by decide) (by rw [(yg7 J3).2]; decide)
      rw [ca3] at this
      exact Option.some.inj (this.symm.trans e50)
    subst eca
    have v114 : (xi τ4 114 (g 7)).toInt = ((p_flat rs).length : Int) := by rw [i4 114 _ p7]; exact b2
    have h4 := (I4.2.2.2.1 (g 7)).2.2.2.1 (yg7 I4).2
    have k5 : (p_flat rs).length ≤ 500 := by omega
    have tca4 : xt τ4 ca = 20 := fg_tag F4.1 tca3 (by decide)
    have nca4 : xn τ4 ca = 500 := (F4.1.2.2.1 ca (by rw [tca3]; decide)).trans nca3
    refine jaJ7_copyOf_59c91 (Q := fun q τ5 => yI_ (zt_ s 0) (fun a => False ∨ a = p) g κ (B + 1 + 1) n τ5 ∧ (xt τ4 q = 0 ∧ hx_ (fun x => x = g 3) [] τ3 τ5 ∧ xt τ5 q = 20 ∧ xn τ5 q = (p_flat rs).length ∧ (∀ i, i < (p_flat rs).length → xai τ5 q i = xai τ4 ca i) ∧ (∀ f x, xi τ5 f x = xi τ4 f x) ∧ (∀ x, x ≠ q → xt τ5 x = xt τ4 x))) (fun q τ5 hh => ?_) _ _ _ (jcJ7_copyOf_59c91 (Q := fun q τ5 => yI_ (zt_ s 0) (fun a => False ∨ a = p) g κ (B + 1 + 1) n τ5) (Q' := fun q τ5 => xt τ4 q = 0 ∧ hx_ (fun x => x = g 3) [] τ3 τ5 ∧ xt τ5 q = 20 ∧ xn τ5 q = (p_flat rs).length ∧ (∀ i, i < (p_flat rs).length → xai τ5 q i = xai τ4 ca i) ∧ (∀ f x, xi τ5 f x = xi τ4 f x) ∧ (∀ x, x ≠ q → xt τ5 x = xt τ4 x)) (fun _ _ x y => ⟨x, y⟩) _ _ _ (rx_copyOf I4 (by omega) hn tca4 nca4 h4 (fun q τ5 I5 F5 tq5 nq5 i5 => I5)) (vq_copyOf F4 I4.1 tca4 nca4 v114 k5 (fun q τ5 x1 x2 x3 x4 x5 x6 x7 => ⟨x1, x2, x3, x4, x5, x6, x7⟩)))
    obtain ⟨I5, q0, F5, tq5, nq5, aq5, i5, t5⟩ := hh
    have pq : p ≠ q := fun e => by rw [e, q0] at tp4; omega
    have tp5 : xt τ5 p = 6 := (t5 p pq).trans tp4
    have q03 : xt τ3 q = 0 := hx_0 F4 q0
    unfold vX4_init
    intro _ τ6 e6 τ7 e7 _
    have I7' : yI_ (zt_ s 0) (fun a => False ∨ a = p) g κ (B + 1 + 1) n τ7 := by rw [e7, e6]; exact yI_srE (yI_si (by decide) I5) (.inr rfl) (by decide) (by decide) p0
    have F7 : hx_ (fun x => x = g 3) [] τ3 τ7 := by rw [e7, e6]; exact hx_srP (hx_siP F5 hp) hp
    have tp7 : xt τ7 p = 6 := by rw [e7, e6]; exact tp5
    have tq7 : xt τ7 q = 20 := by rw [e7, e6]; exact tq5
    have nq7 : xn τ7 q = (p_flat rs).length := by rw [e7, e6]; exact nq5
    have r7 : xr τ7 97 p = some q := by rw [e7, e6]; exact va_up_self _ _ _
    have v96 : xi τ7 96 p = l2 := by rw [e7, e6]; exact va_up_self _ _ _
    have aq7 : ∀ i, i < (p_flat rs).length → xai τ7 q i = (p_flat rs).getD i 0 := fun i hi => by
      rw [e7, e6]
      show xai τ5 q i = _
      rw [aq5 i hi, aca4]
      exact b3 i hi
    have p3 : g 3 ≠ p := fun e => by have := (yg3 J3).2.1; rw [e, hp] at this; omega
    have s7 : xi τ7 18 (g 3) = xi τ3 18 (g 3) := by
      rw [e7, e6]
      show xi τ5 18 (g 3) = _
      rw [i5, i4 18 _ p3]
    clear e7 e6 i5 t5 aq5 I5 F5
    have I7 : yJ_ (zt_ s 0) g κ (B + 1 + 1) n τ7 := ⟨I7'.1, yP_add I7'.2.1 tp7 (fun x => absurd x (by decide)) (fun x => absurd x (by decide)) (fun x => absurd x (by decide)) (fun _ => ⟨q, r7, tq7, by omega⟩) (fun x => absurd x (by decide)) (by decide), I7'.2.2⟩
    clear I7'
    have G3 := yg3 I7
    have sg : (xi τ7 18 (g 3)).toInt = (m : Int) := by rw [s7]; exact h3.2.2.2.2.2.1.1
    have bl : (xi τ7 18 (g 3)).toInt < (ylb g (g 3) : Int) := by
      have : ylb g (g 3) ≥ 100 := by unfold ylb; split <;> omega
      omega
    refine jaJx4a65c_add_9ea2d (Q := fun _ u => ya_ (g 3) p τ7 u ∧ ∀ b, xt τ7 b ≠ 0 → xt u b = xt τ7 b ∧ xai u b = xai τ7 b) (fun _ u hh _ a62 e62 _ _ => ?_) _ _ _ (jcJx4a65c_add_9ea2d (Q := fun _ u => ya_ (g 3) p τ7 u) (Q' := fun _ u => ∀ b, xt τ7 b ≠ 0 → xt u b = xt τ7 b ∧ xai u b = xai τ7 b) (fun _ _ x y => ⟨x, y⟩) _ _ _ (ry_add I7.1 (by omega) hn G3.2.1 (by rw [tp7, G3.2.2]) bl (fun _ _ A => A)) vy_xai)
    obtain ⟨A, XA⟩ := hh
    have Fu : hx_ (fun x => x = g 3) [] τ3 u := hx_ya F7 A rfl (by omega) (fun b hb => (XA b hb).2)
    obtain ⟨Q0, Q22⟩ := qE_q0 J3 h3
    obtain ⟨f0, f1, f2, f3, f4, f7, fj, f6, fb, f5⟩ := h3
    have ne3 : ∀ x, κ x ≠ 6 → ¬ x = g 3 := fun x hx e => hx (by rw [e]; exact (yg3 J3).2.2)
    have nn : ∀ f ∈ ([] : List Nat), ∀ L : List Nat, f ∉ L := fun f hf => absurd hf (List.not_mem_nil)
    have r1 := q1_hx f1 Fu (yg1 J3).2.1 (ne3 _ (by rw [(yg1 J3).2.2]; decide)) (fun r hr => ne3 _ (by rw [(Q0.2.2.1 r hr).1]; decide)) (fun f hf => nn f hf _)
    have r2 := q2_hx f2 f1 Fu (fun f hf => nn f hf _)
    have r3 := q3_hx f3 Fu (fun k hk => ne3 _ (by rw [(Q0.1 k hk).1]; decide))
    have r4 := q4_hx f4 Fu (yg2 J3).2.1 (ne3 _ (by rw [(yg2 J3).2.2]; decide)) (fun f hf => nn f hf _)
    have r5 := q5_hx f5 Fu (yg4 J3).2.1 (ne3 _ (by rw [(yg4 J3).2.2]; decide)) (List.not_mem_nil)
    have r6 := q6_hx f6 Fu (yg5 J3).2.1 (ne3 _ (by rw [(yg5 J3).2.2]; decide)) (fun r hr hb => ne3 _ (by rw [(Q22 r hr hb).1]; decide)) (fun f hf => nn f hf _)
    have rj := qj_hx fj Fu
    have rb : xi u 218 (g 0) = a.1 6 0 := by rw [Fu.2.1 218 _ (List.not_mem_nil) (by decide) (by decide) (by rw [yg0 J3]; decide)]; exact fb
    have tu := fT_hx t3 Fu (by rw [yg0 J3]; decide) (by rw [(yg6 J3).2]; decide) (by rw [(yg7 J3).2]; decide) (List.not_mem_nil)
    have wt : ∀ x, xt τ7 x ≠ 0 → xt u x = xt τ7 x := fun x hx => A.1.1 x hx
    have ex := A.2.2.2.2.2.2.1
    rw [ki_toN sg] at ex
    refine ⟨t8_ (t8_ T 6 m p) 20 m q, N, n22, ⟨f0, r1, r2, r3, r4, ⟨?_, by show m + 1 ≤ 6; omega, fun i hi => ?_⟩, rj, r6, rb, r5⟩, ?_⟩
    · show (xi u 18 (g 3)).toInt = ((m + 1 : Nat) : Int)
      rw [A.2.2.2.1, va_up_self]
      exact ki_addN sg ki_z1 (by omega)
    · have hi : i < m + 1 := hi
      show (xe u (g 3) i = some (va_up (T 6) m p i) ∧ xt u (va_up (T 6) m p i) = 6) ∧ xi u 96 (va_up (T 6) m p i) = upd day m l2 i ∧ (lc_ (va_up (T 6) m p i) (va_up (T 20) m q i) (p_flat (if i = m then rs else RL i)) u ∧ xt u (va_up (T 20) m q i) = 20) ∧ va_up (T 20) m q i ≠ st ∧ va_up (T 20) m q i ≠ na ∧ ∀ x ∈ (if i = m then rs else RL i), ed_ 33 x.2 0 1
      by_cases c : i = m
      · rw [c, va_up_self, va_up_self, w_updS, if_pos rfl]
        have qst : q ≠ st := fun e => by have := fj.2.2.1; rw [← e, q03] at this; omega
        have qna : q ≠ na := fun e => by have := fj.2.2.2; rw [← e, q03] at this; omega
        refine ⟨⟨ex, (wt p (by rw [tp7]; decide)).trans tp7⟩, by rw [A.2.2.1 96 (by decide) (by decide)]; exact v96, ⟨⟨by rw [A.2.2.2.2.1 97 (by decide)]; exact r7, ?_, k5, fun i hi => ?_⟩, (wt q (by rw [tq7]; decide)).trans tq7⟩, qst, qna, pe_text (n := n') (f := F) 13 0 _ rs ⟨0, Nat.zero_le _, rfl⟩ ep⟩
        · rw [A.1.2.2.1 q (by rw [tq7]; decide)]
          exact nq7
        · rw [(XA q (by rw [tq7]; decide)).2]
          exact aq7 i hi
      · rw [va_up_ne _ _ c, va_up_ne _ _ c, w_updN c, if_neg c]
        obtain ⟨⟨a1, a2⟩, a3, ⟨⟨b1', b2', b3', b4'⟩, b5'⟩, a4, a5, a6⟩ := f7.2.2 i (by omega)
        have s3' := f7.1
        have o6 : xt τ3 (T 6 i) ≠ 0 := by rw [a2]; decide
        have o20 : xt τ3 (T 20 i) ≠ 0 := by rw [b5']; decide
        refine ⟨⟨by rw [(Fu.2.2.2.1 (g 3) (yg3 J3).2.1).2 i (by omega)]; exact a1, fg_tag Fu.1 a2 (by decide)⟩, by rw [Fu.2.1 96 _ (List.not_mem_nil) (by decide) (by decide) o6]; exact a3, ⟨⟨by rw [Fu.1.2.1 97 _ (by decide) o6]; exact b1', by rw [Fu.1.2.2.1 _ o20]; exact b2', b3', fun j hj => by rw [Fu.2.2.2.2 _ o20]; exact b4' j hj⟩, fg_tag Fu.1 b5' (by decide)⟩, a4, a5, a6⟩
    · obtain ⟨x1, x2, x3, x4, x5, x6⟩ := tu
      refine ⟨x1, x2, x3, fun i hi => ?_, x5, x6⟩
      have hi : i < m + 1 := hi
      show va_up (T 20) m q i ≠ tb ∧ va_up (T 20) m q i ≠ ca
      by_cases c : i = m
      · rw [c, va_up_self]
        exact ⟨fun e => by have := t3.2.1.2.2.1; rw [← e, q03] at this; omega, fun e => by rw [← e, q03] at tca3; omega⟩
      · rw [va_up_ne _ _ c]
        exact x4 i (by omega)
end
end
section
/-! what the calls keep of the abstract river -/
theorem sp_int {r : Int32} {s : sz_T} {nr : Nat} (hs : s.1.1.toInt = (nr : Int)) (h : z_is r s) : r.toInt = (r.toNatClampNeg : Int) ∧ r.toNatClampNeg < nr := by
  have h1 := h.1
  have h2 := h.2
  rw [ki_nat]
  omega
section
variable {nr nl nc : Nat} {now : Int32} {a : ra_T} {s : sz_T}
theorem pk_dam {r v : Int32} (hs : s.1.1.toInt = (nr : Int)) (K : aK_ nr nl nc now 0 a) (Z : zi_ nr nl a) : aK_ nr nl nc now 0 (ab_dam r v s a) ∧ zi_ nr nl (ab_dam r v s a) := by
  unfold ab_dam
  split
  · next h =>
    obtain ⟨e, hq⟩ := sp_int hs h.1
    generalize r.toNatClampNeg = q at *
    refine ⟨⟨⟨ao_same K.1.1 rfl rfl rfl rfl rfl rfl rfl, K.1.2⟩, K.2⟩, Z.1, Z.2.1, wk_same Z.2.2.1 rfl rfl rfl, fun x hx => ?_⟩
    obtain ⟨z1, z2, z3⟩ := Z.2.2.2 x hx
    exact ⟨(w_updN (by omega)).trans z1, z2, z3⟩
  · exact ⟨K, Z⟩
theorem pk_watch {r v : Int32} (hs : s.1.1.toInt = (nr : Int)) (K : aK_ nr nl nc now 0 a) (Z : zi_ nr nl a) : aK_ nr nl nc now 0 (ab_watch r v s a) ∧ zi_ nr nl (ab_watch r v s a) := by
  unfold ab_watch
  split
  · next h =>
    obtain ⟨e, hq⟩ := sp_int hs h
    generalize r.toNatClampNeg = q at *
    refine ⟨⟨⟨ao_same K.1.1 rfl rfl rfl rfl rfl rfl rfl, K.1.2⟩, K.2⟩, Z.1, Z.2.1, wk_same Z.2.2.1 rfl rfl rfl, fun x hx => ?_⟩
    obtain ⟨z1, z2, z3⟩ := Z.2.2.2 x hx
    exact ⟨z1, z2, (w_updN (by omega)).trans z3⟩
  · exact ⟨K, Z⟩
theorem pk_boom {r mk v : Int32} (hs : s.1.1.toInt = (nr : Int)) (K : aK_ nr nl nc now 0 a) (Z : zi_ nr nl a) : aK_ nr nl nc now 0 (ab_boom r mk v s a) ∧ zi_ nr nl (ab_boom r mk v s a) := by
  unfold ab_boom
  split
  · next h =>
    obtain ⟨e, hq⟩ := sp_int hs h.1
    have z100 : (100 : Int32).toInt = 100 := by decide
    have hv : v.toInt ≤ 100 := by
      have h2 := h.2
      rw [ki_lt, ki_le, ki_z1, z100] at h2
      omega
    generalize r.toNatClampNeg = q at *
    refine ⟨⟨⟨ao_same K.1.1 rfl rfl rfl rfl rfl rfl rfl, K.1.2.1, fun x hx hz => ?_⟩, K.2⟩, fun x hx hz => ?_, Z.2.1, wk_same Z.2.2.1 rfl rfl rfl, fun x hx => ?_⟩
    · have hz : ¬ upd (a.1 22) q 1 x = 0 := hz
      show (upd (a.1 28) q v x).toInt ≤ 100
      by_cases c : x = q
      · rw [c, w_updS]
        exact hv
      · rw [w_updN c] at hz ⊢
        exact K.1.2.2 x hx hz
    · have hz : upd (a.1 22) q 1 x = 0 := hz
      by_cases c : x = q
      · rw [c, w_updS] at hz
        exact absurd hz (by decide)
      · rw [w_updN c] at hz
        exact Z.1 x hx hz
    · obtain ⟨z1, z2, z3⟩ := Z.2.2.2 x hx
      exact ⟨z1, (w_updN (by omega)).trans z2, z3⟩
  · exact ⟨K, Z⟩
theorem pk_order {r mk z w : Int32} (K : aK_ nr nl nc now 0 a) (Z : zi_ nr nl a) : aK_ nr nl nc now 0 (ab_order r mk z w s a) ∧ zi_ nr nl (ab_order r mk z w s a) := by
  unfold ab_order
  split
  · exact ⟨⟨⟨ao_same K.1.1 rfl rfl rfl rfl rfl rfl rfl, K.1.2⟩, K.2⟩, Z.1, Z.2.1, wk_same Z.2.2.1 rfl rfl rfl, Z.2.2.2⟩
  · exact ⟨K, Z⟩
theorem co_come {k : Nat} {r : Int32} (h : 0 ≤ r.toInt ∧ r.toInt < (nr : Int)) (hk : k < nc) (C : co_ nr nc now 0 a) : co_ nr nc now 0 (ab_come r now k a) := by
  obtain ⟨n1, n2⟩ := C
  refine ⟨n1, fun j hj => ?_⟩
  obtain ⟨c1, c2, c3, c4⟩ := n2 j hj
  have e44 : (ab_come r now k a).1 44 j = (if j = k then r else a.1 44 j) := by
    unfold ab_come
    by_cases c : j = k
    · rw [if_pos c, c]
      exact w_updS
    · rw [if_neg c]
      refine (w_updN c).trans ?_
      split
      · rfl
      · rfl
  have e45 : (ab_come r now k a).1 45 j = (if j = k ∧ ¬ a.1 44 k = r then now else a.1 45 j) := by
    unfold ab_come
    by_cases d : a.1 44 k = r
    · rw [if_pos d, if_neg (fun q => q.2 d)]
      rfl
    · rw [if_neg d]
      by_cases c : j = k
      · rw [if_pos ⟨c, d⟩, c]
        exact (w_updS : upd (a.1 45) k now k = now)
      · rw [if_neg (fun q => c q.1)]
        exact (w_updN c : upd (a.1 45) k now j = a.1 45 j)
  have e46 : (ab_come r now k a).1 46 j = a.1 46 j := by
    unfold ab_come
    split
    · rfl
    · rfl
  rw [e44, e45, e46]
  refine ⟨?_, ?_, c3, c4⟩
  · split
    · exact h
    · exact c1
  · split
    · omega
    · exact c2
theorem come_o {k f : Nat} {r : Int32} (h1 : f ≠ 44) (h2 : f ≠ 45) : (ab_come r now k a).1 f = a.1 f := by
  unfold ab_come
  rw [fs_n h1]
  split
  · rfl
  · exact fs_n h2
theorem come_2 {k : Nat} {r : Int32} : (ab_come r now k a).2 = a.2 := by
  unfold ab_come
  show (if a.1 44 k = r then a else fs_ a 45 k now).2 = a.2
  split
  · rfl
  · rfl
theorem pk_come {k nc' : Nat} {r : Int32} {b : ra_T} (e : ∀ f, f ≠ 44 → f ≠ 45 → f ≠ 46 → b.1 f = a.1 f) (e2 : b.2 = a.2) (K : aK_ nr nl nc now 0 a) (Z : zi_ nr nl a) (C : co_ nr nc' now 0 (ab_come r now k b)) : aK_ nr nl nc' now 0 (ab_come r now k b) ∧ zi_ nr nl (ab_come r now k b) := by
  have E : ∀ f, f ≠ 44 → f ≠ 45 → f ≠ 46 → (ab_come r now k b).1 f = a.1 f := fun f h1 h2 h3 => (come_o h1 h2).trans (e f h1 h2 h3)
  have E2 : (ab_come r now k b).2 = a.2 := come_2.trans e2
  refine ⟨⟨⟨ao_same K.1.1 (E 14 (by decide) (by decide) (by decide)) (E 15 (by decide) (by decide) (by decide)) (E 13 (by decide) (by decide) (by decide)) (E 38 (by decide) (by decide) (by decide)) (E 39 (by decide) (by decide) (by decide)) (E 40 (by decide) (by decide) (by decide)) E2, rsz_same K.1.2.1 E2, ?_⟩, ?_, C⟩, zi_same Z (fun f hf => E f (by intro q; rw [q] at hf; exact absurd hf (by decide)) (by intro q; rw [q] at hf; exact absurd hf (by decide)) (by intro q; rw [q] at hf; exact absurd hf (by decide))) (fun r _ _ h => by rw [E2]; exact h)⟩
  · rw [E 22 (by decide) (by decide) (by decide), E 28 (by decide) (by decide) (by decide)]
    exact K.1.2.2
  · rw [E 38 (by decide) (by decide) (by decide)]
    exact K.2.1
theorem pk_crew {k r : Int32} (hs : s.1.1.toInt = (nr : Int)) (hc : s.1.2.2.1.toInt = (nc : Int)) (hnow : s.1.2.2.2.2.2 = now) (K : aK_ nr nl nc now 0 a) (Z : zi_ nr nl a) : aK_ nr nl (if z_is r s ∧ k = -1 ∧ ¬ s.1.2.2.1 = 6 then nc + 1 else nc) now 0 (ab_crew k r s a) ∧ zi_ nr nl (ab_crew k r s a) := by
  unfold ab_crew
  rw [hnow]
  by_cases hz : z_is r s
  · obtain ⟨e, hq⟩ := sp_int hs hz
    have hr : 0 ≤ r.toInt ∧ r.toInt < (nr : Int) := by omega
    rw [if_pos hz]
    by_cases d : k = -1
    · rw [if_pos d]
      by_cases e6 : s.1.2.2.1 = 6
      · rw [if_pos e6, if_neg (fun q => q.2.2 e6)]
        exact ⟨K, Z⟩
      · rw [if_neg e6, if_pos ⟨hz, d, e6⟩, ki_toN hc]
        have zm5 : (-5 : Int32).toInt = -5 := by decide
        refine pk_come (a := a) (fun f h1 h2 h3 => by rw [fs_n h3, fs_n h1]) rfl K Z ?_
        obtain ⟨n1, n2⟩ := K.2.2
        unfold ab_come
        have e44 : ¬ (fs_ (fs_ a 44 nc (-1)) 46 nc (-5)).1 44 nc = r := by
          have e : (fs_ (fs_ a 44 nc (-1)) 46 nc (-5)).1 44 nc = -1 := w_updS
          rw [e]
          intro x
          rw [← x, ki_zm] at hr
          omega
        rw [if_neg e44]
        refine ⟨n1, fun j hj => ?_⟩
        by_cases c : j = nc
        · have x44 : (fs_ (fs_ (fs_ (fs_ a 44 nc (-1)) 46 nc (-5)) 45 nc now) 44 nc r).1 44 j = r := by rw [c]; exact w_updS
          have x45 : (fs_ (fs_ (fs_ (fs_ a 44 nc (-1)) 46 nc (-5)) 45 nc now) 44 nc r).1 45 j = now := by rw [c]; exact w_updS
          have x46 : (fs_ (fs_ (fs_ (fs_ a 44 nc (-1)) 46 nc (-5)) 45 nc now) 44 nc r).1 46 j = -5 := by rw [c]; exact w_updS
          rw [x44, x45, x46, zm5]
          omega
        · have x44 : (fs_ (fs_ (fs_ (fs_ a 44 nc (-1)) 46 nc (-5)) 45 nc now) 44 nc r).1 44 j = a.1 44 j := (w_updN c).trans (w_updN c)
          have x45 : (fs_ (fs_ (fs_ (fs_ a 44 nc (-1)) 46 nc (-5)) 45 nc now) 44 nc r).1 45 j = a.1 45 j := w_updN c
          have x46 : (fs_ (fs_ (fs_ (fs_ a 44 nc (-1)) 46 nc (-5)) 45 nc now) 44 nc r).1 46 j = a.1 46 j := w_updN c
          rw [x44, x45, x46]
          exact n2 j (by omega)
    · rw [if_neg d, if_neg (fun q => d q.2.1)]
      by_cases c : k < -1 ∨ s.1.2.2.1 ≤ k
      · rw [if_pos c]
        exact ⟨K, Z⟩
      · rw [if_neg c]
        rw [ki_lt, ki_zm, ki_le, hc] at c
        have d' : k.toInt ≠ -1 := fun x => d (ki_eq.2 (x.trans ki_zm.symm))
        refine pk_come (a := a) (fun _ _ _ _ => rfl) rfl K Z (co_come hr ?_ K.2.2)
        rw [ki_nat]
        omega
  · rw [if_neg hz, if_neg (fun q => hz q.1)]
    exact ⟨K, Z⟩
theorem pk_cut {mk z t : Int32} (hl : s.1.2.1.toInt = (nl : Int)) (K : aK_ nr nl nc now 0 a) (Z : zi_ nr nl a) : aK_ nr (if s.1.2.1 = 400 ∨ mk < 0 ∨ 15 < mk ∨ z < 1 ∨ 9 < z ∨ t < 0 ∨ ¬ t ≤ 1000000 then nl else nl + 1) nc now 0 (ab_cut mk z t s a) ∧ zi_ nr (if s.1.2.1 = 400 ∨ mk < 0 ∨ 15 < mk ∨ z < 1 ∨ 9 < z ∨ t < 0 ∨ ¬ t ≤ 1000000 then nl else nl + 1) (ab_cut mk z t s a) := by
  unfold ab_cut
  split
  · exact ⟨K, Z⟩
  · rw [ki_toN hl]
    obtain ⟨⟨⟨A1, A2, A3, A4, A5, A6⟩, S, R⟩, N1, C⟩ := K
    have e38 : (fs_ (fs_ (fs_ (fs_ (fs_ (fs_ (fs_ a 35 nl mk) 36 nl z) 37 nl t) 38 nl 0) 39 nl (-1)) 40 nl (-1)) 42 nl (-1)).1 38 = upd (a.1 38) nl 0 := rfl
    have e39 : (fs_ (fs_ (fs_ (fs_ (fs_ (fs_ (fs_ a 35 nl mk) 36 nl z) 37 nl t) 38 nl 0) 39 nl (-1)) 40 nl (-1)) 42 nl (-1)).1 39 = upd (a.1 39) nl (-1) := rfl
    have e40 : (fs_ (fs_ (fs_ (fs_ (fs_ (fs_ (fs_ a 35 nl mk) 36 nl z) 37 nl t) 38 nl 0) 39 nl (-1)) 40 nl (-1)) 42 nl (-1)).1 40 = upd (a.1 40) nl (-1) := rfl
    refine ⟨⟨⟨⟨A1, fun k g hg => ⟨Nat.lt_succ_of_lt (A2 k g hg).1, (A2 k g hg).2⟩, A3, fun r c hr hc => ⟨(A4 r c hr hc).1, fun g hg => ?_⟩, fun r hr => ⟨(A5 r hr).1, fun g hg => ?_⟩, fun g hg h1 => ?_⟩, S, R⟩, fun x hx => ?_, C⟩, Z.1, fun x hx => Z.2.1 x (by omega), wk_same Z.2.2.1 rfl rfl rfl, Z.2.2.2⟩
    · have ne : g ≠ nl := Nat.ne_of_lt (A2 _ g hg).1
      rw [e38, e39, e40, w_updN ne, w_updN ne, w_updN ne]
      exact (A4 r c hr hc).2 g hg
    · have ne : g ≠ nl := Nat.ne_of_lt (A2 _ g hg).1
      rw [e38, e39, w_updN ne, w_updN ne]
      exact (A5 r hr).2 g hg
    · rw [e38] at h1
      have ne : g ≠ nl := fun e => by rw [e, w_updS] at h1; exact absurd h1 (by decide)
      rw [w_updN ne] at h1
      exact A6 g (by omega) h1
    · rw [e38, w_updN (by omega)]
      exact N1 x (by omega)
theorem pk_reach {nx ln cr jm : Int32} (hs : s.1.1.toInt = (nr : Int)) (h10 : nr ≤ 10) (K : aK_ nr nl nc now 0 a) (Z : zi_ nr nl a) : aK_ (if s.1.1 = 10 ∨ nx < -1 ∨ s.1.1 ≤ nx ∨ ln < 1 ∨ 12 < ln ∨ cr < 1 ∨ 20 < cr ∨ jm < 0 ∨ ¬ jm ≤ 1000 then nr else nr + 1) nl nc now 0 (ab_reach nx ln cr jm s a) ∧ zi_ (if s.1.1 = 10 ∨ nx < -1 ∨ s.1.1 ≤ nx ∨ ln < 1 ∨ 12 < ln ∨ cr < 1 ∨ 20 < cr ∨ jm < 0 ∨ ¬ jm ≤ 1000 then nr else nr + 1) nl (ab_reach nx ln cr jm s a) := by
  unfold ab_reach
  split
  · exact ⟨K, Z⟩
  · next ok =>
    have z10 : (10 : Int32).toInt = 10 := by decide
    have z12 : (12 : Int32).toInt = 12 := by decide
    have z20 : (20 : Int32).toInt = 20 := by decide
    rw [ki_toN hs]
    have n10 : nr < 10 := by
      have : ¬ s.1.1 = 10 := fun q => ok (.inl q)
      rw [ki_eq, hs, z10] at this
      omega
    have n1 : ¬ nx < -1 := fun q => ok (.inr (.inl q))
    have n2 : ¬ s.1.1 ≤ nx := fun q => ok (.inr (.inr (.inl q)))
    have n3 : ¬ ln < 1 := fun q => ok (.inr (.inr (.inr (.inl q))))
    have n4 : ¬ 12 < ln := fun q => ok (.inr (.inr (.inr (.inr (.inl q)))))
    have n5 : ¬ cr < 1 := fun q => ok (.inr (.inr (.inr (.inr (.inr (.inl q))))))
    have n6 : ¬ 20 < cr := fun q => ok (.inr (.inr (.inr (.inr (.inr (.inr (.inl q)))))))
    clear ok
    rw [ki_lt, ki_zm] at n1
    rw [ki_le, hs] at n2
    rw [ki_lt, ki_z1] at n3 n5
    rw [ki_lt, z12] at n4
    rw [ki_lt, z20] at n6
    obtain ⟨⟨⟨A1, A2, A3, A4, A5, A6⟩, S, R⟩, N1, C⟩ := K
    have lnS : ln_ (fs_ (fs_ (fs_ (fs_ a 13 nr nx) 14 nr ln) 15 nr cr) 16 nr jm) nr = ln.toNatClampNeg := by
      show (upd (a.1 14) nr ln nr).toNatClampNeg = _
      rw [w_updS]
    have lnN : ∀ r, r ≠ nr → ln_ (fs_ (fs_ (fs_ (fs_ a 13 nr nx) 14 nr ln) 15 nr cr) 16 nr jm) r = ln_ a r := fun r hr => by
      show (upd (a.1 14) nr ln r).toNatClampNeg = _
      rw [w_updN hr]
      rfl
    have e15 : (fs_ (fs_ (fs_ (fs_ a 13 nr nx) 14 nr ln) 15 nr cr) 16 nr jm).1 15 = upd (a.1 15) nr cr := rfl
    have e13 : (fs_ (fs_ (fs_ (fs_ a 13 nr nx) 14 nr ln) 15 nr cr) 16 nr jm).1 13 = upd (a.1 13) nr nx := rfl
    have z2 : ∀ c, c < 12 → a.2 (12 * nr + c) = [] := by
      intro d hd
      refine List.eq_nil_iff_forall_not_mem.2 (fun x hx => ?_)
      rcases (A2 _ x hx).2 with ⟨r, d', y1, y2, y3⟩ | ⟨r, y1, y3⟩
      · have := (A1 r y1).1
        omega
      · omega
    have z3 : a.2 (120 + nr) = [] := by
      refine List.eq_nil_iff_forall_not_mem.2 (fun x hx => ?_)
      rcases (A2 _ x hx).2 with ⟨r, d', y1, y2, y3⟩ | ⟨r, y1, y3⟩
      · have := (A1 r y1).1
        omega
      · omega
    have ln12 : ln.toNatClampNeg ≤ 12 ∧ 1 ≤ ln.toNatClampNeg := by rw [ki_nat]; omega
    refine ⟨⟨⟨⟨fun r hr => ?_, fun k g hg => ⟨(A2 k g hg).1, ?_⟩, A3, fun r c hr hc => ?_, fun r hr => ?_, fun g hg h1 => ?_⟩, S, fun r hr hz => ?_⟩, N1, ?_⟩, Z.1, Z.2.1, fun r c hr hc hn => ?_, fun r hr => Z.2.2.2 r (by omega)⟩
    · by_cases c : r = nr
      · rw [c, lnS, e15, e13, w_updS, w_updS]
        omega
      · rw [lnN r c, e15, e13, w_updN c, w_updN c]
        exact A1 r (by omega)
    · rcases (A2 k g hg).2 with ⟨r, d, y1, y2, y3⟩ | ⟨r, y1, y3⟩
      · exact .inl ⟨r, d, by omega, by rw [lnN r (by omega)]; exact y2, y3⟩
      · exact .inr ⟨r, by omega, y3⟩
    · by_cases d : r = nr
      · rw [d, lnS] at hc
        have e : a.2 (12 * r + c) = [] := by rw [d]; exact z2 c (by omega)
        show ((a.2 (12 * r + c)).length : Int) ≤ _ ∧ ∀ g, g ∈ a.2 (12 * r + c) → _
        rw [e, d, e15, w_updS]
        refine ⟨?_, fun g hg => absurd hg (List.not_mem_nil)⟩
        show (0 : Int) ≤ _
        omega
      · rw [lnN r d] at hc
        rw [e15, w_updN d]
        exact A4 r c (by omega) hc
    · by_cases d : r = nr
      · have e : a.2 (120 + r) = [] := by rw [d]; exact z3
        show ((a.2 (120 + r)).length : Int) ≤ 100 ∧ ∀ g, g ∈ a.2 (120 + r) → _
        rw [e]
        exact ⟨by show (0 : Int) ≤ 100; decide, fun g hg => absurd hg (List.not_mem_nil)⟩
      · exact A5 r (by omega)
    · obtain ⟨r, c, y1, y2, y3⟩ := A6 g hg h1
      exact ⟨r, c, by omega, by rw [lnN r (by omega)]; exact y2, y3⟩
    · have hz : ¬ a.1 22 r = 0 := hz
      have : r ≠ nr := fun e => hz (by rw [e]; exact (Z.2.2.2 nr (Nat.le_refl _)).2.1)
      exact R r (by omega) hz
    · obtain ⟨c1, c2⟩ := C
      refine ⟨c1, fun k hk => ?_⟩
      obtain ⟨⟨d1, d2⟩, d3⟩ := c2 k hk
      exact ⟨⟨d1, Int.lt_trans d2 (by omega)⟩, d3⟩
    · refine Z.2.2.1 r c hr hc (fun q => hn ⟨by omega, ?_⟩)
      rw [lnN r (by omega)]
      exact q.2
theorem pk_take {x q p : Nat} (h10 : nr ≤ 10) (hx : x < nl) (hq : q < nr) (hp : p < ln_ a q) (h0 : a.1 38 x = 0) (ho : a_open a q p = true) (K : aK_ nr nl nc now 0 a) (Z : zi_ nr nl a) : aK_ nr nl nc now 0 (a_take a x q p) ∧ zi_ nr nl (a_take a x q p) := by
  obtain ⟨⟨⟨A1, A2, A3, A4, A5, A6⟩, S, R⟩, N1, C⟩ := K
  have ho' := a_openT.1 ho
  have p12 := (A1 q hq).1
  have c20 := (A1 q hq).2.2.1.2
  have e38 : (a_take a x q p).1 38 = upd (a.1 38) x 1 := rfl
  have e39 : (a_take a x q p).1 39 = upd (a.1 39) x (nI q) := rfl
  have e40 : (a_take a x q p).1 40 = upd (a.1 40) x (nI p) := rfl
  have k2s : (a_take a x q p).2 (12 * q + p) = a.2 (12 * q + p) ++ [x] := if_pos rfl
  have k2n : ∀ k, k ≠ 12 * q + p → (a_take a x q p).2 k = a.2 k := fun k hk => if_neg hk
  have nx1 : ∀ g, a.1 38 g = 1 → g ≠ x := fun g h e => by rw [e, h0] at h; exact absurd h (by decide)
  have nx2 : ∀ g, a.1 38 g = 2 → g ≠ x := fun g h e => by rw [e, h0] at h; exact absurd h (by decide)
  have xl : x ∉ a.2 (12 * q + p) := fun h => nx1 x ((A4 q p hq hp).2 x h).1 rfl
  have el : ∀ r, ln_ (a_take a x q p) r = ln_ a r := fun r => rfl
  have el12 : ∀ r, r < nr → ln_ a r ≤ 12 := fun r hr => (A1 r hr).1
  refine ⟨⟨⟨⟨A1, fun k g hg => ?_, fun k => ?_, fun r c hr hc => ?_, fun r hr => ?_, fun g hg h1 => ?_⟩, ⟨fun j hj => ?_, fun j hj => ?_⟩, R⟩, fun y hy => ?_, C⟩, zi_same Z (fun f hf => ?_) (fun r hr _ h => by rw [k2n _ (by omega)]; exact h)⟩
  · by_cases c : k = 12 * q + p
    · rw [c, k2s] at hg
      rcases List.mem_append.1 hg with h | h
      · exact ⟨(A2 _ g h).1, by rw [c]; exact (A2 _ g h).2⟩
      · have : g = x := List.mem_singleton.1 h
        rw [this]
        exact ⟨hx, .inl ⟨q, p, hq, hp, c⟩⟩
    · rw [k2n k c] at hg
      exact A2 k g hg
  · by_cases c : k = 12 * q + p
    · rw [c, k2s]
      refine List.nodup_append.2 ⟨A3 _, List.nodup_cons.2 ⟨List.not_mem_nil, List.nodup_nil⟩, fun y hy z hz e => ?_⟩
      have : z = x := List.mem_singleton.1 hz
      exact xl (by rw [← this, ← e]; exact hy)
    · rw [k2n k c]
      exact A3 k
  · have hc : c < ln_ a r := hc
    have r12 := el12 r hr
    have s12 := el12 q hq
    obtain ⟨b1, b2⟩ := A4 r c hr hc
    show (((a_take a x q p).2 (12 * r + c)).length : Int) ≤ (a.1 15 r).toInt ∧ _
    rw [e38, e39, e40]
    have old : ∀ g, g ∈ a.2 (12 * r + c) → upd (a.1 38) x 1 g = 1 ∧ (upd (a.1 39) x (nI q) g).toInt = (r : Int) ∧ (upd (a.1 40) x (nI p) g).toInt = (c : Int) := fun g hg => by
      have ne := nx1 g (b2 g hg).1
      rw [w_updN ne, w_updN ne, w_updN ne]
      exact b2 g hg
    by_cases d : 12 * r + c = 12 * q + p
    · have er : r = q := by omega
      have ec : c = p := by omega
      subst er
      subst ec
      rw [k2s]
      refine ⟨?_, fun g hg => ?_⟩
      · rw [List.length_append]
        have := ho'.1
        show ((_ + 1 : Nat) : Int) ≤ _
        omega
      · rcases List.mem_append.1 hg with h | h
        · exact old g h
        · have : g = x := List.mem_singleton.1 h
          rw [this, w_updS, w_updS, w_updS]
          exact ⟨rfl, t_nI (by omega), t_nI (by omega)⟩
    · rw [k2n _ d]
      exact ⟨b1, old⟩
  · rw [k2n _ (by omega)]
    obtain ⟨b1, b2⟩ := A5 r hr
    refine ⟨b1, fun g hg => ?_⟩
    have ne := nx2 g (b2 g hg).1
    rw [e38, e39, w_updN ne, w_updN ne]
    exact b2 g hg
  · rw [e38] at h1
    by_cases c : g = x
    · exact ⟨q, p, hq, hp, by rw [k2s, c]; exact List.mem_append.2 (.inr (List.mem_singleton.2 rfl))⟩
    · rw [w_updN c] at h1
      obtain ⟨r, d, y1, y2, y3⟩ := A6 g hg h1
      refine ⟨r, d, y1, y2, ?_⟩
      by_cases e : 12 * r + d = 12 * q + p
      · rw [e, k2s]
        rw [e] at y3
        exact List.mem_append.2 (.inl y3)
      · rw [k2n _ e]
        exact y3
  · by_cases c : j = 12 * q + p
    · rw [c, k2s, List.length_append]
      have := ho'.1
      show _ + 1 ≤ 20
      omega
    · rw [k2n j c]
      exact S.1 j hj
  · rw [k2n _ (by omega)]
    exact S.2 j hj
  · rw [e38, w_updN (by omega)]
    exact N1 y hy
  · have h38 : f ≠ 38 := fun e => by rw [e] at hf; exact absurd hf (by decide)
    have h39 : f ≠ 39 := fun e => by rw [e] at hf; exact absurd hf (by decide)
    have h40 : f ≠ 40 := fun e => by rw [e] at hf; exact absurd hf (by decide)
    exact (fs_n h40).trans ((fs_n h39).trans (fs_n h38))
theorem pk_let {m : Nat} {day : Nat → Int32} {RL : Nat → List (Bool × List Int32)} {l r c x : Int32} {b : ra_T} (h10 : nr ≤ 10) (K : aK_ nr nl nc now 0 a) (Z : zi_ nr nl a) (h : an_let nr nl a day m RL now l r c = some (x, b)) : (aK_ nr nl nc now 0 b ∧ zi_ nr nl b) ∧ b.1 22 = a.1 22 := by
  unfold an_let at h
  split at h
  · next hz =>
    obtain ⟨h1, h2, h3⟩ := hz
    have h := Option.some.inj h
    split at h
    · rw [← (Prod.mk.inj h).2]; exact ⟨⟨K, Z⟩, rfl⟩
    · next c0 =>
      have c0 : a.1 38 l.toNatClampNeg = 0 := Decidable.not_not.1 c0
      split at h
      · rw [← (Prod.mk.inj h).2]; exact ⟨⟨K, Z⟩, rfl⟩
      · split at h
        · next co =>
          rw [← (Prod.mk.inj h).2]
          refine ⟨pk_take h10 ?_ ?_ ?_ c0 co K Z, rfl⟩
          · rw [ki_nat]; have := h1.1; have := h1.2; omega
          · rw [ki_nat]; have := h2.1; have := h2.2; omega
          · rw [ki_nat]; have := h3.1; have := h3.2; omega
        · rw [← (Prod.mk.inj h).2]; exact ⟨⟨K, Z⟩, rfl⟩
  · cases h
end
theorem aK_hours {nr nl nc no : Nat} {dm gt ml : Nat → Int32} (h10 : nr ≤ 10) : ∀ (k : Nat) (p : Int32 × ra_T × wt_T), p.1.toInt + (k : Int) ≤ 20000 → aK_ nr nl nc p.1 0 p.2.1 → aK_ nr nl nc (ah_ nr nc no dm gt ml k p).1 0 (ah_ nr nc no dm gt ml k p).2.1 := by
  intro k
  induction k with
  | zero => intro p _ A; exact A
  | succ k ih =>
    intro p hp A
    have h0 := A.2.2.1
    have hp1 : (p.1 + 1).toInt = p.1.toInt + 1 := by rw [ki_add (by rw [ki_z1]; omega) (by rw [ki_z1]; omega), ki_z1]
    have A' : aK_ nr nl nc p.1 nc (a_hour nr nc no p.1 (w_hour nr dm gt ml p.2.2) p.2.1) := by
      unfold a_hour
      exact aK_s h10 (aK_a (aK_k (aK_f (aK_j (aK_m h10 (aK_w A))))))
    exact ih (p.1 + 1, a_hour nr nc no p.1 (w_hour nr dm gt ml p.2.2) p.2.1, w_hour nr dm gt ml p.2.2) (by show (p.1 + 1).toInt + _ ≤ _; rw [hp1]; omega) (aK_next hp1 (by omega) A')
theorem w_ok_ah {nr nc no : Nat} {dm gt ml : Nat → Int32} : ∀ (k : Nat) (p : Int32 × ra_T × wt_T), w_ok nr p.2.2 → w_ok nr (ah_ nr nc no dm gt ml k p).2.2 := by
  intro k
  induction k with
  | zero => intro p h; exact h
  | succ k ih => intro p h; exact ih _ (w_hour_ok h)
theorem ah_now {nr nc no : Nat} {dm gt ml : Nat → Int32} : ∀ (k : Nat) (p : Int32 × ra_T × wt_T) (v : Int32), v.toInt = (k : Int) → k ≤ 200 → (ah_ nr nc no dm gt ml k p).1 = p.1 + v := by
  intro k
  induction k with
  | zero =>
    intro p v hv _
    have : v = 0 := ki_eq.2 (by rw [hv, ki_z0]; rfl)
    rw [this, Int32.add_zero]
    rfl
  | succ k ih =>
    intro p v hv hk
    have e1 : (nI k).toInt = (k : Int) := t_nI (by omega)
    have ev : v = 1 + nI k := ki_eq.2 (by rw [hv, ki_add (by rw [ki_z1, e1]; omega) (by rw [ki_z1, e1]; omega), ki_z1, e1]; omega)
    refine (ih _ (nI k) e1 (by omega)).trans ?_
    show p.1 + 1 + nI k = p.1 + v
    rw [ev, Int32.add_assoc]
end
