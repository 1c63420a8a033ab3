/-! water among the class's calls -/
def yw_ (ad : Nat → Nat) (n : Nat) (w : wt_T) (L : Nat) (σ : kx_S) : Prop :=
  tg_ ad n σ ∧ (∀ r, r < n → (xi σ 160 (ad r)).toInt = (r : Int) ∧ xi σ 166 (ad r) = w.2.1 r ∧ xi σ 167 (ad r) = w.2.2.1 r ∧ xi σ 169 (ad r) = w.2.2.2.1 r ∧ xi σ 170 (ad r) = w.2.2.2.2.1 r ∧ ((xr σ 161 (ad r) = none ∧ w.1 r = -1) ∨ ∃ q : Nat, (w.1 r).toInt = (q : Int) ∧ q < r ∧ xr σ 161 (ad r) = some (ad q))) ∧ xl σ 220 L = w.2.2.2.2.2.1 ∧ xl σ 221 L = w.2.2.2.2.2.2
def Yw_ (n : Nat) (w : wt_T) (L : Nat) (σ : kx_S) : Prop := ∃ ad, yw_ ad n w L σ
/-- nothing of it changed -/
def wf_ (L : Nat) (σ u : kx_S) : Prop := (∀ a, xt σ a ≠ 0 → xt u a = xt σ a) ∧ (∀ a, xt u a = 10 → xt σ a = 10) ∧ (∀ a, xt σ a = 10 → xi u 160 a = xi σ 160 a ∧ xi u 166 a = xi σ 166 a ∧ xi u 167 a = xi σ 167 a ∧ xi u 169 a = xi σ 169 a ∧ xi u 170 a = xi σ 170 a ∧ xr u 161 a = xr σ 161 a) ∧ xl u 220 L = xl σ 220 L ∧ xl u 221 L = xl σ 221 L
theorem wf_refl {L : Nat} {σ : kx_S} : wf_ L σ σ := ⟨fun _ _ => rfl, fun _ h => h, fun _ _ => ⟨rfl, rfl, rfl, rfl, rfl, rfl⟩, rfl, rfl⟩
theorem wf_fw {L : Nat} {σ : kx_S} (hL : xt σ L ≠ 0) {W : List Nat} (hW : ∀ f ∈ W, f ≠ 160 ∧ f ≠ 161 ∧ f ≠ 166 ∧ f ≠ 167 ∧ f ≠ 169 ∧ f ≠ 170 ∧ f ≠ 220 ∧ f ≠ 221 ∧ f ≠ 1110 ∧ f ≠ 1210) : fw_ (wf_ L σ) W := by
  intro u h
  have np : ∀ p a, xt u p = 0 → xt σ a ≠ 0 → a ≠ p := fun p a hp ha e => ha (by rw [← h.1 a ha, e]; exact hp)
  refine ⟨fun f hf => ?_, fun _ a i v => h, fun _ a i v => h, fun _ => ⟨fun a i v => h, fun a f => h⟩, fun _ a f => h, fun _ => h, fun t ht p hp => ?_, fun t ht p hp n => ?_⟩
  · obtain ⟨n1, n2, n3, n4, n5, n6, n7, n8, _⟩ := hW f hf
    refine ⟨fun a v => ⟨h.1, h.2.1, fun b hb => ?_, h.2.2.2⟩, fun a v => ⟨h.1, h.2.1, fun b hb => ?_, h.2.2.2⟩, fun a v => ⟨h.1, h.2.1, h.2.2.1, ?_, ?_⟩⟩
    · obtain ⟨q1, q2, q3, q4, q5, q6⟩ := h.2.2.1 b hb
      have e : ∀ g, g ≠ f → xi (xsi u f a v) g b = xi u g b := fun g hg => by
        show (if g = f then va_up (u.2.1 f) a v else u.2.1 g) b = u.2.1 g b
        rw [if_neg hg]
      exact ⟨(e 160 (Ne.symm n1)).trans q1, (e 166 (Ne.symm n3)).trans q2, (e 167 (Ne.symm n4)).trans q3, (e 169 (Ne.symm n5)).trans q4, (e 170 (Ne.symm n6)).trans q5, q6⟩
    · obtain ⟨q1, q2, q3, q4, q5, q6⟩ := h.2.2.1 b hb
      refine ⟨q1, q2, q3, q4, q5, ?_⟩
      show (if 161 = f then va_up (u.2.2.1 f) a v else u.2.2.1 161) b = _
      rw [if_neg (Ne.symm n2)]
      exact q6
    · show (if 220 = f then va_up (u.2.2.2.1 f) a v else u.2.2.2.1 220) L = _
      rw [if_neg (Ne.symm n7)]
      exact h.2.2.2.1
    · show (if 221 = f then va_up (u.2.2.2.1 f) a v else u.2.2.2.1 221) L = _
      rw [if_neg (Ne.symm n8)]
      exact h.2.2.2.2
  · have t10 : t ≠ 10 := fun e => (hW _ ht).2.2.2.2.2.2.2.2.1 (by rw [e])
    refine ⟨fun a ha => ?_, fun a ha => ?_, fun a ha => ?_, ?_, ?_⟩
    · show va_up (xt u) p t a = _
      rw [va_up_ne _ _ (np p a hp ha)]
      exact h.1 a ha
    · have ha : va_up (xt u) p t a = 10 := ha
      by_cases c : a = p
      · rw [c, va_up_self] at ha
        exact absurd ha t10
      · rw [va_up_ne _ _ c] at ha
        exact h.2.1 a ha
    · have ne := np p a hp (by rw [ha]; decide)
      obtain ⟨q1, q2, q3, q4, q5, q6⟩ := h.2.2.1 a ha
      exact ⟨(va_up_ne _ _ ne).trans q1, (va_up_ne _ _ ne).trans q2, (va_up_ne _ _ ne).trans q3, (va_up_ne _ _ ne).trans q4, (va_up_ne _ _ ne).trans q5, (va_up_ne _ _ ne).trans q6⟩
    · exact (va_up_ne _ _ (np p L hp hL)).trans h.2.2.2.1
    · exact (va_up_ne _ _ (np p L hp hL)).trans h.2.2.2.2
  · have t10 : t ≠ 10 := fun e => (hW _ ht).2.2.2.2.2.2.2.2.2 (by rw [e])
    refine ⟨fun a ha => ?_, fun a ha => ?_, h.2.2.1, h.2.2.2⟩
    · show va_up (xt u) p t a = _
      rw [va_up_ne _ _ (np p a hp ha)]
      exact h.1 a ha
    · have ha : va_up (xt u) p t a = 10 := ha
      by_cases c : a = p
      · rw [c, va_up_self] at ha
        exact absurd ha t10
      · rw [va_up_ne _ _ c] at ha
        exact h.2.1 a ha
theorem yw_wf {ad : Nat → Nat} {n L : Nat} {w : wt_T} {σ u : kx_S} (h : yw_ ad n w L σ) (F : wf_ L σ u) : yw_ ad n w L u := by
  obtain ⟨⟨t1, t2⟩, h1, h2, h3⟩ := h
  refine ⟨⟨fun R hR => t1 R (F.2.1 R hR), fun r hr => (F.1 _ (by rw [t2 r hr]; decide)).trans (t2 r hr)⟩, fun r hr => ?_, F.2.2.2.1.trans h2, F.2.2.2.2.trans h3⟩
  obtain ⟨q1, q2, q3, q4, q5, q6⟩ := F.2.2.1 (ad r) (t2 r hr)
  rw [q1, q2, q3, q4, q5, q6]
  exact h1 r hr
theorem Yw_wf {n L : Nat} {w : wt_T} {σ u : kx_S} (h : Yw_ n w L σ) (F : wf_ L σ u) : Yw_ n w L u := by
  obtain ⟨ad, h⟩ := h
  exact ⟨ad, yw_wf h F⟩
/-- the list of reaches is the reaches in their order -/
theorem yw_at {s : sz_T} {E : Nat → Prop} {g κ : Nat → Nat} {B m n : Nat} {σ : kx_S} {ad : Nat → Nat} {w : wt_T} {L : Nat} (J : yI_ s E g κ B m σ) (hn : s.1.1.toInt = (n : Int)) (h : yw_ ad n w L σ) {r : Nat} (hr : r < n) : xe σ (g 1) r = some (ad r) ∧ xi σ 165 (ad r) = s.2.1 r ∧ xi σ 168 (ad r) = s.2.2.1 r ∧ xi σ 164 (ad r) = s.2.2.2.1 r := by
  have e1 : xi σ 18 (g 1) = s.1.1 := congrArg (fun p => p.1) J.2.2.2.2.1
  have hr' : (r : Int) < (xi σ 18 (g 1)).toInt := by rw [e1, hn]; omega
  obtain ⟨R, r1, r2, r3, r4, r5, _⟩ := J.2.2.2.2.2.1 r hr'
  obtain ⟨y, ey, ty⟩ := ry_el J.1 (yg1 J).2.1 hr'
  have q : y = R := Option.some.inj (ey.symm.trans r1)
  rw [q, (yg1 J).2.2] at ty
  obtain ⟨r', h1, h2⟩ := h.1.1 R ty
  have a := (h.2.1 r' h1).1
  rw [← h2, r2] at a
  have : r' = r := by omega
  rw [this] at h2
  rw [← h2]
  exact ⟨r1, r3, r4, r5⟩
theorem yw_yv {s : sz_T} {g κ : Nat → Nat} {B m n : Nat} {σ : kx_S} {ad : Nat → Nat} {w : wt_T} (J : yJ_ s g κ B m σ) (hn : s.1.1.toInt = (n : Int)) (h : yw_ ad n w (g 0) σ) : yv_ ad n (g 1) (g 0) s.2.1 s.2.2.1 s.2.2.2.1 w.1 w.2.1 (w.2.2.2.1, w.2.2.2.2.1, w.2.2.1, w.2.2.2.2.2.2) w.2.2.2.2.2.1 σ := by
  have e1 : xi σ 18 (g 1) = s.1.1 := congrArg (fun p => p.1) J.2.2.2.2.1
  refine ⟨(yg1 J).1, by rw [e1]; exact hn, fun r hr => ?_, fun r hr => ?_, h.2.2.1, h.2.2.2, h.1⟩
  · obtain ⟨a1, a2, a3, a4⟩ := yw_at J hn h hr
    obtain ⟨b1, b2, b3, b4, b5, b6⟩ := h.2.1 r hr
    exact ⟨a1, b1, a2, a3, a4, b2, b6⟩
  · obtain ⟨b1, b2, b3, b4, b5, b6⟩ := h.2.1 r hr
    exact ⟨b4, b5, b3⟩
theorem vw_water {s : sz_T} {g κ : Nat → Nat} {B m n : Nat} {σ : kx_S} {w : wt_T} {Q : kx_S → Prop} (J : yJ_ s g κ B m σ) (hn : s.1.1.toInt = (n : Int)) (V : Yw_ n w (g 0) σ) (kk : ∀ τ, Yw_ n (w_hour n s.2.1 s.2.2.1 s.2.2.2.1 w) (g 0) τ → Q τ) : vX11_runWater (g 0) σ Q := by
  obtain ⟨ad, h⟩ := V
  have e1 : xi σ 18 (g 1) = s.1.1 := congrArg (fun p => p.1) J.2.2.2.2.1
  have h10 : n ≤ 10 := by have := J.2.2.2.2.2.2.2.1; rw [e1, hn] at this; omega
  refine vy_water h10 (yw_yv J hn h) (fun τ y => kk τ ⟨ad, y.2.2.2.2.2.2, fun r hr => ?_, y.2.2.2.2.1, y.2.2.2.2.2.1⟩)
  obtain ⟨a1, a2, a3, a4, a5, a6, a7⟩ := y.2.2.1 r hr
  obtain ⟨b1, b2, b3⟩ := y.2.2.2.1 r hr
  exact ⟨a2, a6, b3, b1, b2, a7⟩
def wz_hours (m : Int32) (s : sz_T) (n : Nat) (w : wt_T) : wt_T := if m < 0 ∨ 200 < m ∨ ¬ (s.1.2.2.2.2.2 + m ≤ 20000) then w else w_hours n s.2.1 s.2.2.1 s.2.2.2.1 m.toNatClampNeg w
theorem Yw_217 {n L a : Nat} {w : wt_T} {σ : kx_S} {v : Int32} (h : Yw_ n w L σ) : Yw_ n w L (xsi σ 217 a v) := h
theorem Yw_bump {n L : Nat} {w : wt_T} {σ : kx_S} (h : Yw_ n w L σ) : Yw_ n w L (xbump σ) := h
theorem rv_hours {k : Nat} {s : sz_T} {L O : Nat} {σ : kx_S} {m : Int32} {nr : Nat} {w : wt_T} (hk : k < 600) (Z : yZ_ k s L O σ) (hnr : s.1.1.toInt = (nr : Int)) (V : Yw_ nr w L σ) : wX11_hours L m σ (fun r u => qz_ k L O (z_hours m s) r u ∧ Yw_ nr (wz_hours m s nr w) L u) (fun e u => qe_ k L O pz_I (z_hours m s) e u ∧ Yw_ nr (wz_hours m s nr w) L u) := by
  obtain ⟨g, κ, B, n, e, eO, J, hn, hB⟩ := Z
  subst e
  subst eO
  have b := yB_ J hk hn hB
  have hB3 : B ≤ 3000 := by omega
  have hn2 : n ≤ 200 := by omega
  have hB' : B ≤ 15 + 26 * s.1.1.toNatClampNeg + 3 * (k + 1) := by omega
  have room := ry_room J.1 hB3 hn2
  have z200 : (200 : Int32).toInt = 200 := by decide
  have e6 : xi σ 217 (g 0) = s.1.2.2.2.2.2 := congrArg (fun p => p.2.2.2.2.2) J.2.2.2.2.1
  have no : ∀ {Q : Int32 → kx_S → Prop}, (m < 0 ∨ 200 < m ∨ ¬ (s.1.2.2.2.2.2 + m ≤ 20000)) → wX11_hours_23 Q (fun e u => qe_ k (g 0) (g 10) pz_I (z_hours m s) e u ∧ Yw_ nr (wz_hours m s nr w) (g 0) u) σ := fun c => by
    refine ⟨room, ⟨rfl, ?_⟩, ?_⟩
    · rw [show z_hours m s = (1, 0, s) from if_pos c]
      exact ⟨rfl, yZ_bump J hn hB⟩
    · rw [show wz_hours m s nr w = w from if_pos c]
      exact Yw_bump V
  refine rx_within (fun c => ⟨fun _ => no ?_, fun x => absurd rfl x⟩) (fun c1 c2 => ⟨fun x => absurd x (by decide), fun _ => ⟨yg0 J, fun c => ⟨202, ?_⟩, fun c => no ?_⟩⟩)
  · rw [ki_z0, z200] at c
    rw [ki_lt, ki_z0, ki_lt, z200]
    omega
  · rw [ki_z0] at c1
    rw [z200] at c2
    rw [e6] at c
    have hno : ¬ (m < 0 ∨ 200 < m ∨ ¬ (s.1.2.2.2.2.2 + m ≤ 20000)) := by
      rw [ki_lt, ki_z0, ki_lt, z200]
      intro h
      rcases h with h | h | h
      · omega
      · omega
      · exact h c
    rw [show z_hours m s = (0, s.1.2.2.2.2.2 + m, zn_ s (s.1.2.2.2.2.2 + m)) from if_neg hno, show wz_hours m s nr w = w_hours nr s.2.1 s.2.2.1 s.2.2.2.1 m.toNatClampNeg w from if_neg hno]
    clear hno no c e6 b
    generalize hq : (fun (r : Int32) (u : kx_S) => qz_ k (g 0) (g 10) (0, s.1.2.2.2.2.2 + m, zn_ s (s.1.2.2.2.2.2 + m)) r u ∧ Yw_ nr (w_hours nr s.2.1 s.2.2.1 s.2.2.2.1 m.toNatClampNeg w) (g 0) u) = QQ
    generalize (fun (e : String) (u : kx_S) => qe_ k (g 0) (g 10) pz_I (0, s.1.2.2.2.2.2 + m, zn_ s (s.1.2.2.2.2.2 + m)) e u ∧ Yw_ nr (w_hours nr s.2.1 s.2.2.1 s.2.2.2.1 m.toNatClampNeg w) (g 0) u) = QX
    have Lp : ∀ (j : Nat) (i : Int32) (τ : kx_S), 0 ≤ i.toInt → i.toInt ≤ m.toInt → m.toInt - i.toInt < (j : Int) → yJ_ (zn_ s (s.1.2.2.2.2.2 + i)) g κ B n τ → Yw_ nr (w_hours nr s.2.1 s.2.2.1 s.2.2.2.1 i.toNatClampNeg w) (g 0) τ → wX11_hours_35 (wX11_hours_84 QQ QX) QQ QX j (g 0) m i τ := by
      intro j
      induction j with
      | zero => intro i τ h1 h2 h3; omega
      | succ j ih =>
        intro i τ h1 h2 h3 J1 V1
        refine ⟨fun q => ?_, fun q => ⟨yg0 J1, ?_⟩⟩
        · rw [ki_le] at q
          have en : i = m := ki_eq.2 (by omega)
          rw [en] at J1 V1
          refine ⟨yg0 J1, ?_⟩
          rw [← hq]
          exact ⟨⟨rfl, congrArg (fun p => p.2.2.2.2.2) J1.2.2.2.2.1, yZ_of J1 hn hB'⟩, V1⟩
        · rw [ki_le] at q
          obtain ⟨i', ei, ii⟩ := ki_incE (a := i) (by omega) (by omega)
          have a1 : 0 ≤ i'.toInt := by omega
          have a2 : i'.toInt ≤ m.toInt := by omega
          have a3 : m.toInt - i'.toInt < (j : Int) := by omega
          have ti : ∀ {τ : kx_S}, yJ_ (zn_ s (s.1.2.2.2.2.2 + i)) g κ B n τ → xt τ (g 0) ≠ 0 := fun J => by rw [yg0 J]; decide
          refine jcX11_runWater (Q := fun τ => yJ_ (zn_ s (s.1.2.2.2.2.2 + i)) g κ B n τ) (Q' := fun τ => Yw_ nr (w_hour nr s.2.1 s.2.2.1 s.2.2.2.1 (w_hours nr s.2.1 s.2.2.1 s.2.2.2.1 i.toNatClampNeg w)) (g 0) τ) (fun τ2 J2 V2 => ⟨yg0 J2, ?_⟩) _ _ (rx_runWater J1 (fun _ K => K.1)) (vw_water J1 hnr V1 (fun _ V => V))
          refine jcX11_moveLogs (Q := fun τ => yJ_ (zn_ s (s.1.2.2.2.2.2 + i)) g κ B n τ) (Q' := fun τ => wf_ (g 0) τ2 τ) (fun τ3 J3 F3 => ⟨yg0 J3, ?_⟩) _ _ (rx_moveLogs J2 hB3 hn2 (fun _ J _ => J)) (jfX11_moveLogs (wf_fw (ti J2) (by decide)) (fun _ h => h) _ _ wf_refl)
          refine jcX11_jamCells (Q := fun τ => yJ_ (zn_ s (s.1.2.2.2.2.2 + i)) g κ B n τ) (Q' := fun τ => wf_ (g 0) τ3 τ) (fun τ4 J4 F4 => ⟨yg0 J4, ?_⟩) _ _ (rx_jamCells J3 (fun _ J _ => J)) (jfX11_jamCells (wf_fw (ti J3) (by decide)) (fun _ h => h) _ _ wf_refl)
          refine jcX11_freeJams (Q := fun τ => yJ_ (zn_ s (s.1.2.2.2.2.2 + i)) g κ B n τ) (Q' := fun τ => wf_ (g 0) τ4 τ) (fun τ5 J5 F5 => ⟨yg0 J5, ?_⟩) _ _ (rx_freeJams J4 (fun _ J _ => J)) (jfX11_freeJams (wf_fw (ti J4) (by decide)) (fun _ h => h) _ _ wf_refl)
          refine jcX11_makeJamsKnown (Q := fun τ => yJ_ (zn_ s (s.1.2.2.2.2.2 + i)) g κ B n τ) (Q' := fun τ => wf_ (g 0) τ5 τ) (fun τ6 J6 F6 => ⟨yg0 J6, ?_⟩) _ _ (rx_makeJamsKnown J5 (fun _ J _ => J)) (jfX11_makeJamsKnown (wf_fw (ti J5) (by decide)) (fun _ h => h) _ _ wf_refl)
          refine jcX11_ageLogs (Q := fun τ => yJ_ (zn_ s (s.1.2.2.2.2.2 + i)) g κ B n τ) (Q' := fun τ => wf_ (g 0) τ6 τ) (fun τ7 J7 F7 => ⟨yg0 J7, ?_⟩) _ _ (rx_ageLogs J6 (fun _ J _ => J)) (jfX11_ageLogs (wf_fw (ti J6) (by decide)) (fun _ h => h) _ _ wf_refl)
          refine jcX11_runMills (Q := fun τ => yJ_ (zn_ s (s.1.2.2.2.2.2 + i)) g κ B n τ) (Q' := fun τ => wf_ (g 0) τ7 τ) (fun τ8 J8 F8 => ⟨yg0 J8, fun τ9 e9 v ev => ?_⟩) _ _ (rx_runMills J7 (fun _ J _ => J)) (jfX11_runMills (wf_fw (ti J7) (by decide)) (fun _ h => h) _ _ wf_refl)
          have V8 := Yw_wf (Yw_wf (Yw_wf (Yw_wf (Yw_wf (Yw_wf V2 F3) F4) F5) F6) F7) F8
          have e8 : xi τ8 217 (g 0) = s.1.2.2.2.2.2 + i := congrArg (fun p => p.2.2.2.2.2) J8.2.2.2.2.1
          rw [ev, ← ei, e9, e8]
          have et : i'.toNatClampNeg = i.toNatClampNeg + 1 := by rw [ki_nat, ki_nat]; omega
          refine ih i' _ a1 a2 a3 ?_ ?_
          · have := yI_217 (v := s.1.2.2.2.2.2 + i + 1) J8
            rw [ei, ← Int32.add_assoc]
            exact this
          · rw [et, w_hours_snoc]
            exact Yw_217 V8
    refine Lp 202 0 σ (by decide) (by rw [ki_z0]; omega) (by rw [ki_z0]; omega) ?_ V
    rw [Int32.add_zero]
    exact J
  · rw [e6] at c
    exact .inr (.inr c)
def wz_dam (r v : Int32) (s : sz_T) (w : wt_T) : wt_T := if z_is r s then (if v < 0 ∨ ¬ v ≤ 100000 then w else (w.1, upd w.2.1 r.toNatClampNeg v, w.2.2)) else w
theorem vy_within {v a b : Int32} {σ : kx_S} {Q : Int32 → kx_S → Prop} (k0 : ¬ (a.toInt ≤ v.toInt ∧ v.toInt ≤ b.toInt) → Q 0 σ) (k1 : a.toInt ≤ v.toInt → v.toInt ≤ b.toInt → Q 1 σ) : vX11_isWithin v a b σ Q := by
  refine ⟨fun c => k0 ?_, fun c => ⟨fun d => k0 ?_, fun d => k1 ?_ ?_⟩⟩
  all_goals (simp only [ki_lt] at *; omega)
theorem rv_dam {k : Nat} {s : sz_T} {L O : Nat} {σ : kx_S} {r v : Int32} {nr : Nat} {w : wt_T} (hk : k < 600) (Z : yZ_ k s L O σ) (hnr : s.1.1.toInt = (nr : Int)) (V : Yw_ nr w L σ) : wX11_dam L r v σ (fun x u => qz_ k L O (z_dam r v s) x u ∧ Yw_ nr (wz_dam r v s w) L u) (fun e u => qe_ k L O pz_N (z_dam r v s) e u ∧ Yw_ nr (wz_dam r v s w) L u) := by
  have R0 := rx_dam (r := r) (v := v) hk Z
  obtain ⟨g, κ, B, n, e, eO, J, hn, hB⟩ := Z
  subst e
  subst eO
  have b := yB_ J hk hn hB
  have z0 : (100000 : Int32).toInt = 100000 := by decide
  refine jcX11_dam (Q' := fun _ u => Yw_ nr (wz_dam r v s w) (g 0) u) (QX' := fun _ u => Yw_ nr (wz_dam r v s w) (g 0) u) (fun _ _ a b => ⟨a, b⟩) (fun _ _ a b => ⟨a, b⟩) _ _ _ _ R0 ?_
  unfold vX11_dam
  intro _
  refine jaX11_reachAt (Q := fun R u => z_is r s ∧ xe σ (g 1) r.toNatClampNeg = some R ∧ u = σ) (QX := fun _ u => ¬ z_is r s ∧ u = xbump σ) (fun R u h => ?_) (fun _ u h => ?_) _ _ _ (rx_reachAt J (by omega) (by omega) (fun hz R eR _ => ⟨hz, eR, rfl⟩) (fun hz => ⟨hz, rfl⟩))
  · obtain ⟨hz, eR, rfl⟩ := h
    unfold wz_dam
    rw [if_pos hz]
    refine vy_within (fun c => ⟨fun x => absurd rfl x, fun _ => ?_⟩) (fun c1 c2 => ⟨fun _ _ τ1 e1 τ2 e2 => ?_, fun x => absurd x (by decide)⟩)
    · rw [ki_z0, z0] at c
      rw [if_pos (by rw [ki_lt, ki_le, ki_z0, z0]; omega)]
      exact V
    · rw [ki_z0] at c1
      rw [z0] at c2
      rw [if_neg (by rw [ki_lt, ki_le, ki_z0, z0]; omega), e2, e1]
      obtain ⟨ad, h⟩ := V
      have hr : r.toNatClampNeg < nr := by rw [ki_nat]; have := hz.1; have := hz.2; omega
      have ea : ad r.toNatClampNeg = R := Option.some.inj ((yw_at J hnr h hr).1.symm.trans eR)
      refine ⟨ad, h.1, fun q hq => ?_, h.2.2⟩
      obtain ⟨b1, b2, b3, b4, b5, b6⟩ := h.2.1 q hq
      refine ⟨b1, ?_, b3, b4, b5, b6⟩
      show va_up (xi u 166) R v (ad q) = upd w.2.1 r.toNatClampNeg v q
      by_cases cq : q = r.toNatClampNeg
      · rw [cq, ea, va_up_self, w_updS]
      · rw [w_updN cq, va_up_ne]
        · exact b2
        · intro eq
          rw [← ea] at eq
          have a1 := (h.2.1 _ hr).1
          rw [← eq, b1] at a1
          omega
  · obtain ⟨hz, rfl⟩ := h
    unfold wz_dam
    rw [if_neg hz]
    exact Yw_bump V
