theorem yI_217 {s : sz_T} {E : Nat → Prop} {g κ : Nat → Nat} {B n : Nat} {σ : kx_S} {v : Int32} (I : yI_ s E g κ B n σ) : yI_ (zn_ s v) E g κ B n (xsi σ 217 (g 0) v) := by
  have S := I.2.2.2.2
  refine ⟨I.1, I.2.1, I.2.2.1, I.2.2.2.1, ?_, S.2⟩
  have h := S.1
  show (xi σ 18 (g 1), xi σ 18 (g 2), xi σ 18 (g 4), xi σ 18 (g 5), xi σ 177 (g 6), va_up (xi σ 217) (g 0) v (g 0)) = (s.1.1, s.1.2.1, s.1.2.2.1, s.1.2.2.2.1, s.1.2.2.2.2.1, v)
  rw [← h, va_up_self]
theorem rx_hours {k : Nat} {s : sz_T} {L O : Nat} {σ : kx_S} {m : Int32} (hk : k < 600) (Z : yZ_ k s L O σ) : wX11_hours L m σ (qz_ k L O (z_hours m s)) (qe_ k L O pz_I (z_hours m s)) := by
  obtain ⟨g, κ, B, n, e, eO, J, hn, hB⟩ := Z
  subst e
  subst eO
  have b := yB_ J hk hn hB
  have hB3 : B ≤ 3000 := by omega
  have hn2 : n ≤ 200 := by omega
  have hB' : B ≤ 15 + 26 * s.1.1.toNatClampNeg + 3 * (k + 1) := by omega
  have room := ry_room J.1 hB3 hn2
  have z200 : (200 : Int32).toInt = 200 := by decide
  have e6 : xi σ 217 (g 0) = s.1.2.2.2.2.2 := congrArg (fun p => p.2.2.2.2.2) J.2.2.2.2.1
  have no : (m < 0 ∨ 200 < m ∨ ¬ (s.1.2.2.2.2.2 + m ≤ 20000)) → wX11_hours_23 (qz_ k (g 0) (g 10) (z_hours m s)) (qe_ k (g 0) (g 10) pz_I (z_hours m s)) σ := fun c => by
    refine ⟨room, rfl, ?_⟩
    rw [show z_hours m s = (1, 0, s) from if_pos c]
    exact ⟨rfl, yZ_bump J hn hB⟩
  refine rx_within (fun c => ⟨fun _ => no ?_, fun x => absurd rfl x⟩) (fun c1 c2 => ⟨fun x => absurd x (by decide), fun _ => ⟨yg0 J, fun c => ⟨202, ?_⟩, fun c => no ?_⟩⟩)
  · rw [ki_z0, z200] at c
    rw [ki_lt, ki_z0, ki_lt, z200]
    omega
  · rw [ki_z0] at c1
    rw [z200] at c2
    rw [e6] at c
    have hno : ¬ (m < 0 ∨ 200 < m ∨ ¬ (s.1.2.2.2.2.2 + m ≤ 20000)) := by
      rw [ki_lt, ki_z0, ki_lt, z200]
      intro h
      rcases h with h | h | h
      · omega
      · omega
      · exact h c
    rw [show z_hours m s = (0, s.1.2.2.2.2.2 + m, zn_ s (s.1.2.2.2.2.2 + m)) from if_neg hno]
    clear hno no c e6 b
    have Lp : ∀ (j : Nat) (i : Int32) (τ : kx_S), 0 ≤ i.toInt → i.toInt ≤ m.toInt → m.toInt - i.toInt < (j : Int) → yJ_ (zn_ s (s.1.2.2.2.2.2 + i)) g κ B n τ → wX11_hours_35 (wX11_hours_84 (qz_ k (g 0) (g 10) (0, s.1.2.2.2.2.2 + m, zn_ s (s.1.2.2.2.2.2 + m))) (qe_ k (g 0) (g 10) pz_I (0, s.1.2.2.2.2.2 + m, zn_ s (s.1.2.2.2.2.2 + m)))) (qz_ k (g 0) (g 10) (0, s.1.2.2.2.2.2 + m, zn_ s (s.1.2.2.2.2.2 + m))) (qe_ k (g 0) (g 10) pz_I (0, s.1.2.2.2.2.2 + m, zn_ s (s.1.2.2.2.2.2 + m))) j (g 0) m i τ := by
      intro j
      induction j with
      | zero => intro i τ h1 h2 h3; omega
      | succ j ih =>
        intro i τ h1 h2 h3 J1
        refine ⟨fun q => ?_, fun q => ⟨yg0 J1, ?_⟩⟩
        · rw [ki_le] at q
          have en : i = m := ki_eq.2 (by omega)
          rw [en] at J1
          refine ⟨yg0 J1, rfl, congrArg (fun p => p.2.2.2.2.2) J1.2.2.2.2.1, yZ_of J1 hn hB'⟩
        · rw [ki_le] at q
          obtain ⟨i', ei, ii⟩ := ki_incE (a := i) (by omega) (by omega)
          have a1 : 0 ≤ i'.toInt := by omega
          have a2 : i'.toInt ≤ m.toInt := by omega
          have a3 : m.toInt - i'.toInt < (j : Int) := by omega
          refine rx_runWater J1 (fun τ2 K2 => ⟨yg0 K2.1, ?_⟩)
          refine rx_moveLogs K2.1 hB3 hn2 (fun τ3 J3 _ => ⟨yg0 J3, ?_⟩)
          refine rx_jamCells J3 (fun τ4 J4 _ => ⟨yg0 J4, ?_⟩)
          refine rx_freeJams J4 (fun τ5 J5 _ => ⟨yg0 J5, ?_⟩)
          refine rx_makeJamsKnown J5 (fun τ6 J6 _ => ⟨yg0 J6, ?_⟩)
          refine rx_ageLogs J6 (fun τ7 J7 _ => ⟨yg0 J7, ?_⟩)
          refine rx_runMills J7 (fun τ8 J8 _ => ⟨yg0 J8, fun τ9 e9 w ew => ?_⟩)
          have e8 : xi τ8 217 (g 0) = s.1.2.2.2.2.2 + i := congrArg (fun p => p.2.2.2.2.2) J8.2.2.2.2.1
          rw [ew, ← ei, e9, e8]
          refine ih i' _ a1 a2 a3 ?_
          have := yI_217 (v := s.1.2.2.2.2.2 + i + 1) J8
          rw [ei, ← Int32.add_assoc]
          exact this
    refine Lp 202 0 σ (by decide) (by rw [ki_z0]; omega) (by rw [ki_z0]; omega) ?_
    rw [Int32.add_zero]
    exact J
  · rw [e6] at c
    exact .inr (.inr c)
/-! the tape -/
abbrev zt_ (s : sz_T) (v : Int32) : sz_T := ((s.1.1, s.1.2.1, s.1.2.2.1, s.1.2.2.2.1, v, s.1.2.2.2.2.2), s.2)
theorem yI_177 {s : sz_T} {E : Nat → Prop} {g κ : Nat → Nat} {B n : Nat} {σ : kx_S} {v : Int32} (hv : 0 ≤ v.toInt ∧ v.toInt ≤ 500) (I : yI_ s E g κ B n σ) : yI_ (zt_ s v) E g κ B n (xsi σ 177 (g 6) v) := by
  have S := I.2.2.2.2
  refine ⟨I.1, I.2.1, I.2.2.1, fun b => ?_, ?_, S.2⟩
  · obtain ⟨q1, q2, q3, q4, q5, q6, q7, q8⟩ := I.2.2.2.1 b
    refine ⟨q1, q2, q3, q4, q5, q6, fun e => ?_, q8⟩
    show 0 ≤ (va_up (xi σ 177) (g 6) v b).toInt ∧ (va_up (xi σ 177) (g 6) v b).toInt ≤ 500
    by_cases e2 : b = g 6
    · rw [e2, va_up_self]; exact hv
    · rw [va_up_ne _ _ e2]; exact q7 e
  · have h := S.1
    show (xi σ 18 (g 1), xi σ 18 (g 2), xi σ 18 (g 4), xi σ 18 (g 5), va_up (xi σ 177) (g 6) v (g 6), xi σ 217 (g 0)) = (s.1.1, s.1.2.1, s.1.2.2.1, s.1.2.2.2.1, v, s.1.2.2.2.2.2)
    rw [← h, va_up_self]
theorem rx_app {s : sz_T} {g κ : Nat → Nat} {B n : Nat} {σ : kx_S} {j : Nat} {sh v t : Int32} {Q : kx_S → Prop} (J : yJ_ (zt_ s t) g κ B n σ) (h0 : 0 ≤ t.toInt) (h1 : t.toInt < 500) (hs : ¬ sh < 0) (kk : ∀ τ u, u.toInt = t.toInt + 1 → yJ_ (zt_ s u) g κ B n τ → wX9_append_3 Q j (g 6) v (sh + -8) τ) : wX9_append_3 Q (j + 1) (g 6) v sh σ := by
  have G6 := yg6 J
  obtain ⟨h, p1, p2, p3⟩ := yp11 J G6.2
  have et : xi σ 177 (g 6) = t := congrArg (fun p => p.2.2.2.2.1) J.2.2.2.2.1
  have e500 : (nI (xn σ h)).toInt = 500 := by rw [p3]; decide
  obtain ⟨u, eu, ii⟩ := ki_incE (a := t) (by omega) (by omega)
  refine ⟨fun c => absurd c hs, fun _ => ⟨G6.2, h, p1, p2, fun c => ?_, fun c => ⟨h, p1, fun w ew => ⟨p2, ?_, fun τ1 e1 τ2 e2 x ex => ?_⟩⟩⟩⟩
  · rw [ki_le, e500, et] at c
    omega
  · rw [et, ki_in, p3]; omega
  · rw [ex]
    refine kk τ2 u ii ?_
    have e3 : xi τ1 177 (g 6) = t := by rw [e1]; exact et
    have J1 : yJ_ (zt_ s t) g κ B n τ1 := by rw [e1]; exact yI_sai J
    rw [e2, e3, ← eu]
    have J2 := yI_177 (s := zt_ s t) (v := u) (by omega) J1
    exact J2
theorem rx_append {s : sz_T} {g κ : Nat → Nat} {B n : Nat} {σ : kx_S} {v t : Int32} {Q : kx_S → Prop} (J : yJ_ (zt_ s t) g κ B n σ) (h0 : 0 ≤ t.toInt) (h1 : t.toInt ≤ 496) (kk : ∀ τ u, u.toInt = t.toInt + 4 → yJ_ (zt_ s u) g κ B n τ → Q τ) : wX9_append (g 6) v σ Q := by
  refine ⟨5, ?_⟩
  refine rx_app J h0 (by omega) (by decide) (fun τ1 u1 e1 J1 => ?_)
  refine rx_app J1 (by omega) (by omega) (by decide) (fun τ2 u2 e2 J2 => ?_)
  refine rx_app J2 (by omega) (by omega) (by decide) (fun τ3 u3 e3 J3 => ?_)
  refine rx_app J3 (by omega) (by omega) (by decide) (fun τ4 u4 e4 J4 => ?_)
  exact ⟨fun _ => kk τ4 u4 (by omega) J4, fun x => absurd (by decide) x⟩
theorem rx_feed {k : Nat} {s : sz_T} {L O : Nat} {σ : kx_S} {a b c d e : Int32} (hk : k < 600) (Z : yZ_ k s L O σ) : wX11_feed L a b c d e σ (qz_ k L O (z_feed s)) := by
  obtain ⟨g, κ, B, n, eg, eO, J, hn, hB⟩ := Z
  subst eg
  subst eO
  have hB' : B ≤ 15 + 26 * s.1.1.toNatClampNeg + 3 * (k + 1) := by omega
  have G6 := yg6 J
  have et : xi σ 177 (g 6) = s.1.2.2.2.2.1 := congrArg (fun p => p.2.2.2.2.1) J.2.2.2.2.1
  have tb := (J.2.2.2.1 (g 6)).2.2.2.2.2.2.1 G6.2
  rw [et] at tb
  obtain ⟨t, ett⟩ : ∃ t, t = s.1.2.2.2.2.1 := ⟨_, rfl⟩
  rw [← ett] at tb et
  have z480 : (480 : Int32).toInt = 480 := by decide
  have z500 : (500 : Int32).toInt = 500 := by decide
  have z20 : (20 : Int32).toInt = 20 := by decide
  have t20 := ki_add (a := t) (b := 20) (by rw [z20]; omega) (by rw [z20]; omega)
  rw [z20] at t20
  obtain ⟨w, ew⟩ : ∃ w, w = t + 20 := ⟨_, rfl⟩
  rw [← ew] at t20
  refine ⟨yg0 J, g 6, G6.1, G6.2, fun q => ⟨g 6, G6.1, G6.2, ?_⟩, fun q => ?_⟩
  · rw [et, ki_le, z480] at q
    rw [show z_feed s = (0, w, zt_ s w) from by
      unfold z_feed
      rw [← ett, ← ew, if_pos (by rw [ki_le, z500]; omega)]]
    have J0 : yJ_ (zt_ s t) g κ B n σ := by rw [ett]; exact J
    refine rx_append J0 (by omega) (by omega) (fun τ1 u1 e1 J1 => ⟨yg0 J1, g 6, (yg6 J1).1, (yg6 J1).2, ?_⟩)
    refine rx_append J1 (by omega) (by omega) (fun τ2 u2 e2 J2 => ⟨yg0 J2, g 6, (yg6 J2).1, (yg6 J2).2, ?_⟩)
    refine rx_append J2 (by omega) (by omega) (fun τ3 u3 e3 J3 => ⟨yg0 J3, g 6, (yg6 J3).1, (yg6 J3).2, ?_⟩)
    refine rx_append J3 (by omega) (by omega) (fun τ4 u4 e4 J4 => ⟨yg0 J4, g 6, (yg6 J4).1, (yg6 J4).2, ?_⟩)
    refine rx_append J4 (by omega) (by omega) (fun τ5 u5 e5 J5 => ⟨yg0 J5, g 6, (yg6 J5).1, (yg6 J5).2, rfl, ?_, ?_⟩)
    · have h5 : xi τ5 177 (g 6) = u5 := congrArg (fun p => p.2.2.2.2.1) J5.2.2.2.2.1
      rw [h5]
      show u5 = w
      exact ki_eq.2 (by omega)
    · have hu : u5 = w := ki_eq.2 (by omega)
      rw [hu] at J5
      exact yZ_of J5 hn hB'
  · rw [et, ki_le, z480] at q
    rw [show z_feed s = (0, -1, s) from by
      unfold z_feed
      rw [← ett, ← ew, if_neg (by rw [ki_le, z500]; omega)]]
    exact ⟨rfl, rfl, yZ_of J hn hB'⟩
