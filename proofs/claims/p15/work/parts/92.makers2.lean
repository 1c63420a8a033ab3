theorem rx_order {k : Nat} {s : sz_T} {L O : Nat} {σ : kx_S} {r m z w : Int32} (hk : k < 600) (Z : yZ_ k s L O σ) : wX11_order L r m z w σ (qz_ k L O (z_order r m z w s)) (qe_ k L O pz_N (z_order r m z w s)) := by
  obtain ⟨g, κ, B, n, eg, eO, J, hn, hB⟩ := Z
  subst eg
  subst eO
  have b := yB_ J hk hn hB
  have hB' : B ≤ 15 + 26 * s.1.1.toNatClampNeg + 3 * (k + 1) := by omega
  have hB1 : B + 1 ≤ 15 + 26 * s.1.1.toNatClampNeg + 3 * (k + 1) := by omega
  have hB3 : B ≤ 3000 := by omega
  have hB4 : B + 1 ≤ 3000 := by omega
  have hn2 : n ≤ 200 := by omega
  have G5 := yg5 J
  have sz := ry_size J.1 G5.2.1
  have ids := yG_idx J
  have z60 : (60 : Int32).toInt = 60 := by decide
  have z15 : (15 : Int32).toInt = 15 := by decide
  have z9 : (9 : Int32).toInt = 9 := by decide
  have z100 : (100 : Int32).toInt = 100 := by decide
  have b60 := J.2.2.2.2.2.2.2.2.2.2
  refine ⟨yg0 J, ?_⟩
  refine rx_reachAt J hB3 hn2 (fun hz R eR tR => ?_) (fun hz => ?_)
  rotate_left
  · unfold z_order
    rw [if_neg hz]
    exact ⟨rfl, rfl, yZ_bump J hn hB⟩
  have hr : ((r.toNatClampNeg : Nat) : Int) < s.1.1.toInt := by rw [ki_nat]; have := hz.1; have := hz.2; omega
  have o := yS_at J.2.2.2.2 hr eR
  unfold z_order
  rw [if_pos hz]
  have no : (s.2.2.2.2.2 r.toNatClampNeg = 0 ∨ m < 0 ∨ 15 < m ∨ z < 1 ∨ 9 < z ∨ w < 1 ∨ 100 < w ∨ s.1.2.2.2.1 = 60) → qz_ k (g 0) (g 10) (if s.2.2.2.2.2 r.toNatClampNeg = 0 ∨ m < 0 ∨ 15 < m ∨ z < 1 ∨ 9 < z ∨ w < 1 ∨ 100 < w ∨ s.1.2.2.2.1 = 60 then (0, -1, s) else (0, s.1.2.2.2.1, ((s.1.1, s.1.2.1, s.1.2.2.1, s.1.2.2.2.1 + 1, s.1.2.2.2.2), s.2))) (-1) σ := fun c => by
    rw [if_pos c]
    exact ⟨rfl, rfl, yZ_of J hn hB'⟩
  refine ⟨tR, fun c => no (.inl (o.2.2.2.2.2.1 c)), fun a ea => ⟨yg0 J, g 5, G5.1, G5.2.1, G5.2.1, fun c => ?_, fun c => no (.inr (.inr (.inr (.inr (.inr (.inr (.inr ?_)))))))⟩⟩
  rotate_left
  · rw [ki_lt, z60] at c
    rw [← ids.2.2.2.1]
    exact ki_eq.2 (by rw [z60]; omega)
  rw [ki_lt, z60] at c
  have ta : xt σ a = 2 := by
    rcases (yp10 J tR).2.2 with h | ⟨h, h1, h2⟩
    · rw [ea] at h; cases h
    · rw [ea] at h1; rw [Option.some.inj h1]; exact h2
  have nb0 : s.2.2.2.2.2 r.toNatClampNeg ≠ 0 := fun x => by have := o.2.2.2.2.2.2 x; rw [ea] at this; cases this
  refine rx_within (fun d => ⟨fun _ => no (.inr ?_), fun x => absurd rfl x⟩) (fun c1 c2 => ⟨fun x => absurd x (by decide), fun _ => ?_⟩)
  · rw [ki_z0, z15] at d
    rw [ki_lt, ki_z0, ki_lt, z15]
    by_cases q : m.toInt < 0
    · exact .inl q
    · exact .inr (.inl (by omega))
  rw [ki_z0] at c1
  rw [z15] at c2
  refine rx_within (fun d => ⟨fun _ => no (.inr (.inr (.inr ?_))), fun x => absurd rfl x⟩) (fun c3 c4 => ⟨fun x => absurd x (by decide), fun _ => ?_⟩)
  · rw [ki_z1, z9] at d
    rw [ki_lt (b := 1), ki_z1, ki_lt (b := z), z9]
    by_cases q : z.toInt < 1
    · exact .inl q
    · exact .inr (.inl (by omega))
  rw [ki_z1] at c3
  rw [z9] at c4
  refine rx_within (fun d => ⟨fun x => absurd rfl x, fun _ => no (.inr (.inr (.inr (.inr (.inr ?_)))))⟩) (fun c5 c6 => ⟨fun _ => ⟨ry_room J.1 hB3 hn2, fun p hp hpz τ1 e1 => ?_⟩, fun x => absurd x (by decide)⟩)
  · rw [ki_z1, z100] at d
    rw [ki_lt (b := 1), ki_z1, ki_lt (b := w), z100]
    by_cases q : w.toInt < 1
    · exact .inl q
    · exact .inr (.inl (by omega))
  rw [ki_z1] at c5
  rw [z100] at c6
  have ncond : ¬ (s.2.2.2.2.2 r.toNatClampNeg = 0 ∨ m < 0 ∨ 15 < m ∨ z < 1 ∨ 9 < z ∨ w < 1 ∨ 100 < w ∨ s.1.2.2.2.1 = 60) := by
    intro h
    rw [ki_lt, ki_lt, ki_lt, ki_lt, ki_lt, ki_lt, ki_z0, z15, ki_z1, z9, z100] at h
    rcases h with h | h | h | h | h | h | h | h
    · exact nb0 h
    · omega
    · omega
    · omega
    · omega
    · omega
    · omega
    · have h' := congrArg Int32.toInt h
      rw [z60, ← ids.2.2.2.1] at h'
      omega
  rw [if_neg ncond]
  clear no ncond
  have I1 : yJ_ s g κ (B + 1) n τ1 := by rw [e1]; exact yI_new0 J hp hpz (.inr rfl)
  have F1 : fg_ σ τ1 := by rw [e1]; exact fg_new hp
  have tp1 : xt τ1 p = 9 := by rw [e1]; exact va_up_self _ _ _
  clear e1
  refine ⟨tp1, fun a2 e2 a4 e4 a6 e6 => ?_⟩
  have I2 : yJ_ s g κ (B + 1) n a6 := by
    rw [e6, e4, e2]
    exact yI_si (by decide) (yI_si (by decide) (yI_si (by decide) I1))
  have tp2 : xt a6 p = 9 := by rw [e6, e4, e2]; exact tp1
  have F2 : fg_ τ1 a6 := by
    rw [e6, e4, e2]
    exact ⟨fun _ _ => rfl, fun _ _ _ _ => rfl, fun _ _ => rfl, rfl⟩
  clear e6 e4 e2
  have F12 := fg_trans F1 F2
  have ids2 := yG_idx I2
  have sc : (xi a6 18 (g 5)).toInt < 60 := by rw [ids2.2.2.2.1, ← ids.2.2.2.1]; exact c
  have ne := yG_ne I2.2.2.1
  have s5 := ry_size I2.1 (yg5 I2).2.1
  have inc := ki_inc (a := xi a6 18 (g 5)) (by omega) (by omega)
  refine ⟨yg0 I2, g 5, (yg5 I2).1, (yg5 I2).2.1, ?_⟩
  have bl : (xi a6 18 (g 5)).toInt < (ylb g (g 5) : Int) := by
    unfold ylb
    rw [if_neg (fun e => ne.2.2.2.2.2.2.1 e.symm)]
    omega
  refine ry_add I2.1 hB4 hn2 (yg5 I2).2.1 (by rw [tp2, (yg5 I2).2.2]) bl (fun τ3 L3 A3 => ?_)
  have q2 : xi τ3 18 (g 2) = xi a6 18 (g 2) := by rw [A3.2.2.2.1, va_up_ne _ _ ne.2.2.2.2.2.2.1]
  have q3 : xi τ3 18 (g 3) = xi a6 18 (g 3) := by rw [A3.2.2.2.1, va_up_ne _ _ ne.2.2.2.2.2.2.2.2.1]
  have q4 : xi τ3 18 (g 4) = xi a6 18 (g 4) := by rw [A3.2.2.2.1, va_up_ne _ _ ne.2.2.2.2.2.2.2.2.2]
  have q5 : xi τ3 18 (g 5) = xi a6 18 (g 5) + 1 := by rw [A3.2.2.2.1, va_up_self]
  have SS := I2.2.2.2.2.2.2.2
  have S3 := yS_add I2 A3 (fun e => ne.2.2.2.1 e.symm) (by rw [q3]; exact SS.2.1) (by rw [q4]; exact SS.2.2.1) (by rw [q5, inc]; exact Int.add_one_le_of_lt sc)
  have N9 : ∀ l, xt a6 l = 1 → κ l = 9 → (xi τ3 18 l).toInt ≤ (xi τ3 18 (g 5)).toInt ∧ (l ≠ g 5 → (xi τ3 18 l).toInt < (xi τ3 18 (g 5)).toInt) := by
    intro l hl k9
    have old := (I2.2.2.2.1 l).2.2.2.2.2.2.2 hl k9
    by_cases e : l = g 5
    · rw [e]; exact ⟨Int.le_refl _, fun x => absurd rfl x⟩
    · have ql : xi τ3 18 l = xi a6 18 l := by rw [A3.2.2.2.1, va_up_ne _ _ e]
      rw [ql, q5, inc]
      exact ⟨by omega, fun _ => by omega⟩
  have I3 := yI_tr2 I2 L3 A3 S3 (fun l hl k9 => (N9 l hl k9).1)
  have F3 := fg_trans F12 A3.1
  have tp3 : xt τ3 p = 9 := fg_tag A3.1 tp2 (by decide)
  have ea3 : xr τ3 172 R = some a := fg_ref F3 tR (by decide) (by decide) ea
  have ta3 : xt τ3 a = 2 := fg_tag F3 ta (by decide)
  obtain ⟨_, ol, o1, o2, o3, o4⟩ := yp2 I3 ta3
  have ol2 : xt a6 ol = 1 := by
    rcases A3.2.1 ol with h | h
    · rw [← h]; exact o2
    · rw [h.2] at o2; cases o2
  have slt := (N9 ol ol2 o3).2 o4
  have so := (ry_size I3.1 o2).1
  have inc3 := ki_inc (a := xi τ3 18 ol) (by omega) (by rw [q5, inc] at slt; omega)
  have bl3 : (xi τ3 18 ol).toInt < (ylb g ol : Int) := by
    have : ylb g ol ≥ 100 := by unfold ylb; split <;> omega
    rw [q5, inc] at slt
    omega
  refine ⟨fg_tag F3 tR (by decide), a, ea3, ta3, ol, o1, o2, ?_⟩
  refine ry_add I3.1 hB4 hn2 o2 (by rw [tp3, o3]) bl3 (fun τ4 L4 A4 => ?_)
  have og : ∀ i, κ (g i) ≠ 9 ∨ g i = g 5 → xi τ4 18 (g i) = xi τ3 18 (g i) := fun i h => by
    rw [A4.2.2.2.1, va_up_ne _ _ (fun e => ?_)]
    rcases h with h | h
    · exact h (by rw [e]; exact o3)
    · exact o4 (e.symm.trans h)
  have p1 := og 1 (.inl (by rw [(yg1 I3).2.2]; decide))
  have p2 := og 2 (.inl (by rw [(yg2 I3).2.2]; decide))
  have p3 := og 3 (.inl (by rw [(yg3 I3).2.2]; decide))
  have p4 := og 4 (.inl (by rw [(yg4 I3).2.2]; decide))
  have p5 := og 5 (.inr rfl)
  have S4 := yS_add I3 A4 (fun e => by have := (yg1 I3).2.2; rw [← e, o3] at this; cases this) (by rw [p3, q3]; exact SS.2.1) (by rw [p4, q4]; exact SS.2.2.1) (by rw [p5, q5, inc]; exact Int.add_one_le_of_lt sc)
  have I4 := yI_tr2 I3 L4 A4 S4 (fun l hl k9 => by
    have old := (I3.2.2.2.1 l).2.2.2.2.2.2.2 hl k9
    rw [p5]
    by_cases e : l = ol
    · rw [e, A4.2.2.2.1, va_up_self, inc3]; exact Int.add_one_le_of_lt slt
    · rw [A4.2.2.2.1, va_up_ne _ _ e]; exact old)
  have g5 := yg5 I4
  have eq4 : xi τ4 18 (g 5) - 1 = s.1.2.2.2.1 := by
    rw [p5, q5, ← ids2.2.2.2.1]
    refine ki_eq.2 ?_
    rw [ki_dec2 (by rw [inc]; omega), inc]
    omega
  rw [p2, p4, p5, q2, q4, q5, ids2.2.1, ids2.2.2.1, ids2.2.2.2.1] at I4
  refine ⟨yg0 I4, g 5, g5.1, g5.2.1, g5.2.1, rfl, eq4, ?_⟩
  exact yZ_of I4 hn hB1
