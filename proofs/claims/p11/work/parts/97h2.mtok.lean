/-! the reference's tokens -/
def mt_ (f : Nat → Int32) (n : Nat) (μ : km_S) : Prop := (km_i μ 61).toInt = (n : Int) ∧ n ≤ 500 ∧ ∀ i, i < n → km_a μ 52 i = f i
/-- nothing but the token changed -/
def mk_ (μ u : km_S) : Prop := (∀ j, j ≠ 60 → j ≠ 62 → j ≠ 63 → j ≠ 64 → j ≠ 65 → km_i u j = km_i μ j) ∧ u.2 = μ.2
theorem mk_refl {μ : km_S} : mk_ μ μ := ⟨fun _ _ _ _ _ _ => rfl, rfl⟩
theorem mk_trans {a b c : km_S} (h : mk_ a b) (k : mk_ b c) : mk_ a c := ⟨fun j h1 h2 h3 h4 h5 => (k.1 j h1 h2 h3 h4 h5).trans (h.1 j h1 h2 h3 h4 h5), k.2.trans h.2⟩
theorem mk_si {μ u : km_S} {f : Nat} {v : Int32} (h : mk_ μ u) (hf : f = 60 ∨ f = 62 ∨ f = 63 ∨ f = 64 ∨ f = 65) : mk_ μ (km_si u f v) := by
  refine ⟨fun j h1 h2 h3 h4 h5 => ?_, h.2⟩
  refine Eq.trans ?_ (h.1 j h1 h2 h3 h4 h5)
  show upd u.1 f v j = u.1 j
  refine w_updN ?_
  rcases hf with rfl | rfl | rfl | rfl | rfl <;> assumption
theorem mt_mk {f : Nat → Int32} {n : Nat} {μ u : km_S} (h : mt_ f n μ) (k : mk_ μ u) : mt_ f n u := by
  refine ⟨by rw [k.1 61 (by decide) (by decide) (by decide) (by decide) (by decide)]; exact h.1, h.2.1, fun i hi => ?_⟩
  show u.2.1 52 i = f i
  rw [k.2]
  exact h.2.2 i hi
theorem vm_byteAt {f : Nat → Int32} {n p : Nat} {μ : km_S} {i : Int32} {Q : Int32 → km_S → Prop} (h : mt_ f n μ) (hp : i.toInt = (p : Int)) (kk : Q (t_by f n p) μ) : vX12_byteAt i μ Q := by
  unfold vX12_byteAt
  refine ⟨fun c => ?_, fun c _ => ?_⟩
  · rw [ki_le, h.1] at c
    unfold t_by at kk
    rw [if_neg (by omega)] at kk
    exact kk
  · rw [ki_le, h.1] at c
    unfold t_by at kk
    rw [if_pos (by omega)] at kk
    rw [show i.toNatClampNeg = p by rw [ki_nat]; omega, h.2.2 p (by omega)]
    exact kk
/-- letters and digits by their kinds -/
theorem vm_isLetter {b : Int32} {μ : km_S} {Q : Int32 → km_S → Prop} (k0 : ¬ t_kd b = 1 → Q 0 μ) (k1 : t_kd b = 1 → Q 1 μ) : vX12_isLetter b μ Q := by
  have no : (b < 97 ∨ 122 < b) → ¬ t_kd b = 1 := by
    intro h
    by_cases h2 : b < 48 ∨ 57 < b
    · rw [t_kd28 h h2]
      split
      · decide
      · split
        · decide
        · split
          · next q => intro e; rw [e] at q; exact absurd q (by decide)
          · decide
    · rw [t_kd2 h h2]
      decide
  refine ⟨fun c => k0 (no (.inl c)), fun c => ⟨fun d => k0 (no (.inr d)), fun d => k1 (t_kd1 (fun x => x.elim c d))⟩⟩
theorem vm_isDigit {b : Int32} {μ : km_S} {Q : Int32 → km_S → Prop} (k0 : ¬ t_kd b = 2 → Q 0 μ) (k1 : t_kd b = 2 → Q 1 μ) : vX12_isDigit b μ Q := by
  have z97 : (97 : Int32).toInt = 97 := by decide
  have z48 : (48 : Int32).toInt = 48 := by decide
  have z57 : (57 : Int32).toInt = 57 := by decide
  have no : (b < 48 ∨ 57 < b) → ¬ t_kd b = 2 := by
    intro h2
    by_cases h : b < 97 ∨ 122 < b
    · rw [t_kd28 h h2]
      split
      · decide
      · split
        · decide
        · split
          · next q => intro e; rw [e] at q; exact absurd q (by decide)
          · decide
    · rw [t_kd1 h]
      decide
  refine ⟨fun c => k0 (no (.inl c)), fun c => ⟨fun d => k0 (no (.inr d)), fun d => k1 (t_kd2 (.inl ?_) (fun x => x.elim c d))⟩⟩
  rw [ki_lt, z57] at d
  rw [ki_lt, z97]
  omega
/-- the reference's own names of the kinds -/
def t_rk (k : Int32) : Int32 := if k = 0 then 0 else if k = 1 then 1 else if k = 2 then 2 else if k = 4 then 4 else 3
def mT_ (t : tk_T) (μ : km_S) : Prop := (km_i μ 60).toInt = (t.2.2 : Int) ∧ (km_i μ 64).toInt = (t.2.1 : Int) ∧ (km_i μ 65).toInt = (t.2.2 : Int) ∧ km_i μ 62 = t_rk t.1 ∧ (t_rk t.1 = 3 → km_i μ 63 = t.1)
theorem vm_run {f : Nat → Int32} {n : Nat} {K : km_S → Prop} {Q : km_S → Prop} : ∀ (j : Nat) (μ : km_S) (p : Nat), mt_ f n μ → p ≤ n → (km_i μ 60).toInt = (p : Int) → (∀ u, mk_ μ u → km_i u 62 = km_i μ 62 → km_i u 63 = km_i μ 63 → km_i u 64 = km_i μ 64 → (km_i u 60).toInt = (t_end f n 1 p : Int) → K u) → vX12_step_81 K Q j μ := by
  intro j
  induction j with
  | zero => intro _ _ _ _ _ _; exact trivial
  | succ j ih =>
    intro μ p h hpn hp kk
    unfold vX12_step_81
    refine vm_byteAt h hp (vm_isLetter (fun c => ⟨fun _ => ?_, fun x => absurd rfl x⟩) (fun c => ⟨fun x => absurd x (by decide), fun _ => ?_⟩))
    · refine kk μ mk_refl rfl rfl rfl ?_
      by_cases d : p < n
      · unfold t_by at c
        rw [if_pos d] at c
        rw [t_end_ne d c]
        exact hp
      · rw [t_end_hi (by omega)]
        exact hp
    · rintro μ19 rfl
      have d : p < n := by
        by_cases d : p < n
        · exact d
        · unfold t_by at c
          rw [if_neg d] at c
          exact absurd c (by decide)
      unfold t_by at c
      rw [if_pos d] at c
      have h5 := h.2.1
      have m1 := mk_si (v := km_i μ 60 + 1) (mk_refl (μ := μ)) (f := 60) (.inl rfl)
      refine ih _ (p + 1) (mt_mk h m1) (by omega) ?_ (fun u a b1 b2 b3 b4 => kk u (mk_trans m1 a) b1 b2 b3 (by rw [t_end_eq d c]; exact b4))
      show (upd μ.1 60 (km_i μ 60 + 1) 60).toInt = _
      rw [w_updS, ki_add (by rw [hp, ki_z1]; omega) (by rw [hp, ki_z1]; omega), hp, ki_z1]
      omega
theorem vm_run2 {f : Nat → Int32} {n : Nat} {K : km_S → Prop} {Q : km_S → Prop} : ∀ (j : Nat) (μ : km_S) (p : Nat), mt_ f n μ → p ≤ n → (km_i μ 60).toInt = (p : Int) → (∀ u, mk_ μ u → km_i u 62 = km_i μ 62 → km_i u 63 = km_i μ 63 → km_i u 64 = km_i μ 64 → (km_i u 60).toInt = (t_end f n 2 p : Int) → K u) → vX12_step_123 K Q j μ := by
  intro j
  induction j with
  | zero => intro _ _ _ _ _ _; exact trivial
  | succ j ih =>
    intro μ p h hpn hp kk
    unfold vX12_step_123
    refine vm_byteAt h hp (vm_isDigit (fun c => ⟨fun _ => ?_, fun x => absurd rfl x⟩) (fun c => ⟨fun x => absurd x (by decide), fun _ => ?_⟩))
    · refine kk μ mk_refl rfl rfl rfl ?_
      by_cases d : p < n
      · unfold t_by at c
        rw [if_pos d] at c
        rw [t_end_ne d c]
        exact hp
      · rw [t_end_hi (by omega)]
        exact hp
    · rintro μ19 rfl
      have d : p < n := by
        by_cases d : p < n
        · exact d
        · unfold t_by at c
          rw [if_neg d] at c
          exact absurd c (by decide)
      unfold t_by at c
      rw [if_pos d] at c
      have h5 := h.2.1
      have m1 := mk_si (v := km_i μ 60 + 1) (mk_refl (μ := μ)) (f := 60) (.inl rfl)
      refine ih _ (p + 1) (mt_mk h m1) (by omega) ?_ (fun u a b1 b2 b3 b4 => kk u (mk_trans m1 a) b1 b2 b3 (by rw [t_end_eq d c]; exact b4))
      show (upd μ.1 60 (km_i μ 60 + 1) 60).toInt = _
      rw [w_updS, ki_add (by rw [hp, ki_z1]; omega) (by rw [hp, ki_z1]; omega), hp, ki_z1]
      omega
theorem t_kd5 {b : Int32} : t_kd b = 5 ↔ b = 32 ∨ b = 10 := by
  constructor
  · intro h
    by_cases h1 : b < 97 ∨ 122 < b
    · by_cases h2 : b < 48 ∨ 57 < b
      · rw [t_kd28 h1 h2] at h
        split at h
        · exact absurd h (by decide)
        · split at h
          · next q => exact q.symm
          · split at h
            · next q => rw [h] at q; exact absurd q (by decide)
            · exact absurd h (by decide)
      · rw [t_kd2 h1 h2] at h
        exact absurd h (by decide)
    · rw [t_kd1 h1] at h
      exact absurd h (by decide)
  · rintro (h | h) <;> rw [h] <;> decide
theorem vm_skip {f : Nat → Int32} {n : Nat} {K : km_S → Prop} {Q : km_S → Prop} : ∀ (j : Nat) (μ : km_S) (p : Nat), mt_ f n μ → p ≤ n → (km_i μ 60).toInt = (p : Int) → (∀ u, mk_ μ u → (km_i u 60).toInt = (t_end f n 5 p : Int) → K u) → vX12_step_0 K Q j μ := by
  intro j
  induction j with
  | zero => intro _ _ _ _ _ _; exact trivial
  | succ j ih =>
    intro μ p h hpn hp kk
    have next : t_kd (t_by f n p) = 5 → vX12_step_26 (vX12_step_0 K Q j) Q μ := by
      intro c
      unfold vX12_step_26
      rintro μ6 rfl
      have d : p < n := by
        by_cases d : p < n
        · exact d
        · unfold t_by at c
          rw [if_neg d] at c
          exact absurd c (by decide)
      unfold t_by at c
      rw [if_pos d] at c
      have h5 := h.2.1
      have m1 := mk_si (v := km_i μ 60 + 1) (mk_refl (μ := μ)) (f := 60) (.inl rfl)
      refine ih _ (p + 1) (mt_mk h m1) (by omega) ?_ (fun u a b => kk u (mk_trans m1 a) (by rw [t_end_eq d c]; exact b))
      show (upd μ.1 60 (km_i μ 60 + 1) 60).toInt = _
      rw [w_updS, ki_add (by rw [hp, ki_z1]; omega) (by rw [hp, ki_z1]; omega), hp, ki_z1]
      omega
    unfold vX12_step_0
    refine vm_byteAt h hp ⟨fun c => next (t_kd5.2 (.inl c)), fun c => ?_⟩
    refine vm_byteAt h hp ⟨fun d => ?_, fun d => next (t_kd5.2 (.inr d))⟩
    refine kk μ mk_refl ?_
    by_cases e : p < n
    · have q : ¬ t_kd (f p) = 5 := by
        intro q
        have c' := c
        have d' := d
        unfold t_by at c' d'
        rw [if_pos e] at c' d'
        exact (t_kd5.1 q).elim c' d'
      rw [t_end_ne e q]
      exact hp
    · rw [t_end_hi (by omega)]
      exact hp
theorem t_run_idem {f : Nat → Int32} {n : Nat} {k : Int32} : ∀ (m p : Nat), p + m = n → t_end f n k (t_run f k m p) = t_run f k m p := by
  intro m
  induction m with
  | zero => intro p h; exact t_end_hi (by show n ≤ p; omega)
  | succ m ih =>
    intro p h
    show t_end f n k (if t_kd (f p) = k then t_run f k m (p + 1) else p) = (if t_kd (f p) = k then t_run f k m (p + 1) else p)
    split
    · exact ih (p + 1) (by omega)
    · next q => exact t_end_ne (by omega) q
theorem t_end_idem {f : Nat → Int32} {n : Nat} {k : Int32} {p : Nat} (h : p ≤ n) : t_end f n k (t_end f n k p) = t_end f n k p := t_run_idem (n - p) p (by omega)
theorem vm_step {f : Nat → Int32} {n p : Nat} {μ : km_S} {Q : km_S → Prop} (hbytes : ∀ i, i < n → ¬ f i = -1) (h : mt_ f n μ) (hp : (km_i μ 60).toInt = (p : Int)) (hpn : p ≤ n) (kk : ∀ u, mk_ μ u → mt_ f n u → mT_ (t_tok f n p) u → Q u) : vX12_step μ Q := by
  unfold vX12_step
  intro j
  refine vm_skip j μ p h hpn hp (fun μ0 a0 b0 => ?_)
  obtain ⟨s, es⟩ : ∃ s, s = t_end f n 5 p := ⟨_, rfl⟩
  have hs : s ≤ n := by rw [es]; exact (t_end_ge hpn).2
  have h5 := h.2.1
  rw [← es] at b0
  unfold vX12_step_39
  rintro μ26 rfl μ27 rfl
  have m27 := mk_si (v := 0) (mk_si (v := km_i μ0 60) a0 (f := 64) (.inr (.inr (.inr (.inl rfl))))) (f := 63) (.inr (.inr (.inl rfl)))
  obtain ⟨μ2, eμ⟩ : ∃ μ2, μ2 = km_si (km_si μ0 64 (km_i μ0 60)) 63 0 := ⟨_, rfl⟩
  have x60 : (km_i μ2 60).toInt = (s : Int) := by rw [eμ]; exact b0
  have x64 : (km_i μ2 64).toInt = (s : Int) := by
    rw [eμ]
    show (upd μ0.1 64 (km_i μ0 60) 64).toInt = _
    rw [w_updS]
    exact b0
  rw [← eμ] at m27
  rw [← eμ]
  have c2 := mt_mk h m27
  obtain ⟨b, eb⟩ : ∃ b, b = t_by f n s := ⟨_, rfl⟩
  obtain ⟨k, ek⟩ : ∃ k, k = t_kd b := ⟨_, rfl⟩
  have et : t_tok f n p = (k, s, if k = 1 ∨ k = 2 then t_end f n k s else min (s + 1) n) := by
    unfold t_tok t_at
    rw [← es, ← eb, ← ek]
  have fin : ∀ (u : km_S) (e : Nat), mk_ μ u → (km_i u 60).toInt = (e : Int) → (km_i u 64).toInt = (s : Int) → km_i u 62 = t_rk k → (t_rk k = 3 → km_i u 63 = k) → t_tok f n p = (k, s, e) → vX12_step_246 Q u := by
    intro u e mu u60 u64 u62 u63 q
    unfold vX12_step_246
    rintro μ5 rfl
    have m5 := mk_si (v := km_i u 60) mu (f := 65) (.inr (.inr (.inr (.inr rfl))))
    refine kk _ m5 (mt_mk h m5) ?_
    rw [q]
    refine ⟨u60, u64, ?_, u62, u63⟩
    show (upd u.1 65 (km_i u 60) 65).toInt = _
    rw [w_updS]
    exact u60
  refine vm_byteAt c2 x60 ⟨fun c => ?_, fun c => ?_⟩
  · rw [← eb] at c
    rw [← eb]
    have hlt : s < n := by
      by_cases d : s < n
      · exact d
      · unfold t_by at eb
        rw [if_neg d] at eb
        exact absurd eb c
    refine vm_isLetter (fun c1 => ⟨fun _ => ?_, fun x => absurd rfl x⟩) (fun c1 => ⟨fun x => absurd x (by decide), fun _ j2 => ?_⟩)
    · rw [← ek] at c1
      refine vm_isDigit (fun c2' => ⟨fun _ => ?_, fun x => absurd rfl x⟩) (fun c2' => ⟨fun x => absurd x (by decide), fun _ j2 => ?_⟩)
      · rw [← ek] at c2'
        rintro μ37 rfl
        have m37 := mk_si (v := km_i μ2 60 + 1) m27 (f := 60) (.inl rfl)
        have e1 : min (s + 1) n = s + 1 := by omega
        have y60 : (km_i (km_si μ2 60 (km_i μ2 60 + 1)) 60).toInt = ((s + 1 : Nat) : Int) := by
          show (upd μ2.1 60 (km_i μ2 60 + 1) 60).toInt = _
          rw [w_updS, ki_add (by rw [x60, ki_z1]; omega) (by rw [x60, ki_z1]; omega), x60, ki_z1]
          omega
        have et2 : t_tok f n p = (k, s, s + 1) := by rw [et, if_neg (fun x => x.elim c1 c2'), e1]
        have sg : ∀ a : Int32, t_kd a = a → t_rk a = 3 → b = a → vX12_step_222 (vX12_step_227 (vX12_step_246 Q) Q) Q b (km_si μ2 60 (km_i μ2 60 + 1)) := by
          intro a ha hr e
          have kb : k = b := by rw [ek, e]; exact ha
          unfold vX12_step_222 vX12_step_227
          refine ⟨fun x => absurd x (by decide), fun _ => ?_⟩
          unfold vX12_step_238
          rintro μ1 rfl μ3 rfl
          refine fin _ (s + 1) (mk_si (mk_si m37 (f := 62) (.inr (.inl rfl))) (f := 63) (.inr (.inr (.inl rfl)))) y60 x64 ?_ (fun _ => ?_) et2
          · show upd μ2.1 62 3 62 = _
            rw [w_updS, kb, e, hr]
          · show upd (upd (upd μ2.1 60 (km_i μ2 60 + 1)) 62 3) 63 b 63 = _
            rw [w_updS, kb]
        refine ⟨sg 40 (by decide) (by decide), fun n1 => ⟨sg 41 (by decide) (by decide), fun n2 => ⟨sg 59 (by decide) (by decide), fun n3 => ⟨sg 43 (by decide) (by decide), fun n4 => ⟨sg 45 (by decide) (by decide), fun n5 => ⟨sg 42 (by decide) (by decide), fun n6 => ⟨sg 47 (by decide) (by decide), fun n7 => ⟨sg 60 (by decide) (by decide), fun n8 => ⟨fun n9 => ?_, sg 61 (by decide) (by decide)⟩⟩⟩⟩⟩⟩⟩⟩⟩
        have n5b : ¬ k = 5 := by
          intro q
          have hq : t_kd (f s) = 5 := by
            rw [← q, ek, eb]
            unfold t_by
            rw [if_pos hlt]
          have hx : t_end f n 5 s = t_end f n 5 (s + 1) := t_end_eq hlt hq
          have h1 : t_end f n 5 s = s := by
            rw [es]
            exact t_end_idem hpn
          have h2 := (t_end_ge (f := f) (k := 5) (show s + 1 ≤ n by omega)).1
          omega
        have k4 : k = 4 := by
          have h1 : b < 97 ∨ 122 < b := by
            by_cases q : b < 97 ∨ 122 < b
            · exact q
            · exact absurd (ek.trans (t_kd1 q)) c1
          have h2 : b < 48 ∨ 57 < b := by
            by_cases q : b < 48 ∨ 57 < b
            · exact q
            · exact absurd (ek.trans (t_kd2 h1 q)) c2'
          rw [ek, t_kd28 h1 h2, if_neg c]
          rw [if_neg (fun q => n5b (ek.trans (t_kd5.2 q.symm))), if_neg]
          rintro (x | x | x | x | x | x | x | x | x)
          · exact n1 x
          · exact n2 x
          · exact n6 x
          · exact n4 x
          · exact n5 x
          · exact n7 x
          · exact n3 x
          · exact n8 x
          · exact n9 x
        unfold vX12_step_227
        refine ⟨fun _ => ?_, fun x => absurd rfl x⟩
        unfold vX12_step_238
        rintro μ1 rfl μ3 rfl
        refine fin _ (s + 1) (mk_si (mk_si m37 (f := 62) (.inr (.inl rfl))) (f := 63) (.inr (.inr (.inl rfl)))) y60 x64 ?_ (fun q => ?_) et2
        · show upd μ2.1 62 4 62 = _
          rw [w_updS, k4]
          decide
        · rw [k4] at q
          exact absurd q (by decide)
      · rw [← ek] at c2'
        refine vm_run2 j2 μ2 s c2 hs x60 (fun u a b1 b2 b3 b4 => ?_)
        unfold vX12_step_150
        rintro μ3 rfl
        refine fin _ (t_end f n 2 s) (mk_si (mk_trans m27 a) (f := 62) (.inr (.inl rfl))) b4 (by show (km_i u 64).toInt = _; rw [b3]; exact x64) ?_ (fun q => ?_) (by rw [et, c2', if_pos (.inr rfl)])
        · show upd u.1 62 2 62 = _
          rw [w_updS, c2']
          decide
        · rw [c2'] at q
          exact absurd q (by decide)
    · rw [← ek] at c1
      refine vm_run j2 μ2 s c2 hs x60 (fun u a b1 b2 b3 b4 => ?_)
      unfold vX12_step_108
      rintro μ3 rfl
      refine fin _ (t_end f n 1 s) (mk_si (mk_trans m27 a) (f := 62) (.inr (.inl rfl))) b4 (by show (km_i u 64).toInt = _; rw [b3]; exact x64) ?_ (fun q => ?_) (by rw [et, c1, if_pos (.inl rfl)])
      · show upd u.1 62 1 62 = _
        rw [w_updS, c1]
        decide
      · rw [c1] at q
        exact absurd q (by decide)
  · rw [← eb] at c
    have k0 : k = 0 := by rw [ek, c]; decide
    rintro μ49 rfl
    -- no byte of a tape is -1: either the end, or a byte that says so
    refine fin _ (min (s + 1) n) (mk_si m27 (f := 62) (.inr (.inl rfl))) ?_ x64 ?_ (fun q => ?_) (by rw [et, k0, if_neg (by decide)])
    · show (km_i μ2 60).toInt = _
      rw [x60]
      have : n ≤ s := by
        by_cases d : s < n
        · exfalso
          unfold t_by at eb
          rw [if_pos d] at eb
          exact hbytes s d (by rw [← eb]; exact c)
        · omega
      omega
    · show upd μ2.1 62 0 62 = _
      rw [w_updS, k0]
      decide
    · rw [k0] at q
      exact absurd q (by decide)
