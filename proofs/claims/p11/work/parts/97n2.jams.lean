/-! jams: what is set by a loop -/
noncomputable def kn_f (P : Nat → Prop) (v : Int32) (old : Nat → Int32) : Nat → Int32 := fun k => @ite Int32 (P k) (Classical.propDecidable (P k)) v (old k)
theorem kn_y {P : Nat → Prop} {v : Int32} {old : Nat → Int32} {k : Nat} (h : P k) : kn_f P v old k = v := by
  unfold kn_f
  exact if_pos h
theorem kn_n {P : Nat → Prop} {v : Int32} {old : Nat → Int32} {k : Nat} (h : ¬ P k) : kn_f P v old k = old k := by
  unfold kn_f
  exact if_neg h
theorem kn_c {P P' : Nat → Prop} {v : Int32} {old : Nat → Int32} (h : ∀ k, P k ↔ P' k) : kn_f P v old = kn_f P' v old := by
  have : P = P' := funext fun k => propext (h k)
  rw [this]
theorem kn_0 {v : Int32} {old : Nat → Int32} {P : Nat → Prop} (h : ∀ k, ¬ P k) : kn_f P v old = old := funext fun k => kn_n (h k)
theorem kn_u {P : Nat → Prop} {v : Int32} {old : Nat → Int32} {i : Nat} : upd (kn_f P v old) i v = kn_f (fun k => P k ∨ k = i) v old := by
  funext k
  by_cases c : k = i
  · rw [c, w_updS, kn_y (.inr rfl)]
  · rw [w_updN c]
    by_cases d : P k
    · rw [kn_y d, kn_y (.inl d)]
    · rw [kn_n d, kn_n (fun q => q.elim d c)]
/-- a whole field is another -/
def ff_ (a : ra_T) (f : Nat) (F : Nat → Int32) : ra_T := (fun g => if g = f then F else a.1 g, a.2)
theorem ff_s {a : ra_T} {f : Nat} {F : Nat → Int32} : (ff_ a f F).1 f = F := if_pos rfl
theorem ff_n {a : ra_T} {f g : Nat} {F : Nat → Int32} (h : g ≠ f) : (ff_ a f F).1 g = a.1 g := if_neg h
theorem ff_id {a : ra_T} {f : Nat} {F : Nat → Int32} (h : F = a.1 f) : ff_ a f F = a := by
  refine Prod.ext (funext fun g => ?_) rfl
  show (if g = f then F else a.1 g) = a.1 g
  by_cases c : g = f
  · rw [if_pos c, h, c]
  · rw [if_neg c]
theorem ff_fs {a : ra_T} {f i : Nat} {F : Nat → Int32} {v : Int32} : fs_ (ff_ a f F) f i v = ff_ a f (upd F i v) := by
  refine Prod.ext (funext fun g => ?_) rfl
  show (if g = f then upd (if f = f then F else a.1 f) i v else (if g = f then F else a.1 g)) = (if g = f then upd F i v else a.1 g)
  rw [if_pos rfl]
  by_cases c : g = f
  · rw [if_pos c, if_pos c]
  · rw [if_neg c, if_neg c, if_neg c]
/-- the cells ahead of a place -/
def bf_ (r c r' c' : Nat) : Prop := r' < r ∨ (r' = r ∧ c' < c)
def cp2_ (nr : Nat) (a : ra_T) (C : Nat → Nat → Prop) (r c k : Nat) : Prop := ∃ r' c', r' < nr ∧ c' < ln_ a r' ∧ k = 12 * r' + c' ∧ C r' c' ∧ bf_ r c r' c'
theorem cp2_step {nr : Nat} {a : ra_T} {C : Nat → Nat → Prop} {r c : Nat} (hr : r < nr) (hc : c < ln_ a r) (k : Nat) : cp2_ nr a C r (c + 1) k ↔ cp2_ nr a C r c k ∨ (k = 12 * r + c ∧ C r c) := by
  constructor
  · rintro ⟨r', c', h1, h2, h3, h4, h5⟩
    rcases h5 with q | ⟨q1, q2⟩
    · exact .inl ⟨r', c', h1, h2, h3, h4, .inl q⟩
    · by_cases e : c' = c
      · rw [q1, e] at h3 h4
        exact .inr ⟨h3, h4⟩
      · exact .inl ⟨r', c', h1, h2, h3, h4, .inr ⟨q1, by omega⟩⟩
  · rintro (⟨r', c', h1, h2, h3, h4, h5⟩ | ⟨h1, h2⟩)
    · exact ⟨r', c', h1, h2, h3, h4, h5.elim .inl (fun q => .inr ⟨q.1, by omega⟩)⟩
    · exact ⟨r, c, hr, hc, h1, h2, .inr ⟨rfl, by omega⟩⟩
theorem cp2_y {nr : Nat} {a : ra_T} {C : Nat → Nat → Prop} {r c : Nat} (hr : r < nr) (hc : c < ln_ a r) (yC : C r c) (k : Nat) : cp2_ nr a C r (c + 1) k ↔ (cp2_ nr a C r c k ∨ k = 12 * r + c) := by
  rw [cp2_step hr hc]
  exact ⟨fun z => z.elim .inl (fun y => .inr y.1), fun z => z.elim .inl (fun y => .inr ⟨y, yC⟩)⟩
theorem cp2_no {nr : Nat} {a : ra_T} {C : Nat → Nat → Prop} {r c : Nat} (hr : r < nr) (hc : c < ln_ a r) (nC : ¬ C r c) (k : Nat) : cp2_ nr a C r (c + 1) k ↔ cp2_ nr a C r c k := by
  rw [cp2_step hr hc]
  exact ⟨fun z => z.elim id (fun y => absurd y.2 nC), .inl⟩
theorem cp2_next {nr : Nat} {a : ra_T} {C : Nat → Nat → Prop} {r c : Nat} (hc : ln_ a r ≤ c) (k : Nat) : cp2_ nr a C r c k ↔ cp2_ nr a C (r + 1) 0 k := by
  constructor
  · rintro ⟨r', c', h1, h2, h3, h4, h5⟩
    exact ⟨r', c', h1, h2, h3, h4, .inl (by rcases h5 with q | q <;> omega)⟩
  · rintro ⟨r', c', h1, h2, h3, h4, h5⟩
    refine ⟨r', c', h1, h2, h3, h4, ?_⟩
    rcases h5 with q | q
    · by_cases e : r' = r
      · exact .inr ⟨e, by rw [e] at h2; omega⟩
      · exact .inl (by omega)
    · omega
theorem cp2_skip {nr : Nat} {a : ra_T} {C : Nat → Nat → Prop} {r : Nat} (hC : ∀ c, ¬ C r c) (k : Nat) : cp2_ nr a C r 0 k ↔ cp2_ nr a C (r + 1) 0 k := by
  constructor
  · rintro ⟨r', c', h1, h2, h3, h4, h5⟩
    exact ⟨r', c', h1, h2, h3, h4, .inl (by rcases h5 with q | q <;> omega)⟩
  · rintro ⟨r', c', h1, h2, h3, h4, h5⟩
    refine ⟨r', c', h1, h2, h3, h4, .inl ?_⟩
    rcases h5 with q | q
    · by_cases e : r' = r
      · rw [e] at h4
        exact absurd h4 (hC c')
      · omega
    · omega
theorem cp2_0 {nr : Nat} {a : ra_T} {C : Nat → Nat → Prop} (k : Nat) : ¬ cp2_ nr a C 0 0 k := by
  rintro ⟨r', c', _, _, _, _, h5⟩
  rcases h5 with q | q <;> omega
/-- (c) each cell that holds CARRY, in a reach whose flow is below JAM -/
def jC_ (a : ra_T) (r c : Nat) : Prop := (a.1 15 r).toInt ≤ ((a.2 (12 * r + c)).length : Int) ∧ (a.1 18 r).toInt < (a.1 16 r).toInt
noncomputable def a_jam (nr : Nat) (a : ra_T) : ra_T := ff_ a 33 (kn_f (cp2_ nr a (jC_ a) nr 0) 1 (a.1 33))
theorem vr_jams12 {nr nl r : Nat} {a : ra_T} {ri : Int32} {K : Int32 → km_S → Prop} {Q : km_S → Prop} (h10 : nr ≤ 10) (A : ao_ nr nl a) (hr : r < nr) (hri : ri.toInt = (r : Int)) : ∀ (j c : Nat) (l2 : Int32) (u : km_S), l2.toInt = (c : Int) → c ≤ ln_ a r → rA_ (ff_ a 33 (kn_f (cp2_ nr a (jC_ a) r c) 1 (a.1 33))) u → (∀ v, rA_ (ff_ a 33 (kn_f (cp2_ nr a (jC_ a) r (ln_ a r)) 1 (a.1 33))) v → (∀ j, km_i v j = km_i u j) → K ri v) → vX12_jams_12 K Q j ri l2 u := by
  have z12 : (12 : Int32).toInt = ((12 : Nat) : Int) := by decide
  have er : ri.toNatClampNeg = r := ki_toN hri
  obtain ⟨n1, n2, n3, _⟩ := A.1 r hr
  intro j
  induction j with
  | zero => intro _ _ _ _ _ _ _; exact trivial
  | succ j ih =>
    intro c l2 u h2 hc h kk
    have e14 : (km_a u 14 r).toInt = (ln_ a r : Int) := by
      rw [h.1 14 (by decide)]
      show (a.1 14 r).toInt = ((a.1 14 r).toNatClampNeg : Int)
      have : 1 ≤ (a.1 14 r).toNatClampNeg := n2
      rw [ki_nat] at this ⊢
      omega
    obtain ⟨w, ew, hw⟩ : ∃ w, w = 12 * ri + l2 ∧ w.toInt = ((12 * r + c : Nat) : Int) := ⟨_, rfl, ki_addN (ki_mulN z12 hri (by omega)) h2 (by omega)⟩
    have nx : ∀ v : Int32, v = l2 + 1 → v.toInt = ((c + 1 : Nat) : Int) := fun v e => by rw [e]; exact ki_addN h2 ki_z1 (by omega)
    unfold vX12_jams_12 vX12_at0
    dsimp only
    rw [er, ki_le, e14, h2, ← ew, ki_toN hw]
    intro _
    refine ⟨fun q => ?_, fun q _ _ => ?_⟩
    · have : c = ln_ a r := by omega
      subst this
      exact kk u h (fun _ => rfl)
    · have hlt : c < ln_ a r := by omega
      obtain ⟨b1, _⟩ := h.2.1 (12 * r + c) (by omega)
      have b1 : (km_a u 31 (12 * r + c)).toInt = ((a.2 (12 * r + c)).length : Int) := b1
      have e15 : km_a u 15 r = a.1 15 r := congrFun (h.1 15 (by decide)) r
      have e16 : km_a u 16 r = a.1 16 r := congrFun (h.1 16 (by decide)) r
      have e18 : km_a u 18 r = a.1 18 r := congrFun (h.1 18 (by decide)) r
      have cap := (A.2.2.2.1 r c hr hlt).1
      rw [e15, e16, e18]
      have no : ¬ jC_ a r c → vX12_jams_67 (vX12_jams_12 K Q j) Q ri l2 u := by
        intro nC
        unfold vX12_jams_67
        intro v7 e7
        refine ih (c + 1) v7 u (nx v7 e7) hlt ?_ kk
        rw [kn_c (fun k => cp2_no hr hlt nC k)]
        exact h
      rw [ki_eq, b1]
      refine ⟨fun d => no (fun z => d (by have := z.1; omega)), fun d _ _ => ?_⟩
      rw [ki_le]
      refine ⟨fun e => no (fun z => by have := z.2; omega), fun e _ => ?_⟩
      rintro μ42 rfl
      unfold vX12_jams_67
      intro v7 e7
      have yC : jC_ a r c := ⟨by omega, by omega⟩
      refine ih (c + 1) v7 _ (nx v7 e7) hlt ?_ (fun v hv gv => kk v hv (fun j => gv j))
      have h1 := rA_fs (i := 12 * r + c) (v := 1) h (f := 33) (by decide)
      rw [ff_fs, kn_u] at h1
      rw [kn_c (fun k => cp2_y hr hlt yC k)]
      exact h1
theorem vr_jam {nr nl : Nat} {a : ra_T} {K : km_S → Prop} {Q : km_S → Prop} {μ : km_S} (h10 : nr ≤ 10) (A : ao_ nr nl a) (hn : (km_i μ 3).toInt = (nr : Int)) (h : rA_ a μ) (kk : ∀ u, rA_ (a_jam nr a) u → (∀ j, km_i u j = km_i μ j) → K u) : ∀ j, vX12_jams_2 K Q j 0 μ := by
  have loop : ∀ (j r : Nat) (i : Int32) (u : km_S), i.toInt = (r : Int) → r ≤ nr → rA_ (ff_ a 33 (kn_f (cp2_ nr a (jC_ a) r 0) 1 (a.1 33))) u → (∀ j, km_i u j = km_i μ j) → vX12_jams_2 K Q j i u := by
    intro j
    induction j with
    | zero => intro _ _ _ _ _ _ _; exact trivial
    | succ j ih =>
      intro r i u hi hr hu g
      unfold vX12_jams_2
      rw [ki_le, g 3, hn, hi]
      refine ⟨fun q => ?_, fun q j2 => ?_⟩
      · have : r = nr := by omega
        subst this
        exact kk u hu g
      · have hlt : r < nr := by omega
        refine vr_jams12 h10 A hlt hi j2 0 0 u (by decide) (Nat.zero_le _) hu (fun v hv gv => ?_)
        unfold vX12_jams_73
        intro v6 e6
        refine ih (r + 1) v6 v (by rw [e6]; exact ki_addN hi ki_z1 (by omega)) hlt ?_ (fun j => (gv j).trans (g j))
        rw [← kn_c (fun k => cp2_next (Nat.le_refl _) k)]
        exact hv
  intro j
  refine loop j 0 0 μ (by decide) (Nat.zero_le _) ?_ (fun _ => rfl)
  rw [ff_id (kn_0 cp2_0)]
  exact h
