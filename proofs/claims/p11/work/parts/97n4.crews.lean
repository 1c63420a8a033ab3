/-! crews -/
def a_low (a : ra_T) (r : Nat) : Nat → Option Nat
  | 0 => none
  | c + 1 => if a.1 33 (12 * r + c) = 0 then a_low a r c else some c
theorem a_low_lt {a : ra_T} {r : Nat} : ∀ (n c : Nat), a_low a r n = some c → c < n := by
  intro n
  induction n with
  | zero => intro c h; exact absurd h (by show ¬ (none : Option Nat) = _; simp)
  | succ n ih =>
    intro c h
    unfold a_low at h
    split at h
    · have := ih c h; omega
    · have := Option.some.inj h; omega
def a_cr (a : ra_T) (k : Nat) : Nat := (a.1 44 k).toNatClampNeg
def a_free1 (now : Int32) (a : ra_T) (k : Nat) : ra_T := match a_low a (a_cr a k) (ln_ a (a_cr a k)) with
  | none => a
  | some c => if (a.1 45 k).toInt + 1 ≤ now.toInt ∧ (a.1 46 k).toInt + 2 ≤ now.toInt then fs_ (fs_ (fs_ a 33 (12 * a_cr a k + c) 0) 34 (12 * a_cr a k + c) 0) 46 k now else a
def a_free (now : Int32) : Nat → Nat → ra_T → ra_T
  | 0, _, a => a
  | m + 1, k, a => a_free now m (k + 1) (a_free1 now a k)
/-- what crews keep to, from the k-th on not yet at work in this hour -/
def co_ (nr nc : Nat) (now : Int32) (k0 : Nat) (a : ra_T) : Prop := (0 ≤ now.toInt ∧ now.toInt ≤ 20000) ∧ ∀ k, k < nc → (0 ≤ (a.1 44 k).toInt ∧ (a.1 44 k).toInt < (nr : Int)) ∧ (0 ≤ (a.1 45 k).toInt ∧ (a.1 45 k).toInt ≤ now.toInt) ∧ (-5 ≤ (a.1 46 k).toInt ∧ (a.1 46 k).toInt ≤ now.toInt) ∧ (k0 ≤ k → (a.1 46 k).toInt < now.toInt)
theorem a_free1_c {now : Int32} {a : ra_T} {k : Nat} : (∀ f, f ≠ 33 → f ≠ 34 → f ≠ 46 → (a_free1 now a k).1 f = a.1 f) ∧ (a_free1 now a k).2 = a.2 ∧ ∀ j, j ≠ k → (a_free1 now a k).1 46 j = a.1 46 j := by
  unfold a_free1
  split
  · exact ⟨fun _ _ _ _ => rfl, rfl, fun _ _ => rfl⟩
  · split
    · exact ⟨fun f h1 h2 h3 => (fs_n h3).trans ((fs_n h2).trans (fs_n h1)), rfl, fun j hj => w_updN hj⟩
    · exact ⟨fun _ _ _ _ => rfl, rfl, fun _ _ => rfl⟩
theorem co_free1 {nr nc : Nat} {now : Int32} {k : Nat} {a : ra_T} (h : co_ nr nc now k a) : co_ nr nc now (k + 1) (a_free1 now a k) := by
  obtain ⟨e1, e2, e3⟩ := a_free1_c (now := now) (a := a) (k := k)
  refine ⟨h.1, fun j hj => ?_⟩
  obtain ⟨b1, b2, b3, b4⟩ := h.2 j hj
  rw [e1 44 (by decide) (by decide) (by decide), e1 45 (by decide) (by decide) (by decide)]
  refine ⟨b1, b2, ?_⟩
  by_cases e : j = k
  · refine ⟨?_, fun q => by omega⟩
    rw [e]
    rw [e] at b3
    unfold a_free1
    split
    · exact b3
    · split
      · show -5 ≤ (upd (a.1 46) k now k).toInt ∧ (upd (a.1 46) k now k).toInt ≤ now.toInt
        rw [w_updS]
        have := h.1.1
        omega
      · exact b3
  · rw [e3 j e]
    exact ⟨b3, fun q => b4 (by omega)⟩
theorem vr_low {a : ra_T} {r : Nat} {ri ki : Int32} {K : Int32 → Int32 → Int32 → km_S → Prop} {Q : km_S → Prop} {u : km_S} (h : rA_ a u) (hr : ri.toInt = (r : Int)) (r10 : r < 10) (n1 : ln_ a r ≤ 12) (n2 : 1 ≤ ln_ a r) (kk : K ki ri (lI_ (a_low a r (ln_ a r))) u) : ∀ (j c : Nat) (l4 : Int32), l4.toInt = (c : Int) → c ≤ ln_ a r → vX12_jams_101 K Q j ki ri (lI_ (a_low a r c)) l4 u := by
  have z12 : (12 : Int32).toInt = ((12 : Nat) : Int) := by decide
  have e14 : (km_a u 14 r).toInt = (ln_ a r : Int) := by
    rw [h.1 14 (by decide)]
    show (a.1 14 r).toInt = ((a.1 14 r).toNatClampNeg : Int)
    have : 1 ≤ (a.1 14 r).toNatClampNeg := n2
    rw [ki_nat] at this ⊢
    omega
  intro j
  induction j with
  | zero => intro _ _ _ _; exact trivial
  | succ j ih =>
    intro c l4 h4 hc
    obtain ⟨w, ew, hw⟩ : ∃ w, w = 12 * ri + l4 ∧ w.toInt = ((12 * r + c : Nat) : Int) := ⟨_, rfl, ki_addN (ki_mulN z12 hr (by omega)) h4 (by omega)⟩
    unfold vX12_jams_101 vX12_at0
    dsimp only
    rw [ki_toN hr, ki_le, e14, h4, ← ew, ki_toN hw, h.1 33 (by decide)]
    intro _
    refine ⟨fun q => ?_, fun q _ => ?_⟩
    · have : c = ln_ a r := by omega
      rw [this]
      exact kk
    · have nx : ∀ v : Int32, v = l4 + 1 → v.toInt = ((c + 1 : Nat) : Int) := fun v e => by rw [e]; exact ki_addN h4 ki_z1 (by omega)
      unfold vX12_jams_129
      refine ⟨fun d v5 e5 => ?_, fun d v5 e5 => ?_⟩
      · have := ih (c + 1) v5 (nx v5 e5) (by omega)
        rw [show a_low a r (c + 1) = a_low a r c from if_pos d] at this
        exact this
      · have := ih (c + 1) v5 (nx v5 e5) (by omega)
        rw [show a_low a r (c + 1) = some c from if_neg d] at this
        rw [nI_at h4 (by omega)]
        exact this
theorem vr_free {nr nl nc : Nat} {K : km_S → Prop} {Q : km_S → Prop} {μ : km_S} (h10 : nr ≤ 10) (c6 : nc ≤ 6) (hn : (km_i μ 7).toInt = (nc : Int)) : ∀ (j m k : Nat) (a : ra_T) (i : Int32) (u : km_S), i.toInt = (k : Int) → k + m = nc → (∀ r, r < nr → ln_ a r ≤ 12 ∧ 1 ≤ ln_ a r) → co_ nr nc (km_i μ 2) k a → rA_ a u → (∀ j, km_i u j = km_i μ j) → (∀ v, rA_ (a_free (km_i μ 2) m k a) v → (∀ j, km_i v j = km_i μ j) → K v) → vX12_jams_81 K Q j i u := by
  have z12 : (12 : Int32).toInt = ((12 : Nat) : Int) := by decide
  intro j
  induction j with
  | zero => intro _ _ _ _ _ _ _ _ _ _ _ _; exact trivial
  | succ j ih =>
    intro m k a i u hi hm hl C h g kk
    unfold vX12_jams_81
    rw [ki_le, g 7, hn, hi]
    refine ⟨fun q => ?_, fun q _ => ?_⟩
    · have : m = 0 := by omega
      subst this
      exact kk u h g
    · obtain ⟨m, rfl⟩ : ∃ x, m = x + 1 := ⟨m - 1, by omega⟩
      have hk : k < nc := by omega
      obtain ⟨⟨t1, t2⟩, ⟨t3, t4⟩, ⟨t5, t6⟩, t7⟩ := C.2 k hk
      have t7 := t7 (Nat.le_refl k)
      obtain ⟨n0, n20⟩ := C.1
      rw [ki_toN hi, h.1 44 (by decide)]
      obtain ⟨r, hr⟩ : ∃ r : Nat, (a.1 44 k).toInt = (r : Int) := ⟨(a.1 44 k).toInt.toNat, by omega⟩
      have er : a_cr a k = r := ki_toN hr
      have hrn : r < nr := by omega
      obtain ⟨l1, l2⟩ := hl r hrn
      rintro v67 e67 j2
      have h67 : v67.toInt = (r : Int) := by rw [e67]; exact hr
      have nxt : ∀ (v : km_S) (b : ra_T), b = a_free1 (km_i μ 2) a k → rA_ b v → (∀ j, km_i v j = km_i μ j) → vX12_jams_205 (vX12_jams_81 K Q j) Q i v := by
        intro v b eb hb gv
        subst eb
        unfold vX12_jams_205
        intro v4 e4
        obtain ⟨e1, e2, _⟩ := a_free1_c (now := km_i μ 2) (a := a) (k := k)
        refine ih m (k + 1) (a_free1 (km_i μ 2) a k) v4 v (by rw [e4]; exact ki_addN hi ki_z1 (by omega)) (by omega) (fun r' hr' => ?_) (co_free1 C) hb gv kk
        unfold ln_
        rw [e1 14 (by decide) (by decide) (by decide)]
        exact hl r' hr'
      refine vr_low h h67 (by omega) l1 l2 ?_ j2 0 0 (by decide) (Nat.zero_le _)
      unfold vX12_jams_135
      have ef : a_free1 (km_i μ 2) a k = match a_low a r (ln_ a r) with
          | none => a
          | some c => if (a.1 45 k).toInt + 1 ≤ (km_i μ 2).toInt ∧ (a.1 46 k).toInt + 2 ≤ (km_i μ 2).toInt then fs_ (fs_ (fs_ a 33 (12 * r + c) 0) 34 (12 * r + c) 0) 46 k (km_i μ 2) else a := by
        unfold a_free1
        rw [er]
      cases e : a_low a r (ln_ a r) with
      | none =>
        rw [e] at ef
        exact ⟨fun _ => nxt u a ef.symm h g, fun q => absurd rfl q⟩
      | some c =>
        rw [e] at ef
        have hc := a_low_lt _ _ e
        have hci : (lI_ (some c)).toInt = (c : Int) := t_nI (by omega)
        obtain ⟨w1, ew1, hw1⟩ : ∃ w, w = km_i u 2 - 1 ∧ w.toInt = (km_i μ 2).toInt - 1 := ⟨_, rfl, by
          rw [g 2, ki_sub (by rw [ki_z1]; omega) (by rw [ki_z1]; omega), ki_z1]⟩
        obtain ⟨w, ew, hw⟩ : ∃ w, w = 12 * v67 + lI_ (some c) ∧ w.toInt = ((12 * r + c : Nat) : Int) := ⟨_, rfl, ki_addN (ki_mulN z12 h67 (by omega)) hci (by omega)⟩
        refine ⟨fun q => ?_, fun _ _ => ?_⟩
        · rw [ki_eq, hci, ki_zm] at q
          omega
        · rw [ki_toN hi, h.1 45 (by decide), h.1 46 (by decide), ← ew1, ki_lt, hw1, ki_eq, hw1]
          unfold vX12_at0
          dsimp only
          rw [← ew, ki_toN hw]
          refine ⟨fun d => nxt u a ?_ h g, fun d _ => ⟨fun e1 => ?_, fun e1 => nxt u a ?_ h g⟩⟩
          · rw [ef]
            exact (if_neg (by omega)).symm
          · rintro _ μ53 rfl _ μ57 rfl _ μ59 rfl
            have e2 : km_i (km_sa (km_sa u 33 (12 * r + c) (vp_nar .boolean 0)) 34 (12 * r + c) (vp_nar .boolean 0)) 2 = km_i μ 2 := g 2
            rw [e2]
            refine nxt _ _ ?_ (rA_fs (rA_fs (rA_fs h (f := 33) (by decide)) (f := 34) (by decide)) (f := 46) (by decide)) g
            rw [ef]
            exact (if_pos (by omega)).symm
          · rw [ef]
            exact (if_neg (by omega)).symm
/-! (e) what is seen -/
def kC_ (nc : Nat) (a : ra_T) (r c : Nat) : Prop := ¬ a.1 33 (12 * r + c) = 0 ∧ (¬ a.1 23 r = 0 ∨ ∃ k, k < nc ∧ (a.1 44 k).toInt = (r : Int))
noncomputable def a_known (nr nc : Nat) (a : ra_T) : ra_T := ff_ a 34 (kn_f (cp2_ nr a (kC_ nc a) nr 0) 1 (a.1 34))
theorem vr_seen {nc r : Nat} {a : ra_T} {ri : Int32} {K : Int32 → Int32 → km_S → Prop} {Q : km_S → Prop} {u : km_S} (h : rA_ a u) (hr : ri.toInt = (r : Int)) (hn : (km_i u 7).toInt = (nc : Int)) (c6 : nc ≤ 6) (kk : ∀ s : Int32, (s = 0 ↔ ¬ (¬ a.1 23 r = 0 ∨ ∃ k, k < nc ∧ (a.1 44 k).toInt = (r : Int))) → K ri s u) : ∀ (j k : Nat) (s l3 : Int32), l3.toInt = (k : Int) → k ≤ nc → (s = 0 ↔ ¬ (¬ a.1 23 r = 0 ∨ ∃ k', k' < k ∧ (a.1 44 k').toInt = (r : Int))) → vX12_jams_230 K Q j ri s l3 u := by
  intro j
  induction j with
  | zero => intro _ _ _ _ _ _; exact trivial
  | succ j ih =>
    intro k s l3 h3 hk hs
    unfold vX12_jams_230
    rw [ki_le, hn, h3]
    refine ⟨fun q => ?_, fun q _ => ?_⟩
    · have : k = nc := by omega
      subst this
      exact kk s hs
    · have nx : ∀ v : Int32, v = l3 + 1 → v.toInt = ((k + 1 : Nat) : Int) := fun v e => by rw [e]; exact ki_addN h3 ki_z1 (by omega)
      rw [ki_toN h3, h.1 44 (by decide), ki_eq, hr]
      unfold vX12_jams_250
      refine ⟨fun d v3 e3 => ih (k + 1) s v3 (nx v3 e3) (by omega) (hs.trans ?_), fun d v3 e3 => ih (k + 1) 1 v3 (nx v3 e3) (by omega) ?_⟩
      · constructor
        · rintro z (y | ⟨k', y1, y2⟩)
          · exact z (.inl y)
          · by_cases e : k' = k
            · rw [e] at y2; exact d y2
            · exact z (.inr ⟨k', by omega, y2⟩)
        · rintro z (y | ⟨k', y1, y2⟩)
          · exact z (.inl y)
          · exact z (.inr ⟨k', by omega, y2⟩)
      · constructor
        · intro z; exact absurd z (by decide)
        · intro z; exact absurd (.inr ⟨k, by omega, d⟩) z
theorem vr_known258 {nr nl nc r : Nat} {a : ra_T} {ri s : Int32} {K : Int32 → km_S → Prop} {Q : km_S → Prop} {μ : km_S} (h10 : nr ≤ 10) (hl : ln_ a r ≤ 12 ∧ 1 ≤ ln_ a r) (hr : r < nr) (hri : ri.toInt = (r : Int)) (hs : s = 0 ↔ ¬ (¬ a.1 23 r = 0 ∨ ∃ k, k < nc ∧ (a.1 44 k).toInt = (r : Int))) : ∀ (j c : Nat) (l3 : Int32) (u : km_S), l3.toInt = (c : Int) → c ≤ ln_ a r → rA_ (ff_ a 34 (kn_f (cp2_ nr a (kC_ nc a) r c) 1 (a.1 34))) u → (∀ j, km_i u j = km_i μ j) → (∀ v, rA_ (ff_ a 34 (kn_f (cp2_ nr a (kC_ nc a) (r + 1) 0) 1 (a.1 34))) v → (∀ j, km_i v j = km_i μ j) → K ri v) → vX12_jams_258 K Q j ri s l3 u := by
  have z12 : (12 : Int32).toInt = ((12 : Nat) : Int) := by decide
  intro j
  induction j with
  | zero => intro _ _ _ _ _ _ _ _; exact trivial
  | succ j ih =>
    intro c l3 u h3 hc h g kk
    have e14 : (km_a u 14 r).toInt = (ln_ a r : Int) := by
      rw [h.1 14 (by decide)]
      show (a.1 14 r).toInt = ((a.1 14 r).toNatClampNeg : Int)
      have : 1 ≤ (a.1 14 r).toNatClampNeg := hl.2
      rw [ki_nat] at this ⊢
      omega
    obtain ⟨w, ew, hw⟩ : ∃ w, w = 12 * ri + l3 ∧ w.toInt = ((12 * r + c : Nat) : Int) := ⟨_, rfl, ki_addN (ki_mulN z12 hri (by omega)) h3 (by omega)⟩
    have nx : ∀ v : Int32, v = l3 + 1 → v.toInt = ((c + 1 : Nat) : Int) := fun v e => by rw [e]; exact ki_addN h3 ki_z1 (by omega)
    unfold vX12_jams_258 vX12_at0
    dsimp only
    rw [ki_toN hri, ki_le, e14, h3, ← ew, ki_toN hw]
    intro _
    refine ⟨fun q => ?_, fun q => ⟨fun d => kk u ?_ g, fun d _ => ?_⟩⟩
    · refine kk u ?_ g
      rw [← kn_c (fun k => cp2_next (c := c) (by omega) k)]
      exact h
    · have nC : ∀ c, ¬ kC_ nc a r c := fun c z => (hs.1 d) z.2
      have e0 : ∀ k, cp2_ nr a (kC_ nc a) r c k ↔ cp2_ nr a (kC_ nc a) (r + 1) 0 k := by
        intro k
        refine Iff.trans ?_ (cp2_skip (fun c => nC c) k)
        constructor
        · rintro ⟨r', c', h1, h2, h3, h4, h5⟩
          refine ⟨r', c', h1, h2, h3, h4, ?_⟩
          rcases h5 with y | y
          · exact .inl y
          · rw [y.1] at h4; exact absurd h4 (nC c')
        · rintro ⟨r', c', h1, h2, h3, h4, h5⟩
          exact ⟨r', c', h1, h2, h3, h4, h5.elim .inl (fun y => by omega)⟩
      rw [← kn_c e0]
      exact h
    · have hlt : c < ln_ a r := by omega
      have e33 : km_a u 33 (12 * r + c) = a.1 33 (12 * r + c) := congrFun (h.1 33 (by decide)) _
      rw [e33]
      unfold vX12_jams_296
      refine ⟨fun e v2 e2 => ih (c + 1) v2 u (nx v2 e2) hlt ?_ g kk, fun e _ => ?_⟩
      · rw [kn_c (fun k => cp2_no hr hlt (fun y => y.1 e) k)]
        exact h
      · rintro μ27 rfl v2 e2
        have yC : kC_ nc a r c := ⟨e, by
          by_cases z : (¬ a.1 23 r = 0 ∨ ∃ k, k < nc ∧ (a.1 44 k).toInt = (r : Int))
          · exact z
          · exact absurd (hs.2 z) d⟩
        refine ih (c + 1) v2 _ (nx v2 e2) hlt ?_ g kk
        have h1 := rA_fs (i := 12 * r + c) (v := 1) h (f := 34) (by decide)
        rw [ff_fs, kn_u] at h1
        rw [kn_c (fun k => cp2_y hr hlt yC k)]
        exact h1
theorem vr_known {nr nl nc : Nat} {a : ra_T} {Q : km_S → Prop} {μ : km_S} (h10 : nr ≤ 10) (c6 : nc ≤ 6) (hl : ∀ r, r < nr → ln_ a r ≤ 12 ∧ 1 ≤ ln_ a r) (hn : (km_i μ 3).toInt = (nr : Int)) (hc : (km_i μ 7).toInt = (nc : Int)) (h : rA_ a μ) (kk : ∀ u, rA_ (a_known nr nc a) u → (∀ j, km_i u j = km_i μ j) → Q u) : vX12_jams_211 Q μ := by
  have loop : ∀ (j r : Nat) (i : Int32) (u : km_S), i.toInt = (r : Int) → r ≤ nr → rA_ (ff_ a 34 (kn_f (cp2_ nr a (kC_ nc a) r 0) 1 (a.1 34))) u → (∀ j, km_i u j = km_i μ j) → vX12_jams_213 Q j i u := by
    intro j
    induction j with
    | zero => intro _ _ _ _ _ _ _; exact trivial
    | succ j ih =>
      intro r i u hi hr hu g
      unfold vX12_jams_213
      rw [ki_le, g 3, hn, hi]
      refine ⟨fun q => ?_, fun q _ => ?_⟩
      · have : r = nr := by omega
        subst this
        exact kk u hu g
      · have hlt : r < nr := by omega
        rw [ki_toN hi]
        intro v62 e62 j2
        have e23 : km_a u 23 r = a.1 23 r := congrFun (hu.1 23 (by decide)) r
        refine vr_seen hu hi (by rw [g 7]; exact hc) c6 (fun s hs => ?_) j2 0 v62 0 (by decide) (Nat.zero_le _) ?_
        · unfold vX12_jams_256
          intro j3
          have hs : s = 0 ↔ ¬ (¬ a.1 23 r = 0 ∨ ∃ k, k < nc ∧ (a.1 44 k).toInt = (r : Int)) := hs
          refine vr_known258 (nl := nl) h10 (hl r hlt) hlt hi hs j3 0 0 u (by decide) (Nat.zero_le _) hu g (fun v hv gv => ?_)
          unfold vX12_jams_302
          intro v1 e1
          exact ih (r + 1) v1 v (by rw [e1]; exact ki_addN hi ki_z1 (by omega)) hlt hv gv
        · rw [e62, e23]
          constructor
          · rintro z (y | ⟨k', y1, _⟩)
            · exact y z
            · omega
          · intro z
            by_cases y : a.1 23 r = 0
            · exact y
            · exact absurd (.inl y) z
  unfold vX12_jams_211
  intro j
  refine loop j 0 0 μ (by decide) (Nat.zero_le _) ?_ (fun _ => rfl)
  rw [ff_id (kn_0 cp2_0)]
  exact h
