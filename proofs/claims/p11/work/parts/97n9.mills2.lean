/-! the reference: all mills -/
theorem a_millL_0 {r : Nat} : ∀ (L : List Nat) (a : ra_T), a_millL r L 0 a = a := by
  intro L
  induction L with
  | nil => intro a; rfl
  | cons o L ih => intro a; exact ih a
theorem vr_mill14 {nr nl no r : Nat} {ri : Int32} {K : Int32 → km_S → Prop} {Q : km_S → Prop} {μ : km_S} (h10 : nr ≤ 10) (n60 : no ≤ 60) (hno : (km_i μ 8).toInt = (no : Int)) (hr : r < nr) (hri : ri.toInt = (r : Int)) : ∀ (j m o l : Nat) (a : ra_T) (l2 l3 : Int32) (u : km_S), l3.toInt = (o : Int) → o + m = no → l2.toInt = 3 - (l : Int) → l ≤ 3 → ao_ nr nl a → rsz_ a → rB_ nl a u → rA_ a u → (∀ j, j ≠ 6 → km_i u j = km_i μ j) → (∀ v, ao_ nr nl (a_millL r (od_ a r m o) l a) → rsz_ (a_millL r (od_ a r m o) l a) → rB_ nl (a_millL r (od_ a r m o) l a) v → rA_ (a_millL r (od_ a r m o) l a) v → (∀ j, j ≠ 6 → km_i v j = km_i μ j) → K ri v) → vX12_mills_14 K Q j ri l2 l3 u := by
  intro j
  induction j with
  | zero => intro _ _ _ _ _ _ _ _ _ _ _ _ _ _ _ _ _; exact trivial
  | succ j ih =>
    intro m o l a l2 l3 u h3 hm h2 hl A S Bd h g kk
    unfold vX12_mills_14
    rw [ki_le, g 8 (by decide), hno, h3]
    refine ⟨fun q => ?_, fun q _ => ?_⟩
    · have : m = 0 := by omega
      subst this
      exact kk u A S Bd h g
    · obtain ⟨m, rfl⟩ : ∃ q, m = q + 1 := ⟨m - 1, by omega⟩
      have nx : ∀ v : Int32, v = l3 + 1 → v.toInt = ((o + 1 : Nat) : Int) := fun v e => by rw [e]; exact ki_addN h3 ki_z1 (by omega)
      rw [ki_toN h3, h.1 47 (by decide), ki_eq, hri]
      refine ⟨fun c j2 => ?_, fun c => ?_⟩
      · have eo : od_ a r (m + 1) o = o :: od_ a r m (o + 1) := if_pos c
        rw [eo] at kk
        refine vr_mill38 h10 hr hri h3 j2 l [] (a.2 (120 + r)) a l2 0 u h2 hl rfl rfl (fun y hy => absurd hy (List.not_mem_nil)) A S Bd h g (fun v l2' hl2 A' S' Bd' h' g' => ?_)
        unfold vX12_mills_196
        intro v2 e2
        have k := (qm_saws (r := r) (o := o) l a).1
        have e47 : od_ (a_saws r o l a).1 r m (o + 1) = od_ a r m (o + 1) := od_qm (k.1 47 (by decide) (by decide) (by decide) (by decide)) m (o + 1)
        refine ih m (o + 1) (a_saws r o l a).2 (a_saws r o l a).1 l2' v2 v (nx v2 e2) (by omega) hl2 (Nat.le_trans (qm_saws l a).2 hl) A' S' Bd' h' g' ?_
        rw [e47]
        exact kk
      · have eo : od_ a r (m + 1) o = od_ a r m (o + 1) := if_neg c
        rw [eo] at kk
        unfold vX12_mills_196
        intro v2 e2
        exact ih m (o + 1) l a l2 v2 u (nx v2 e2) (by omega) h2 hl A S Bd h g kk
theorem vr_mills {nr nl no : Nat} {a : ra_T} {Q : km_S → Prop} {μ : km_S} (h10 : nr ≤ 10) (n60 : no ≤ 60) (hn : (km_i μ 3).toInt = (nr : Int)) (hno : (km_i μ 8).toInt = (no : Int)) (A : ao_ nr nl a) (S : rsz_ a) (Bd : rB_ nl a μ) (h : rA_ a μ) (kk : ∀ v, ao_ nr nl (a_mills no nr 0 a) → rsz_ (a_mills no nr 0 a) → rB_ nl (a_mills no nr 0 a) v → rA_ (a_mills no nr 0 a) v → (∀ j, j ≠ 6 → km_i v j = km_i μ j) → Q v) : vX12_mills μ Q := by
  have loop : ∀ (j k r : Nat) (a : ra_T) (i : Int32) (u : km_S), i.toInt = (r : Int) → r + k = nr → ao_ nr nl a → rsz_ a → rB_ nl a u → rA_ a u → (∀ j, j ≠ 6 → km_i u j = km_i μ j) → (∀ v, ao_ nr nl (a_mills no k r a) → rsz_ (a_mills no k r a) → rB_ nl (a_mills no k r a) v → rA_ (a_mills no k r a) v → (∀ j, j ≠ 6 → km_i v j = km_i μ j) → Q v) → vX12_mills_2 Q j i u := by
    intro j
    induction j with
    | zero => intro _ _ _ _ _ _ _ _ _ _ _ _ _; exact trivial
    | succ j ih =>
      intro k r a i u hi hk A S Bd h g kk
      unfold vX12_mills_2
      rw [ki_le, g 3 (by decide), hn, hi]
      refine ⟨fun q => ?_, fun q j2 => ?_⟩
      · have : k = 0 := by omega
        subst this
        exact kk u A S Bd h g
      · obtain ⟨k, rfl⟩ : ∃ q, k = q + 1 := ⟨k - 1, by omega⟩
        refine vr_mill14 h10 n60 hno (by omega) hi j2 no 0 3 a 0 0 u (by decide) (by omega) (by decide) (Nat.le_refl 3) A S Bd h g (fun v A' S' Bd' h' g' => ?_)
        unfold vX12_mills_202
        intro v1 e1
        exact ih k (r + 1) (a_mill no a r) v1 v (by rw [e1]; exact ki_addN hi ki_z1 (by omega)) (by omega) A' S' Bd' h' g' kk
  unfold vX12_mills
  intro j
  exact loop j nr 0 a 0 μ (by decide) (by omega) A S Bd h (fun _ _ => rfl) kk
