/-! (f) each log afloat is an hour older -/
def su_ (a : ra_T) (x : Nat) : Prop := a.1 38 x = 1 ∧ 24 * a.1 36 x ≤ a.1 41 x + 1
noncomputable def ag_ (P : Nat → Prop) (a : ra_T) : ra_T :=
  (fun f => if f = 41 then (fun x => @ite Int32 (P x ∧ a.1 38 x = 1) (Classical.propDecidable _) (a.1 41 x + 1) (a.1 41 x)) else if f = 38 then (fun x => @ite Int32 (P x ∧ su_ a x) (Classical.propDecidable _) 5 (a.1 38 x)) else a.1 f,
   fun k => (a.2 k).filter (fun x => @decide (¬ (P x ∧ su_ a x)) (Classical.propDecidable _)))
theorem ag_41y {P : Nat → Prop} {a : ra_T} {x : Nat} (h : P x) (k : a.1 38 x = 1) : (ag_ P a).1 41 x = a.1 41 x + 1 := by
  show @ite Int32 (P x ∧ a.1 38 x = 1) (Classical.propDecidable _) (a.1 41 x + 1) (a.1 41 x) = _
  exact if_pos ⟨h, k⟩
theorem ag_41n {P : Nat → Prop} {a : ra_T} {x : Nat} (h : ¬ (P x ∧ a.1 38 x = 1)) : (ag_ P a).1 41 x = a.1 41 x := by
  show @ite Int32 (P x ∧ a.1 38 x = 1) (Classical.propDecidable _) (a.1 41 x + 1) (a.1 41 x) = _
  exact if_neg h
theorem ag_38y {P : Nat → Prop} {a : ra_T} {x : Nat} (h : P x) (k : su_ a x) : (ag_ P a).1 38 x = 5 := by
  show @ite Int32 (P x ∧ su_ a x) (Classical.propDecidable _) 5 (a.1 38 x) = _
  exact if_pos ⟨h, k⟩
theorem ag_38n {P : Nat → Prop} {a : ra_T} {x : Nat} (h : ¬ (P x ∧ su_ a x)) : (ag_ P a).1 38 x = a.1 38 x := by
  show @ite Int32 (P x ∧ su_ a x) (Classical.propDecidable _) 5 (a.1 38 x) = _
  exact if_neg h
theorem ag_o {P : Nat → Prop} {a : ra_T} {f : Nat} (h1 : f ≠ 41) (h2 : f ≠ 38) : (ag_ P a).1 f = a.1 f := by
  show (if f = 41 then _ else if f = 38 then _ else a.1 f) = a.1 f
  rw [if_neg h1, if_neg h2]
theorem ag_mem {P : Nat → Prop} {a : ra_T} {k x : Nat} : x ∈ (ag_ P a).2 k ↔ x ∈ a.2 k ∧ ¬ (P x ∧ su_ a x) := by
  show x ∈ (a.2 k).filter (fun x => @decide (¬ (P x ∧ su_ a x)) (Classical.propDecidable _)) ↔ _
  rw [List.mem_filter]
  constructor
  · rintro ⟨h1, h2⟩; exact ⟨h1, @of_decide_eq_true _ (Classical.propDecidable _) h2⟩
  · rintro ⟨h1, h2⟩; exact ⟨h1, @decide_eq_true _ (Classical.propDecidable _) h2⟩
theorem ag_c {P P' : Nat → Prop} {a : ra_T} (h : ∀ x, a.1 38 x = 1 → (P x ↔ P' x)) : ag_ P a = ag_ P' a := by
  have e1 : (fun x => P x ∧ a.1 38 x = 1) = (fun x => P' x ∧ a.1 38 x = 1) := funext fun x => propext ⟨fun z => ⟨(h x z.2).1 z.1, z.2⟩, fun z => ⟨(h x z.2).2 z.1, z.2⟩⟩
  have e2 : (fun x => P x ∧ su_ a x) = (fun x => P' x ∧ su_ a x) := funext fun x => propext ⟨fun z => ⟨(h x z.2.1).1 z.1, z.2⟩, fun z => ⟨(h x z.2.1).2 z.1, z.2⟩⟩
  have g : ∀ (A A' C C' : Nat → Prop), A = A' → C = C' → ((fun f => if f = 41 then (fun x => @ite Int32 (A x) (Classical.propDecidable _) (a.1 41 x + 1) (a.1 41 x)) else if f = 38 then (fun x => @ite Int32 (C x) (Classical.propDecidable _) 5 (a.1 38 x)) else a.1 f, fun k => (a.2 k).filter (fun x => @decide (¬ (C x)) (Classical.propDecidable _))) : ra_T) = (fun f => if f = 41 then (fun x => @ite Int32 (A' x) (Classical.propDecidable _) (a.1 41 x + 1) (a.1 41 x)) else if f = 38 then (fun x => @ite Int32 (C' x) (Classical.propDecidable _) 5 (a.1 38 x)) else a.1 f, fun k => (a.2 k).filter (fun x => @decide (¬ (C' x)) (Classical.propDecidable _))) := by
    intro A A' C C' hA hC
    rw [hA, hC]
  exact g _ _ _ _ e1 e2
theorem ag_0 {P : Nat → Prop} {a : ra_T} (h : ∀ x, ¬ P x) : ag_ P a = a := by
  refine Prod.ext (funext fun f => ?_) (funext fun k => ?_)
  · by_cases c1 : f = 41
    · rw [c1]; funext x; exact ag_41n (fun z => h x z.1)
    · by_cases c2 : f = 38
      · rw [c2]; funext x; exact ag_38n (fun z => h x z.1)
      · exact ag_o c1 c2
  · show (a.2 k).filter _ = a.2 k
    rw [List.filter_eq_self]
    intro x _
    exact @decide_eq_true _ (Classical.propDecidable _) (fun z => h x z.1)
/-- one more -/
theorem ag_up {P : Nat → Prop} {a : ra_T} {x0 : Nat} (h38 : a.1 38 x0 = 1) : upd ((ag_ P a).1 41) x0 (a.1 41 x0 + 1) = (ag_ (fun x => P x ∨ x = x0) a).1 41 := by
  funext x
  by_cases c : x = x0
  · rw [c, w_updS, ag_41y (.inr rfl) h38]
  · rw [w_updN c]
    by_cases d : P x ∧ a.1 38 x = 1
    · rw [ag_41y d.1 d.2, ag_41y (.inl d.1) d.2]
    · rw [ag_41n d, ag_41n (fun z => d ⟨z.1.resolve_right c, z.2⟩)]
theorem ag_stay {P : Nat → Prop} {a : ra_T} {x0 : Nat} (h38 : a.1 38 x0 = 1) (hs : ¬ su_ a x0) : fs_ (ag_ P a) 41 x0 (a.1 41 x0 + 1) = ag_ (fun x => P x ∨ x = x0) a := by
  have hc : ∀ x, (P x ∧ su_ a x) ↔ ((P x ∨ x = x0) ∧ su_ a x) := fun x => ⟨fun z => ⟨.inl z.1, z.2⟩, fun z => ⟨z.1.resolve_right (fun e => hs (by rw [← e]; exact z.2)), z.2⟩⟩
  refine Prod.ext (funext fun f => ?_) (funext fun k => ?_)
  · by_cases c1 : f = 41
    · rw [c1, fs_s]; exact ag_up h38
    · rw [fs_n c1]
      by_cases c2 : f = 38
      · rw [c2]
        funext x
        by_cases d : P x ∧ su_ a x
        · rw [ag_38y d.1 d.2, ag_38y (.inl d.1) d.2]
        · rw [ag_38n d, ag_38n (fun z => d ((hc x).2 z))]
      · rw [ag_o c1 c2, ag_o c1 c2]
  · show (a.2 k).filter _ = (a.2 k).filter _
    refine List.filter_congr (fun x _ => ?_)
    have e : (¬ (P x ∧ su_ a x)) = (¬ ((P x ∨ x = x0) ∧ su_ a x)) := propext (not_congr (hc x))
    by_cases d : ¬ (P x ∧ su_ a x)
    · rw [@decide_eq_true _ (Classical.propDecidable _) d, @decide_eq_true _ (Classical.propDecidable _) (e ▸ d)]
    · rw [@decide_eq_false _ (Classical.propDecidable _) d, @decide_eq_false _ (Classical.propDecidable _) (fun z => d (e ▸ z))]
theorem ag_row {P : Nat → Prop} {a : ra_T} {x0 k : Nat} (hs : su_ a x0) : ((ag_ P a).2 k).filter (fun z => decide (¬ z = x0)) = (ag_ (fun x => P x ∨ x = x0) a).2 k := by
  show ((a.2 k).filter _).filter _ = (a.2 k).filter _
  rw [List.filter_filter]
  refine List.filter_congr (fun x _ => ?_)
  by_cases c : x = x0
  · rw [decide_eq_false (fun z => z c), Bool.false_and]
    exact (@decide_eq_false _ (Classical.propDecidable _) (fun z => z ⟨.inr c, by rw [c]; exact hs⟩)).symm
  · rw [decide_eq_true c, Bool.true_and]
    by_cases d : P x ∧ su_ a x
    · rw [@decide_eq_false _ (Classical.propDecidable _) (fun z => z d), @decide_eq_false _ (Classical.propDecidable _) (fun z => z ⟨.inl d.1, d.2⟩)]
    · rw [@decide_eq_true _ (Classical.propDecidable _) d, @decide_eq_true _ (Classical.propDecidable _) (fun z => d ⟨z.1.resolve_right c, z.2⟩)]
theorem ag_sink {P : Nat → Prop} {a : ra_T} {x0 k0 : Nat} (hs : su_ a x0) (hk : ∀ k, x0 ∈ a.2 k → k = k0) : fs_ (a_drop (fs_ (ag_ P a) 41 x0 (a.1 41 x0 + 1)) x0 k0) 38 x0 5 = ag_ (fun x => P x ∨ x = x0) a := by
  refine Prod.ext (funext fun f => ?_) (funext fun k => ?_)
  · by_cases c2 : f = 38
    · rw [c2, fs_s]
      show upd ((ag_ P a).1 38) x0 5 = _
      funext x
      by_cases c : x = x0
      · rw [c, w_updS, ag_38y (.inr rfl) hs]
      · rw [w_updN c]
        by_cases d : P x ∧ su_ a x
        · rw [ag_38y d.1 d.2, ag_38y (.inl d.1) d.2]
        · rw [ag_38n d, ag_38n (fun z => d ⟨z.1.resolve_right c, z.2⟩)]
    · rw [fs_n c2]
      show (fs_ (ag_ P a) 41 x0 (a.1 41 x0 + 1)).1 f = _
      by_cases c1 : f = 41
      · rw [c1, fs_s]; exact ag_up hs.1
      · rw [fs_n c1, ag_o c1 c2, ag_o c1 c2]
  · show (if k = k0 then ((ag_ P a).2 k0).filter (fun z => decide (¬ z = x0)) else (ag_ P a).2 k) = _
    by_cases c : k = k0
    · rw [if_pos c, ag_row hs, c]
    · rw [if_neg c, ← ag_row hs]
      refine (fil_non (fun z => c (hk k ?_))).symm
      exact (ag_mem.1 z).1
noncomputable def a_age (a : ra_T) : ra_T := ag_ (fun _ => True) a
theorem vr_age {nr nl : Nat} {a : ra_T} {Q : km_S → Prop} {μ : km_S} (h10 : nr ≤ 10) (l4 : nl ≤ 400) (A : ao_ nr nl a) (S : rsz_ a) (hn : (km_i μ 4).toInt = (nl : Int)) (hz : ∀ x, nl ≤ x → ¬ a.1 38 x = 1) (h : rA_ a μ) (kk : ∀ u, rA_ (a_age a) u → (∀ j, km_i u j = km_i μ j) → Q u) : vX12_older μ Q := by
  obtain ⟨A1, A2, A3, A4, A5, A6⟩ := A
  have loop : ∀ (j x : Nat) (i : Int32) (u : km_S), i.toInt = (x : Int) → x ≤ nl → rA_ (ag_ (fun y => y < x) a) u → (∀ j, km_i u j = km_i μ j) → vX12_older_2 Q j i u := by
    intro j
    induction j with
    | zero => intro _ _ _ _ _ _ _; exact trivial
    | succ j ih =>
      intro x i u hi hx hu g
      have e36 : km_a u 36 = a.1 36 := by rw [hu.1 36 (by decide)]; exact ag_o (by decide) (by decide)
      have x38 : (ag_ (fun y => y < x) a).1 38 x = a.1 38 x := ag_38n (fun z => by have := z.1; omega)
      have x41 : (ag_ (fun y => y < x) a).1 41 x = a.1 41 x := ag_41n (fun z => by have := z.1; omega)
      have u41 : km_a u 41 x = a.1 41 x := by rw [hu.1 41 (by decide)]; exact x41
      have u38 : km_a u 38 x = a.1 38 x := by rw [hu.1 38 (by decide)]; exact x38
      have nxt : ∀ (v : km_S) (b : ra_T), b = ag_ (fun y => y < x + 1) a → rA_ b v → (∀ j, km_i v j = km_i μ j) → x < nl → vX12_older_66 (vX12_older_2 Q j) Q i v := by
        intro v b eb hb gv hlt
        subst eb
        unfold vX12_older_66
        intro v1 e1
        exact ih (x + 1) v1 v (by rw [e1]; exact ki_addN hi ki_z1 (by omega)) hlt hb gv
      have ec : ∀ P : Nat → Prop, (∀ y, P y ↔ (y < x ∨ y = x)) → ag_ P a = ag_ (fun y => y < x + 1) a := fun P hP => ag_c (fun y _ => (hP y).trans ⟨fun z => by omega, fun z => by omega⟩)
      unfold vX12_older_2
      rw [ki_le, g 4, hn, hi]
      refine ⟨fun q => ?_, fun q _ => ?_⟩
      · have e : x = nl := by omega
        refine kk u ?_ g
        unfold a_age
        rw [ag_c (P' := fun y => y < x) (fun y hy => ⟨fun _ => by
          by_cases z : y < x
          · exact z
          · exact absurd hy (hz y (by omega)), fun _ => trivial⟩)]
        exact hu
      · have hlt : x < nl := by omega
        rw [ki_toN hi, u38, u41]
        refine ⟨fun d _ _ => ?_, fun d => nxt u _ ?_ hu g hlt⟩
        · rintro μ7 rfl
          have h7 := rA_fs (i := x) (v := a.1 41 x + 1) hu (f := 41) (by decide)
          have v36 : km_a (km_sa u 41 x (a.1 41 x + 1)) 36 x = a.1 36 x := by
            show km_a u 36 x = _
            rw [e36]
          have v41 : km_a (km_sa u 41 x (a.1 41 x + 1)) 41 x = a.1 41 x + 1 := by
            show upd (u.2.1 41) x (a.1 41 x + 1) x = _
            exact w_updS
          rw [v36, v41]
          intro _ _
          refine ⟨fun sk => ?_, fun sk => nxt _ _ ?_ h7 g hlt⟩
          · have hs : su_ a x := ⟨d, sk⟩
            obtain ⟨r, c, r1, c1, m1⟩ := A6 x hlt d
            obtain ⟨_, y2, y3⟩ := (A4 r c r1 c1).2 x m1
            have c12 : c < 12 := by have := (A1 r r1).1; omega
            have S1 : ∀ q, q < 120 → ((fs_ (ag_ (fun y => y < x) a) 41 x (a.1 41 x + 1)).2 q).length ≤ 20 := by
              intro q hq
              show ((a.2 q).filter _).length ≤ 20
              exact Nat.le_trans (List.length_filter_le _ _) (S.1 q hq)
            have f39 : (fs_ (ag_ (fun y => y < x) a) 41 x (a.1 41 x + 1)).1 39 x = a.1 39 x := by
              rw [fs_n (by decide), ag_o (by decide) (by decide)]
            have f40 : (fs_ (ag_ (fun y => y < x) a) 41 x (a.1 41 x + 1)).1 40 x = a.1 40 x := by
              rw [fs_n (by decide), ag_o (by decide) (by decide)]
            refine vr_lift h7 hi (by rw [f39]; exact y2) (by rw [f40]; exact y3) (by omega) c12 S1 (fun v hv lv => ?_)
            rintro _ μ13 rfl
            have h13 := rA_fs (i := x) (v := 5) hv (f := 38) (by decide)
            refine nxt _ _ ?_ h13 (fun j => ?_) hlt
            · rw [ag_sink hs (fun k hk => ?_)]
              · exact ec _ (fun y => Iff.rfl)
              · rcases (A2 k x hk).2 with ⟨r', c', z1, z2, z3⟩ | ⟨r', z1, z2⟩
                · rw [z3] at hk
                  obtain ⟨_, w2, w3⟩ := (A4 r' c' z1 z2).2 x hk
                  omega
                · rw [z2] at hk
                  have := ((A5 r' z1).2 x hk).1
                  rw [d] at this
                  exact absurd this (by decide)
            · show v.1 j = _
              rw [lv.1]
              exact g j
          · rw [ag_stay d (fun z => sk z.2)]
            exact ec _ (fun y => Iff.rfl)
        · refine ag_c (fun y hy => ⟨fun z => by omega, fun z => ?_⟩)
          by_cases e : y = x
          · rw [e] at hy; exact absurd hy d
          · omega
  unfold vX12_older
  intro j
  refine loop j 0 0 μ (by decide) (Nat.zero_le _) ?_ (fun _ => rfl)
  rw [ag_0 (fun x => Nat.not_lt_zero x)]
  exact h
