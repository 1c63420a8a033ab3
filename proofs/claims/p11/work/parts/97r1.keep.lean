/-! what the calls keep of the abstract river -/
theorem sp_int {r : Int32} {s : sz_T} {nr : Nat} (hs : s.1.1.toInt = (nr : Int)) (h : z_is r s) : r.toInt = (r.toNatClampNeg : Int) ∧ r.toNatClampNeg < nr := by
  have h1 := h.1
  have h2 := h.2
  rw [ki_nat]
  omega
section
variable {nr nl nc : Nat} {now : Int32} {a : ra_T} {s : sz_T}
theorem pk_dam {r v : Int32} (hs : s.1.1.toInt = (nr : Int)) (K : aK_ nr nl nc now 0 a) (Z : zi_ nr nl a) : aK_ nr nl nc now 0 (ab_dam r v s a) ∧ zi_ nr nl (ab_dam r v s a) := by
  unfold ab_dam
  split
  · next h =>
    obtain ⟨e, hq⟩ := sp_int hs h.1
    generalize r.toNatClampNeg = q at *
    refine ⟨⟨⟨ao_same K.1.1 rfl rfl rfl rfl rfl rfl rfl, K.1.2⟩, K.2⟩, Z.1, Z.2.1, wk_same Z.2.2.1 rfl rfl rfl, fun x hx => ?_⟩
    obtain ⟨z1, z2, z3⟩ := Z.2.2.2 x hx
    exact ⟨(w_updN (by omega)).trans z1, z2, z3⟩
  · exact ⟨K, Z⟩
theorem pk_watch {r v : Int32} (hs : s.1.1.toInt = (nr : Int)) (K : aK_ nr nl nc now 0 a) (Z : zi_ nr nl a) : aK_ nr nl nc now 0 (ab_watch r v s a) ∧ zi_ nr nl (ab_watch r v s a) := by
  unfold ab_watch
  split
  · next h =>
    obtain ⟨e, hq⟩ := sp_int hs h
    generalize r.toNatClampNeg = q at *
    refine ⟨⟨⟨ao_same K.1.1 rfl rfl rfl rfl rfl rfl rfl, K.1.2⟩, K.2⟩, Z.1, Z.2.1, wk_same Z.2.2.1 rfl rfl rfl, fun x hx => ?_⟩
    obtain ⟨z1, z2, z3⟩ := Z.2.2.2 x hx
    exact ⟨z1, z2, (w_updN (by omega)).trans z3⟩
  · exact ⟨K, Z⟩
theorem pk_boom {r mk v : Int32} (hs : s.1.1.toInt = (nr : Int)) (K : aK_ nr nl nc now 0 a) (Z : zi_ nr nl a) : aK_ nr nl nc now 0 (ab_boom r mk v s a) ∧ zi_ nr nl (ab_boom r mk v s a) := by
  unfold ab_boom
  split
  · next h =>
    obtain ⟨e, hq⟩ := sp_int hs h.1
    have z100 : (100 : Int32).toInt = 100 := by decide
    have hv : v.toInt ≤ 100 := by
      have h2 := h.2
      rw [ki_lt, ki_le, ki_z1, z100] at h2
      omega
    generalize r.toNatClampNeg = q at *
    refine ⟨⟨⟨ao_same K.1.1 rfl rfl rfl rfl rfl rfl rfl, K.1.2.1, fun x hx hz => ?_⟩, K.2⟩, fun x hx hz => ?_, Z.2.1, wk_same Z.2.2.1 rfl rfl rfl, fun x hx => ?_⟩
    · have hz : ¬ upd (a.1 22) q 1 x = 0 := hz
      show (upd (a.1 28) q v x).toInt ≤ 100
      by_cases c : x = q
      · rw [c, w_updS]
        exact hv
      · rw [w_updN c] at hz ⊢
        exact K.1.2.2 x hx hz
    · have hz : upd (a.1 22) q 1 x = 0 := hz
      by_cases c : x = q
      · rw [c, w_updS] at hz
        exact absurd hz (by decide)
      · rw [w_updN c] at hz
        exact Z.1 x hx hz
    · obtain ⟨z1, z2, z3⟩ := Z.2.2.2 x hx
      exact ⟨z1, (w_updN (by omega)).trans z2, z3⟩
  · exact ⟨K, Z⟩
theorem pk_order {r mk z w : Int32} (K : aK_ nr nl nc now 0 a) (Z : zi_ nr nl a) : aK_ nr nl nc now 0 (ab_order r mk z w s a) ∧ zi_ nr nl (ab_order r mk z w s a) := by
  unfold ab_order
  split
  · exact ⟨⟨⟨ao_same K.1.1 rfl rfl rfl rfl rfl rfl rfl, K.1.2⟩, K.2⟩, Z.1, Z.2.1, wk_same Z.2.2.1 rfl rfl rfl, Z.2.2.2⟩
  · exact ⟨K, Z⟩
theorem co_come {k : Nat} {r : Int32} (h : 0 ≤ r.toInt ∧ r.toInt < (nr : Int)) (hk : k < nc) (C : co_ nr nc now 0 a) : co_ nr nc now 0 (ab_come r now k a) := by
  obtain ⟨n1, n2⟩ := C
  refine ⟨n1, fun j hj => ?_⟩
  obtain ⟨c1, c2, c3, c4⟩ := n2 j hj
  have e44 : (ab_come r now k a).1 44 j = (if j = k then r else a.1 44 j) := by
    unfold ab_come
    by_cases c : j = k
    · rw [if_pos c, c]
      exact w_updS
    · rw [if_neg c]
      refine (w_updN c).trans ?_
      split
      · rfl
      · rfl
  have e45 : (ab_come r now k a).1 45 j = (if j = k ∧ ¬ a.1 44 k = r then now else a.1 45 j) := by
    unfold ab_come
    by_cases d : a.1 44 k = r
    · rw [if_pos d, if_neg (fun q => q.2 d)]
      rfl
    · rw [if_neg d]
      by_cases c : j = k
      · rw [if_pos ⟨c, d⟩, c]
        exact (w_updS : upd (a.1 45) k now k = now)
      · rw [if_neg (fun q => c q.1)]
        exact (w_updN c : upd (a.1 45) k now j = a.1 45 j)
  have e46 : (ab_come r now k a).1 46 j = a.1 46 j := by
    unfold ab_come
    split
    · rfl
    · rfl
  rw [e44, e45, e46]
  refine ⟨?_, ?_, c3, c4⟩
  · split
    · exact h
    · exact c1
  · split
    · omega
    · exact c2
theorem come_o {k f : Nat} {r : Int32} (h1 : f ≠ 44) (h2 : f ≠ 45) : (ab_come r now k a).1 f = a.1 f := by
  unfold ab_come
  rw [fs_n h1]
  split
  · rfl
  · exact fs_n h2
theorem come_2 {k : Nat} {r : Int32} : (ab_come r now k a).2 = a.2 := by
  unfold ab_come
  show (if a.1 44 k = r then a else fs_ a 45 k now).2 = a.2
  split
  · rfl
  · rfl
theorem pk_come {k nc' : Nat} {r : Int32} {b : ra_T} (e : ∀ f, f ≠ 44 → f ≠ 45 → f ≠ 46 → b.1 f = a.1 f) (e2 : b.2 = a.2) (K : aK_ nr nl nc now 0 a) (Z : zi_ nr nl a) (C : co_ nr nc' now 0 (ab_come r now k b)) : aK_ nr nl nc' now 0 (ab_come r now k b) ∧ zi_ nr nl (ab_come r now k b) := by
  have E : ∀ f, f ≠ 44 → f ≠ 45 → f ≠ 46 → (ab_come r now k b).1 f = a.1 f := fun f h1 h2 h3 => (come_o h1 h2).trans (e f h1 h2 h3)
  have E2 : (ab_come r now k b).2 = a.2 := come_2.trans e2
  refine ⟨⟨⟨ao_same K.1.1 (E 14 (by decide) (by decide) (by decide)) (E 15 (by decide) (by decide) (by decide)) (E 13 (by decide) (by decide) (by decide)) (E 38 (by decide) (by decide) (by decide)) (E 39 (by decide) (by decide) (by decide)) (E 40 (by decide) (by decide) (by decide)) E2, rsz_same K.1.2.1 E2, ?_⟩, ?_, C⟩, zi_same Z (fun f hf => E f (by intro q; rw [q] at hf; exact absurd hf (by decide)) (by intro q; rw [q] at hf; exact absurd hf (by decide)) (by intro q; rw [q] at hf; exact absurd hf (by decide))) (fun r _ _ h => by rw [E2]; exact h)⟩
  · rw [E 22 (by decide) (by decide) (by decide), E 28 (by decide) (by decide) (by decide)]
    exact K.1.2.2
  · rw [E 38 (by decide) (by decide) (by decide)]
    exact K.2.1
theorem pk_crew {k r : Int32} (hs : s.1.1.toInt = (nr : Int)) (hc : s.1.2.2.1.toInt = (nc : Int)) (hnow : s.1.2.2.2.2.2 = now) (K : aK_ nr nl nc now 0 a) (Z : zi_ nr nl a) : aK_ nr nl (if z_is r s ∧ k = -1 ∧ ¬ s.1.2.2.1 = 6 then nc + 1 else nc) now 0 (ab_crew k r s a) ∧ zi_ nr nl (ab_crew k r s a) := by
  unfold ab_crew
  rw [hnow]
  by_cases hz : z_is r s
  · obtain ⟨e, hq⟩ := sp_int hs hz
    have hr : 0 ≤ r.toInt ∧ r.toInt < (nr : Int) := by omega
    rw [if_pos hz]
    by_cases d : k = -1
    · rw [if_pos d]
      by_cases e6 : s.1.2.2.1 = 6
      · rw [if_pos e6, if_neg (fun q => q.2.2 e6)]
        exact ⟨K, Z⟩
      · rw [if_neg e6, if_pos ⟨hz, d, e6⟩, ki_toN hc]
        have zm5 : (-5 : Int32).toInt = -5 := by decide
        refine pk_come (a := a) (fun f h1 h2 h3 => by rw [fs_n h3, fs_n h1]) rfl K Z ?_
        obtain ⟨n1, n2⟩ := K.2.2
        unfold ab_come
        have e44 : ¬ (fs_ (fs_ a 44 nc (-1)) 46 nc (-5)).1 44 nc = r := by
          have e : (fs_ (fs_ a 44 nc (-1)) 46 nc (-5)).1 44 nc = -1 := w_updS
          rw [e]
          intro x
          rw [← x, ki_zm] at hr
          omega
        rw [if_neg e44]
        refine ⟨n1, fun j hj => ?_⟩
        by_cases c : j = nc
        · have x44 : (fs_ (fs_ (fs_ (fs_ a 44 nc (-1)) 46 nc (-5)) 45 nc now) 44 nc r).1 44 j = r := by rw [c]; exact w_updS
          have x45 : (fs_ (fs_ (fs_ (fs_ a 44 nc (-1)) 46 nc (-5)) 45 nc now) 44 nc r).1 45 j = now := by rw [c]; exact w_updS
          have x46 : (fs_ (fs_ (fs_ (fs_ a 44 nc (-1)) 46 nc (-5)) 45 nc now) 44 nc r).1 46 j = -5 := by rw [c]; exact w_updS
          rw [x44, x45, x46, zm5]
          omega
        · have x44 : (fs_ (fs_ (fs_ (fs_ a 44 nc (-1)) 46 nc (-5)) 45 nc now) 44 nc r).1 44 j = a.1 44 j := (w_updN c).trans (w_updN c)
          have x45 : (fs_ (fs_ (fs_ (fs_ a 44 nc (-1)) 46 nc (-5)) 45 nc now) 44 nc r).1 45 j = a.1 45 j := w_updN c
          have x46 : (fs_ (fs_ (fs_ (fs_ a 44 nc (-1)) 46 nc (-5)) 45 nc now) 44 nc r).1 46 j = a.1 46 j := w_updN c
          rw [x44, x45, x46]
          exact n2 j (by omega)
    · rw [if_neg d, if_neg (fun q => d q.2.1)]
      by_cases c : k < -1 ∨ s.1.2.2.1 ≤ k
      · rw [if_pos c]
        exact ⟨K, Z⟩
      · rw [if_neg c]
        rw [ki_lt, ki_zm, ki_le, hc] at c
        have d' : k.toInt ≠ -1 := fun x => d (ki_eq.2 (x.trans ki_zm.symm))
        refine pk_come (a := a) (fun _ _ _ _ => rfl) rfl K Z (co_come hr ?_ K.2.2)
        rw [ki_nat]
        omega
  · rw [if_neg hz, if_neg (fun q => hz q.1)]
    exact ⟨K, Z⟩
theorem pk_cut {mk z t : Int32} (hl : s.1.2.1.toInt = (nl : Int)) (K : aK_ nr nl nc now 0 a) (Z : zi_ nr nl a) : aK_ nr (if s.1.2.1 = 400 ∨ mk < 0 ∨ 15 < mk ∨ z < 1 ∨ 9 < z ∨ t < 0 ∨ ¬ t ≤ 1000000 then nl else nl + 1) nc now 0 (ab_cut mk z t s a) ∧ zi_ nr (if s.1.2.1 = 400 ∨ mk < 0 ∨ 15 < mk ∨ z < 1 ∨ 9 < z ∨ t < 0 ∨ ¬ t ≤ 1000000 then nl else nl + 1) (ab_cut mk z t s a) := by
  unfold ab_cut
  split
  · exact ⟨K, Z⟩
  · rw [ki_toN hl]
    obtain ⟨⟨⟨A1, A2, A3, A4, A5, A6⟩, S, R⟩, N1, C⟩ := K
    have e38 : (fs_ (fs_ (fs_ (fs_ (fs_ (fs_ (fs_ a 35 nl mk) 36 nl z) 37 nl t) 38 nl 0) 39 nl (-1)) 40 nl (-1)) 42 nl (-1)).1 38 = upd (a.1 38) nl 0 := rfl
    have e39 : (fs_ (fs_ (fs_ (fs_ (fs_ (fs_ (fs_ a 35 nl mk) 36 nl z) 37 nl t) 38 nl 0) 39 nl (-1)) 40 nl (-1)) 42 nl (-1)).1 39 = upd (a.1 39) nl (-1) := rfl
    have e40 : (fs_ (fs_ (fs_ (fs_ (fs_ (fs_ (fs_ a 35 nl mk) 36 nl z) 37 nl t) 38 nl 0) 39 nl (-1)) 40 nl (-1)) 42 nl (-1)).1 40 = upd (a.1 40) nl (-1) := rfl
    refine ⟨⟨⟨⟨A1, fun k g hg => ⟨Nat.lt_succ_of_lt (A2 k g hg).1, (A2 k g hg).2⟩, A3, fun r c hr hc => ⟨(A4 r c hr hc).1, fun g hg => ?_⟩, fun r hr => ⟨(A5 r hr).1, fun g hg => ?_⟩, fun g hg h1 => ?_⟩, S, R⟩, fun x hx => ?_, C⟩, Z.1, fun x hx => Z.2.1 x (by omega), wk_same Z.2.2.1 rfl rfl rfl, Z.2.2.2⟩
    · have ne : g ≠ nl := Nat.ne_of_lt (A2 _ g hg).1
      rw [e38, e39, e40, w_updN ne, w_updN ne, w_updN ne]
      exact (A4 r c hr hc).2 g hg
    · have ne : g ≠ nl := Nat.ne_of_lt (A2 _ g hg).1
      rw [e38, e39, w_updN ne, w_updN ne]
      exact (A5 r hr).2 g hg
    · rw [e38] at h1
      have ne : g ≠ nl := fun e => by rw [e, w_updS] at h1; exact absurd h1 (by decide)
      rw [w_updN ne] at h1
      exact A6 g (by omega) h1
    · rw [e38, w_updN (by omega)]
      exact N1 x (by omega)
theorem pk_reach {nx ln cr jm : Int32} (hs : s.1.1.toInt = (nr : Int)) (h10 : nr ≤ 10) (K : aK_ nr nl nc now 0 a) (Z : zi_ nr nl a) : aK_ (if s.1.1 = 10 ∨ nx < -1 ∨ s.1.1 ≤ nx ∨ ln < 1 ∨ 12 < ln ∨ cr < 1 ∨ 20 < cr ∨ jm < 0 ∨ ¬ jm ≤ 1000 then nr else nr + 1) nl nc now 0 (ab_reach nx ln cr jm s a) ∧ zi_ (if s.1.1 = 10 ∨ nx < -1 ∨ s.1.1 ≤ nx ∨ ln < 1 ∨ 12 < ln ∨ cr < 1 ∨ 20 < cr ∨ jm < 0 ∨ ¬ jm ≤ 1000 then nr else nr + 1) nl (ab_reach nx ln cr jm s a) := by
  unfold ab_reach
  split
  · exact ⟨K, Z⟩
  · next ok =>
    have z10 : (10 : Int32).toInt = 10 := by decide
    have z12 : (12 : Int32).toInt = 12 := by decide
    have z20 : (20 : Int32).toInt = 20 := by decide
    rw [ki_toN hs]
    have n10 : nr < 10 := by
      have : ¬ s.1.1 = 10 := fun q => ok (.inl q)
      rw [ki_eq, hs, z10] at this
      omega
    have n1 : ¬ nx < -1 := fun q => ok (.inr (.inl q))
    have n2 : ¬ s.1.1 ≤ nx := fun q => ok (.inr (.inr (.inl q)))
    have n3 : ¬ ln < 1 := fun q => ok (.inr (.inr (.inr (.inl q))))
    have n4 : ¬ 12 < ln := fun q => ok (.inr (.inr (.inr (.inr (.inl q)))))
    have n5 : ¬ cr < 1 := fun q => ok (.inr (.inr (.inr (.inr (.inr (.inl q))))))
    have n6 : ¬ 20 < cr := fun q => ok (.inr (.inr (.inr (.inr (.inr (.inr (.inl q)))))))
    clear ok
    rw [ki_lt, ki_zm] at n1
    rw [ki_le, hs] at n2
    rw [ki_lt, ki_z1] at n3 n5
    rw [ki_lt, z12] at n4
    rw [ki_lt, z20] at n6
    obtain ⟨⟨⟨A1, A2, A3, A4, A5, A6⟩, S, R⟩, N1, C⟩ := K
    have lnS : ln_ (fs_ (fs_ (fs_ (fs_ a 13 nr nx) 14 nr ln) 15 nr cr) 16 nr jm) nr = ln.toNatClampNeg := by
      show (upd (a.1 14) nr ln nr).toNatClampNeg = _
      rw [w_updS]
    have lnN : ∀ r, r ≠ nr → ln_ (fs_ (fs_ (fs_ (fs_ a 13 nr nx) 14 nr ln) 15 nr cr) 16 nr jm) r = ln_ a r := fun r hr => by
      show (upd (a.1 14) nr ln r).toNatClampNeg = _
      rw [w_updN hr]
      rfl
    have e15 : (fs_ (fs_ (fs_ (fs_ a 13 nr nx) 14 nr ln) 15 nr cr) 16 nr jm).1 15 = upd (a.1 15) nr cr := rfl
    have e13 : (fs_ (fs_ (fs_ (fs_ a 13 nr nx) 14 nr ln) 15 nr cr) 16 nr jm).1 13 = upd (a.1 13) nr nx := rfl
    have z2 : ∀ c, c < 12 → a.2 (12 * nr + c) = [] := by
      intro d hd
      refine List.eq_nil_iff_forall_not_mem.2 (fun x hx => ?_)
      rcases (A2 _ x hx).2 with ⟨r, d', y1, y2, y3⟩ | ⟨r, y1, y3⟩
      · have := (A1 r y1).1
        omega
      · omega
    have z3 : a.2 (120 + nr) = [] := by
      refine List.eq_nil_iff_forall_not_mem.2 (fun x hx => ?_)
      rcases (A2 _ x hx).2 with ⟨r, d', y1, y2, y3⟩ | ⟨r, y1, y3⟩
      · have := (A1 r y1).1
        omega
      · omega
    have ln12 : ln.toNatClampNeg ≤ 12 ∧ 1 ≤ ln.toNatClampNeg := by rw [ki_nat]; omega
    refine ⟨⟨⟨⟨fun r hr => ?_, fun k g hg => ⟨(A2 k g hg).1, ?_⟩, A3, fun r c hr hc => ?_, fun r hr => ?_, fun g hg h1 => ?_⟩, S, fun r hr hz => ?_⟩, N1, ?_⟩, Z.1, Z.2.1, fun r c hr hc hn => ?_, fun r hr => Z.2.2.2 r (by omega)⟩
    · by_cases c : r = nr
      · rw [c, lnS, e15, e13, w_updS, w_updS]
        omega
      · rw [lnN r c, e15, e13, w_updN c, w_updN c]
        exact A1 r (by omega)
    · rcases (A2 k g hg).2 with ⟨r, d, y1, y2, y3⟩ | ⟨r, y1, y3⟩
      · exact .inl ⟨r, d, by omega, by rw [lnN r (by omega)]; exact y2, y3⟩
      · exact .inr ⟨r, by omega, y3⟩
    · by_cases d : r = nr
      · rw [d, lnS] at hc
        have e : a.2 (12 * r + c) = [] := by rw [d]; exact z2 c (by omega)
        show ((a.2 (12 * r + c)).length : Int) ≤ _ ∧ ∀ g, g ∈ a.2 (12 * r + c) → _
        rw [e, d, e15, w_updS]
        refine ⟨?_, fun g hg => absurd hg (List.not_mem_nil)⟩
        show (0 : Int) ≤ _
        omega
      · rw [lnN r d] at hc
        rw [e15, w_updN d]
        exact A4 r c (by omega) hc
    · by_cases d : r = nr
      · have e : a.2 (120 + r) = [] := by rw [d]; exact z3
        show ((a.2 (120 + r)).length : Int) ≤ 100 ∧ ∀ g, g ∈ a.2 (120 + r) → _
        rw [e]
        exact ⟨by show (0 : Int) ≤ 100; decide, fun g hg => absurd hg (List.not_mem_nil)⟩
      · exact A5 r (by omega)
    · obtain ⟨r, c, y1, y2, y3⟩ := A6 g hg h1
      exact ⟨r, c, by omega, by rw [lnN r (by omega)]; exact y2, y3⟩
    · have hz : ¬ a.1 22 r = 0 := hz
      have : r ≠ nr := fun e => hz (by rw [e]; exact (Z.2.2.2 nr (Nat.le_refl _)).2.1)
      exact R r (by omega) hz
    · obtain ⟨c1, c2⟩ := C
      refine ⟨c1, fun k hk => ?_⟩
      obtain ⟨⟨d1, d2⟩, d3⟩ := c2 k hk
      exact ⟨⟨d1, Int.lt_trans d2 (by omega)⟩, d3⟩
    · refine Z.2.2.1 r c hr hc (fun q => hn ⟨by omega, ?_⟩)
      rw [lnN r (by omega)]
      exact q.2
theorem pk_take {x q p : Nat} (h10 : nr ≤ 10) (hx : x < nl) (hq : q < nr) (hp : p < ln_ a q) (h0 : a.1 38 x = 0) (ho : a_open a q p = true) (K : aK_ nr nl nc now 0 a) (Z : zi_ nr nl a) : aK_ nr nl nc now 0 (a_take a x q p) ∧ zi_ nr nl (a_take a x q p) := by
  obtain ⟨⟨⟨A1, A2, A3, A4, A5, A6⟩, S, R⟩, N1, C⟩ := K
  have ho' := a_openT.1 ho
  have p12 := (A1 q hq).1
  have c20 := (A1 q hq).2.2.1.2
  have e38 : (a_take a x q p).1 38 = upd (a.1 38) x 1 := rfl
  have e39 : (a_take a x q p).1 39 = upd (a.1 39) x (nI q) := rfl
  have e40 : (a_take a x q p).1 40 = upd (a.1 40) x (nI p) := rfl
  have k2s : (a_take a x q p).2 (12 * q + p) = a.2 (12 * q + p) ++ [x] := if_pos rfl
  have k2n : ∀ k, k ≠ 12 * q + p → (a_take a x q p).2 k = a.2 k := fun k hk => if_neg hk
  have nx1 : ∀ g, a.1 38 g = 1 → g ≠ x := fun g h e => by rw [e, h0] at h; exact absurd h (by decide)
  have nx2 : ∀ g, a.1 38 g = 2 → g ≠ x := fun g h e => by rw [e, h0] at h; exact absurd h (by decide)
  have xl : x ∉ a.2 (12 * q + p) := fun h => nx1 x ((A4 q p hq hp).2 x h).1 rfl
  have el : ∀ r, ln_ (a_take a x q p) r = ln_ a r := fun r => rfl
  have el12 : ∀ r, r < nr → ln_ a r ≤ 12 := fun r hr => (A1 r hr).1
  refine ⟨⟨⟨⟨A1, fun k g hg => ?_, fun k => ?_, fun r c hr hc => ?_, fun r hr => ?_, fun g hg h1 => ?_⟩, ⟨fun j hj => ?_, fun j hj => ?_⟩, R⟩, fun y hy => ?_, C⟩, zi_same Z (fun f hf => ?_) (fun r hr _ h => by rw [k2n _ (by omega)]; exact h)⟩
  · by_cases c : k = 12 * q + p
    · rw [c, k2s] at hg
      rcases List.mem_append.1 hg with h | h
      · exact ⟨(A2 _ g h).1, by rw [c]; exact (A2 _ g h).2⟩
      · have : g = x := List.mem_singleton.1 h
        rw [this]
        exact ⟨hx, .inl ⟨q, p, hq, hp, c⟩⟩
    · rw [k2n k c] at hg
      exact A2 k g hg
  · by_cases c : k = 12 * q + p
    · rw [c, k2s]
      refine List.nodup_append.2 ⟨A3 _, List.nodup_cons.2 ⟨List.not_mem_nil, List.nodup_nil⟩, fun y hy z hz e => ?_⟩
      have : z = x := List.mem_singleton.1 hz
      exact xl (by rw [← this, ← e]; exact hy)
    · rw [k2n k c]
      exact A3 k
  · have hc : c < ln_ a r := hc
    have r12 := el12 r hr
    have s12 := el12 q hq
    obtain ⟨b1, b2⟩ := A4 r c hr hc
    show (((a_take a x q p).2 (12 * r + c)).length : Int) ≤ (a.1 15 r).toInt ∧ _
    rw [e38, e39, e40]
    have old : ∀ g, g ∈ a.2 (12 * r + c) → upd (a.1 38) x 1 g = 1 ∧ (upd (a.1 39) x (nI q) g).toInt = (r : Int) ∧ (upd (a.1 40) x (nI p) g).toInt = (c : Int) := fun g hg => by
      have ne := nx1 g (b2 g hg).1
      rw [w_updN ne, w_updN ne, w_updN ne]
      exact b2 g hg
    by_cases d : 12 * r + c = 12 * q + p
    · have er : r = q := by omega
      have ec : c = p := by omega
      subst er
      subst ec
      rw [k2s]
      refine ⟨?_, fun g hg => ?_⟩
      · rw [List.length_append]
        have := ho'.1
        show ((_ + 1 : Nat) : Int) ≤ _
        omega
      · rcases List.mem_append.1 hg with h | h
        · exact old g h
        · have : g = x := List.mem_singleton.1 h
          rw [this, w_updS, w_updS, w_updS]
          exact ⟨rfl, t_nI (by omega), t_nI (by omega)⟩
    · rw [k2n _ d]
      exact ⟨b1, old⟩
  · rw [k2n _ (by omega)]
    obtain ⟨b1, b2⟩ := A5 r hr
    refine ⟨b1, fun g hg => ?_⟩
    have ne := nx2 g (b2 g hg).1
    rw [e38, e39, w_updN ne, w_updN ne]
    exact b2 g hg
  · rw [e38] at h1
    by_cases c : g = x
    · exact ⟨q, p, hq, hp, by rw [k2s, c]; exact List.mem_append.2 (.inr (List.mem_singleton.2 rfl))⟩
    · rw [w_updN c] at h1
      obtain ⟨r, d, y1, y2, y3⟩ := A6 g hg h1
      refine ⟨r, d, y1, y2, ?_⟩
      by_cases e : 12 * r + d = 12 * q + p
      · rw [e, k2s]
        rw [e] at y3
        exact List.mem_append.2 (.inl y3)
      · rw [k2n _ e]
        exact y3
  · by_cases c : j = 12 * q + p
    · rw [c, k2s, List.length_append]
      have := ho'.1
      show _ + 1 ≤ 20
      omega
    · rw [k2n j c]
      exact S.1 j hj
  · rw [k2n _ (by omega)]
    exact S.2 j hj
  · rw [e38, w_updN (by omega)]
    exact N1 y hy
  · have h38 : f ≠ 38 := fun e => by rw [e] at hf; exact absurd hf (by decide)
    have h39 : f ≠ 39 := fun e => by rw [e] at hf; exact absurd hf (by decide)
    have h40 : f ≠ 40 := fun e => by rw [e] at hf; exact absurd hf (by decide)
    exact (fs_n h40).trans ((fs_n h39).trans (fs_n h38))
theorem pk_let {m : Nat} {day : Nat → Int32} {RL : Nat → List (Bool × List Int32)} {l r c x : Int32} {b : ra_T} (h10 : nr ≤ 10) (K : aK_ nr nl nc now 0 a) (Z : zi_ nr nl a) (h : an_let nr nl a day m RL now l r c = some (x, b)) : (aK_ nr nl nc now 0 b ∧ zi_ nr nl b) ∧ b.1 22 = a.1 22 := by
  unfold an_let at h
  split at h
  · next hz =>
    obtain ⟨h1, h2, h3⟩ := hz
    have h := Option.some.inj h
    split at h
    · rw [← (Prod.mk.inj h).2]; exact ⟨⟨K, Z⟩, rfl⟩
    · next c0 =>
      have c0 : a.1 38 l.toNatClampNeg = 0 := Decidable.not_not.1 c0
      split at h
      · rw [← (Prod.mk.inj h).2]; exact ⟨⟨K, Z⟩, rfl⟩
      · split at h
        · next co =>
          rw [← (Prod.mk.inj h).2]
          refine ⟨pk_take h10 ?_ ?_ ?_ c0 co K Z, rfl⟩
          · rw [ki_nat]; have := h1.1; have := h1.2; omega
          · rw [ki_nat]; have := h2.1; have := h2.2; omega
          · rw [ki_nat]; have := h3.1; have := h3.2; omega
        · rw [← (Prod.mk.inj h).2]; exact ⟨⟨K, Z⟩, rfl⟩
  · cases h
end
theorem aK_hours {nr nl nc no : Nat} {dm gt ml : Nat → Int32} (h10 : nr ≤ 10) : ∀ (k : Nat) (p : Int32 × ra_T × wt_T), p.1.toInt + (k : Int) ≤ 20000 → aK_ nr nl nc p.1 0 p.2.1 → aK_ nr nl nc (ah_ nr nc no dm gt ml k p).1 0 (ah_ nr nc no dm gt ml k p).2.1 := by
  intro k
  induction k with
  | zero => intro p _ A; exact A
  | succ k ih =>
    intro p hp A
    have h0 := A.2.2.1
    have hp1 : (p.1 + 1).toInt = p.1.toInt + 1 := by rw [ki_add (by rw [ki_z1]; omega) (by rw [ki_z1]; omega), ki_z1]
    have A' : aK_ nr nl nc p.1 nc (a_hour nr nc no p.1 (w_hour nr dm gt ml p.2.2) p.2.1) := by
      unfold a_hour
      exact aK_s h10 (aK_a (aK_k (aK_f (aK_j (aK_m h10 (aK_w A))))))
    exact ih (p.1 + 1, a_hour nr nc no p.1 (w_hour nr dm gt ml p.2.2) p.2.1, w_hour nr dm gt ml p.2.2) (by show (p.1 + 1).toInt + _ ≤ _; rw [hp1]; omega) (aK_next hp1 (by omega) A')
theorem w_ok_ah {nr nc no : Nat} {dm gt ml : Nat → Int32} : ∀ (k : Nat) (p : Int32 × ra_T × wt_T), w_ok nr p.2.2 → w_ok nr (ah_ nr nc no dm gt ml k p).2.2 := by
  intro k
  induction k with
  | zero => intro p h; exact h
  | succ k ih => intro p h; exact ih _ (w_hour_ok h)
theorem ah_now {nr nc no : Nat} {dm gt ml : Nat → Int32} : ∀ (k : Nat) (p : Int32 × ra_T × wt_T) (v : Int32), v.toInt = (k : Int) → k ≤ 200 → (ah_ nr nc no dm gt ml k p).1 = p.1 + v := by
  intro k
  induction k with
  | zero =>
    intro p v hv _
    have : v = 0 := ki_eq.2 (by rw [hv, ki_z0]; rfl)
    rw [this, Int32.add_zero]
    rfl
  | succ k ih =>
    intro p v hv hk
    have e1 : (nI k).toInt = (k : Int) := t_nI (by omega)
    have ev : v = 1 + nI k := ki_eq.2 (by rw [hv, ki_add (by rw [ki_z1, e1]; omega) (by rw [ki_z1, e1]; omega), ki_z1, e1]; omega)
    refine (ih _ (nI k) e1 (by omega)).trans ?_
    show p.1 + 1 + nI k = p.1 + v
    rw [ev, Int32.add_assoc]
