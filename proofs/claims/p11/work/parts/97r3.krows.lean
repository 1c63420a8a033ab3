/-! what is told apart from both, a row a call -/
section
variable {s : sz_T} {A : fu_T}
theorem kp_dam {r v : Int32} (hs : s.1.1.toInt = (jn1_ s.1 : Int)) (K : fK_ s.1 A) : fK_ (z_dam r v s).2.2.1 (fa_dam r v s A) := fK_of (nu_same nz_dam) ⟨(pk_dam hs K.1 K.2.1).1, (pk_dam hs K.1 K.2.1).2, w_ok_dam K.2.2.1 hs, K.2.2.2⟩
theorem kp_gate {r v : Int32} (K : fK_ s.1 A) : fK_ (z_gate r v s).2.2.1 A := fK_of (nu_same nz_gate) K
theorem kp_melt {r v : Int32} (K : fK_ s.1 A) : fK_ (z_melt r v s).2.2.1 A := fK_of (nu_same nz_melt) K
theorem kp_boom {r m v : Int32} (hs : s.1.1.toInt = (jn1_ s.1 : Int)) (K : fK_ s.1 A) : fK_ (z_boom r v s).2.2.1 (fa_boom r m v s A) := fK_of (nu_same nz_boom) ⟨(pk_boom hs K.1 K.2.1).1, (pk_boom hs K.1 K.2.1).2, K.2.2⟩
theorem kp_watch {r v : Int32} (hs : s.1.1.toInt = (jn1_ s.1 : Int)) (K : fK_ s.1 A) : fK_ (z_watch r v s).2.2.1 (fa_watch r v s A) := fK_of (nu_same nz_watch) ⟨(pk_watch hs K.1 K.2.1).1, (pk_watch hs K.1 K.2.1).2, K.2.2⟩
theorem kp_crew {k r : Int32} (hs : s.1.1.toInt = (jn1_ s.1 : Int)) (hc : s.1.2.2.1.toInt = (jn3_ s.1 : Int)) (hb : jn3_ s.1 ≤ 6) (K : fK_ s.1 A) : fK_ (z_crew k r s).2.2.1 (fa_crew k r s A) := fK_of (nu_crew hc hb) ⟨(pk_crew hs hc rfl K.1 K.2.1).1, (pk_crew hs hc rfl K.1 K.2.1).2, K.2.2⟩
theorem kp_cut {a b c : Int32} (hl : s.1.2.1.toInt = (jn2_ s.1 : Int)) (hb : jn2_ s.1 ≤ 400) (K : fK_ s.1 A) : fK_ (z_cut a b c s).2.2.1 (fa_cut a b c s A) := fK_of (nu_cut hl hb) ⟨(pk_cut hl K.1 K.2.1).1, (pk_cut hl K.1 K.2.1).2, K.2.2⟩
theorem kp_order {r a b c : Int32} (ho : s.1.2.2.2.1.toInt = (jn4_ s.1 : Int)) (hb : jn4_ s.1 ≤ 60) (K : fK_ s.1 A) : fK_ (z_order r a b c s).2.2.1 (fa_order r a b c s A) := fK_of (nu_order ho hb) ⟨(pk_order K.1 K.2.1).1, (pk_order K.1 K.2.1).2, K.2.2⟩
theorem kp_reach {a b c d : Int32} (hs : s.1.1.toInt = (jn1_ s.1 : Int)) (hb : jn1_ s.1 ≤ 10) (K : fK_ s.1 A) : fK_ (z_reach a b c d s).2.2.1 (fa_reach a b c d s A) := by
  have q := w_ok_reach (a := a) (b := b) (c := c) (d := d) K.2.2.1 hs hb
  have e := (nu_reach (a := a) (b := b) (c := c) (d := d) hs hb).1
  have q : w_ok (jn1_ (z_reach a b c d s).2.2.1) (wz_reach a b c d s A.2.1) := q
  rw [e] at q
  exact fK_of (nu_reach hs hb) ⟨(pk_reach hs hb K.1 K.2.1).1, (pk_reach hs hb K.1 K.2.1).2, q, K.2.2.2⟩
theorem kp_feed {a b c d e : Int32} (K : fK_ s.1 A) : fK_ (z_feed s).2.2.1 (fa_feed a b c d e s A) := by
  refine fK_of nu_feed ⟨K.1, K.2.1, K.2.2.1, K.2.2.2.1, ?_⟩
  show ∀ i, i < 500 → ¬ ab_tape a b c d e s A.2.2.2.1 i = -1
  unfold ab_tape
  split
  · exact tz_byte K.2.2.2.2
  · exact K.2.2.2.2
theorem fC_flat {t : nt_T} {x : Nat} {σ : kx_S} (h : fC_ t A x σ) : ∀ l, l < A.2.2.1.1 → (p_flat (A.2.2.1.2.2 l)).length ≤ 500 := by
  obtain ⟨g, T, N, st, na, tk, ca, tb, _, _, hE, _, _⟩ := h
  exact fun l hl => (hE.2.2.2.2.2.1.2.2 l hl).2.2.1.1.2.2.1
theorem kp_law {a b : Int32} {x : Nat} {u : kx_S} (K : fK_ s.1 A) (h : fC_ (z_law a b s).2.1 (fa_law a b s A) x u) : fK_ (z_law a b s).2.1 (fa_law a b s A) := fK_of nu_law ⟨K.1, K.2.1, K.2.2.1, kL_law K.2.2.2.1 (fC_flat h), K.2.2.2.2⟩
theorem kp_let {l r c : Int32} (hb : jn1_ s.1 ≤ 10) (K : fK_ s.1 A) : fK_ s.1 (fa_let l r c s A) := by
  unfold fa_let
  split
  · next q e =>
    obtain ⟨x, b⟩ := q
    have h := pk_let hb K.1 K.2.1 e
    exact ⟨h.1.1, h.1.2, K.2.2⟩
  · exact K
theorem kp_hours {m : Int32} (hb : jn1_ s.1 ≤ 10) (K : fK_ s.1 A) : fK_ (z_hours m s).2.2.1 (fa_hours m s A) := by
  refine fK_of nu_hours ?_
  unfold fa_hours
  by_cases c : m < 0 ∨ 200 < m ∨ ¬ (s.1.2.2.2.2.2 + m ≤ 20000)
  · rw [if_pos c, if_pos c]
    exact K
  · rw [if_neg c, if_neg c]
    have h0 := K.1.2.2.1
    have z200 : (200 : Int32).toInt = 200 := by decide
    have z20 : (20000 : Int32).toInt = 20000 := by decide
    have c1 : ¬ m < 0 := fun q => c (.inl q)
    have c2 : ¬ 200 < m := fun q => c (.inr (.inl q))
    have c3 : s.1.2.2.2.2.2 + m ≤ 20000 := Decidable.not_not.1 (fun q => c (.inr (.inr q)))
    rw [ki_lt, ki_z0] at c1
    rw [ki_lt, z200] at c2
    rw [ki_le, z20, ki_add (by omega) (by omega)] at c3
    obtain ⟨k, hk⟩ : ∃ k : Nat, m.toInt = (k : Int) := ⟨m.toInt.toNat, by omega⟩
    have en := ah_now (nr := jn1_ s.1) (nc := jn3_ s.1) (no := jn4_ s.1) (dm := s.2.1) (gt := s.2.2.1) (ml := s.2.2.2.1) k (s.1.2.2.2.2.2, A.1, A.2.1) m hk (by omega)
    have a1 := aK_hours (no := jn4_ s.1) (dm := s.2.1) (gt := s.2.2.1) (ml := s.2.2.2.1) hb k (s.1.2.2.2.2.2, A.1, A.2.1) (by show s.1.2.2.2.2.2.toInt + _ ≤ _; omega) K.1
    have a2 := zi_hours (no := jn4_ s.1) (dm := s.2.1) (gt := s.2.2.1) (ml := s.2.2.2.1) hb k (s.1.2.2.2.2.2, A.1, A.2.1) (by show s.1.2.2.2.2.2.toInt + _ ≤ _; omega) K.1 K.2.1
    have a3 := w_ok_ah (nc := jn3_ s.1) (no := jn4_ s.1) (dm := s.2.1) (gt := s.2.2.1) (ml := s.2.2.2.1) k (s.1.2.2.2.2.2, A.1, A.2.1) K.2.2.1
    rw [en] at a1
    rw [ki_toN hk]
    exact ⟨a1, a2, a3, K.2.2.2⟩
end
