/-! what a call does to the abstract river -/
def ab_dam (r v : Int32) (s : sz_T) (a : ra_T) : ra_T := if z_is r s ∧ ¬ (v < 0 ∨ ¬ v ≤ 100000) then fs_ a 21 r.toNatClampNeg 1 else a
def ab_boom (r m v : Int32) (s : sz_T) (a : ra_T) : ra_T := if z_is r s ∧ ¬ (v < 1 ∨ ¬ v ≤ 100) then fs_ (fs_ (fs_ a 22 r.toNatClampNeg 1) 27 r.toNatClampNeg (m &&& 65535)) 28 r.toNatClampNeg v else a
def ab_watch (r v : Int32) (s : sz_T) (a : ra_T) : ra_T := if z_is r s then fs_ a 23 r.toNatClampNeg v else a
def ab_come (r now : Int32) (k : Nat) (a : ra_T) : ra_T := fs_ (if a.1 44 k = r then a else fs_ a 45 k now) 44 k r
def ab_crew (k r : Int32) (s : sz_T) (a : ra_T) : ra_T := if z_is r s then (if k = -1 then (if s.1.2.2.1 = 6 then a else ab_come r s.1.2.2.2.2.2 s.1.2.2.1.toNatClampNeg (fs_ (fs_ a 44 s.1.2.2.1.toNatClampNeg (-1)) 46 s.1.2.2.1.toNatClampNeg (-5))) else if k < -1 ∨ s.1.2.2.1 ≤ k then a else ab_come r s.1.2.2.2.2.2 k.toNatClampNeg a) else a
def ab_cut (m z t : Int32) (s : sz_T) (a : ra_T) : ra_T := if s.1.2.1 = 400 ∨ m < 0 ∨ 15 < m ∨ z < 1 ∨ 9 < z ∨ t < 0 ∨ ¬ t ≤ 1000000 then a else fs_ (fs_ (fs_ (fs_ (fs_ (fs_ (fs_ a 35 s.1.2.1.toNatClampNeg m) 36 s.1.2.1.toNatClampNeg z) 37 s.1.2.1.toNatClampNeg t) 38 s.1.2.1.toNatClampNeg 0) 39 s.1.2.1.toNatClampNeg (-1)) 40 s.1.2.1.toNatClampNeg (-1)) 42 s.1.2.1.toNatClampNeg (-1)
def ab_order (r m z n : Int32) (s : sz_T) (a : ra_T) : ra_T := if z_is r s ∧ ¬ (s.2.2.2.2.2 r.toNatClampNeg = 0 ∨ m < 0 ∨ 15 < m ∨ z < 1 ∨ 9 < z ∨ n < 1 ∨ 100 < n ∨ s.1.2.2.2.1 = 60) then fs_ (fs_ (fs_ (fs_ a 47 s.1.2.2.2.1.toNatClampNeg r) 48 s.1.2.2.2.1.toNatClampNeg m) 49 s.1.2.2.2.1.toNatClampNeg z) 50 s.1.2.2.2.1.toNatClampNeg n else a
def ab_reach (n l c j : Int32) (s : sz_T) (a : ra_T) : ra_T := if s.1.1 = 10 ∨ n < -1 ∨ s.1.1 ≤ n ∨ l < 1 ∨ 12 < l ∨ c < 1 ∨ 20 < c ∨ j < 0 ∨ ¬ j ≤ 1000 then a else fs_ (fs_ (fs_ (fs_ a 13 s.1.1.toNatClampNeg n) 14 s.1.1.toNatClampNeg l) 15 s.1.1.toNatClampNeg c) 16 s.1.1.toNatClampNeg j
/-! the reference -/
def rQ_ (nl : Nat) (a : ra_T) (μ : km_S) : Prop := rA_ a μ ∧ rB_ nl a μ
section
variable {nr nl no nc : Nat} {a : ra_T} {μ u : km_S}
theorem rQ_nm {W : List Nat} (h : rQ_ nl a μ) (F : nm_ W μ u) (hW : ∀ f ∈ W, f ∉ rf_F ∧ f ∉ [6, 29, 30, 31, 32, 43]) : rQ_ nl a u := by
  obtain ⟨⟨h1, h2, h3, h4⟩, h5⟩ := h
  have k : ∀ f, f ∈ [6, 29, 30, 31, 32, 43] → f ∉ W := fun f hf q => (hW f q).2 hf
  refine ⟨⟨fun f hf => ?_, ?_, ?_, ?_⟩, rB_p3 h5 p3_refl (F.2 43 (k 43 (by decide)))⟩
  · rw [F.2 f (fun q => (hW f q).1 hf)]; exact h1 f hf
  · rw [F.2 31 (k 31 (by decide)), F.2 32 (k 32 (by decide))]; exact h2
  · rw [F.2 29 (k 29 (by decide)), F.2 30 (k 30 (by decide))]; exact h3
  · rw [F.1 6 (k 6 (by decide))]; exact h4
theorem rQ_fs {f i : Nat} {v : Int32} (h : rQ_ nl a μ) (hf : f ∈ rf_F) (hn : f ∉ [6, 36, 38, 42]) : rQ_ nl (fs_ a f i v) (km_sa μ f i v) := by
  have n6 : f ≠ 6 := fun e => by rw [e] at hn; exact hn (by decide)
  have n36 : f ≠ 36 := fun e => by rw [e] at hn; exact hn (by decide)
  have n38 : f ≠ 38 := fun e => by rw [e] at hn; exact hn (by decide)
  have n42 : f ≠ 42 := fun e => by rw [e] at hn; exact hn (by decide)
  have n43 : f ≠ 43 := fun e => by rw [e] at hf; exact absurd hf (by decide)
  refine ⟨rA_fs h.1 hf, rB_p3 h.2 ⟨fun y hy => ?_, fs_n (Ne.symm n42), fs_n (Ne.symm n36), fs_n (Ne.symm n6)⟩ (sa_n (Ne.symm n43))⟩
  rw [fs_n (Ne.symm n38)]
  exact hy
theorem rQ_o {f i : Nat} {v : Int32} (h : rQ_ nl a μ) (hf : f ∉ rf_F) (hn : f ∉ [29, 30, 31, 32, 43]) : rQ_ nl a (km_sa μ f i v) := by
  have k : ∀ e, e ∈ [29, 30, 31, 32, 43] → km_a (km_sa μ f i v) e = km_a μ e := fun e he => sa_n (fun q => hn (by rw [← q]; exact he))
  refine ⟨⟨fun e he => (sa_n (fun q => hf (by rw [← q]; exact he))).trans (h.1.1 e he), ?_, ?_, h.1.2.2.2⟩, rB_p3 h.2 p3_refl (k 43 (by decide))⟩
  · rw [k 31 (by decide), k 32 (by decide)]; exact h.1.2.1
  · rw [k 29 (by decide), k 30 (by decide)]; exact h.1.2.2.1
theorem rQ_si {j : Nat} {v : Int32} (h : rQ_ nl a μ) (hj : j ≠ 6) : rQ_ nl a (km_si μ j v) := by
  obtain ⟨⟨h1, h2, h3, h4⟩, h5⟩ := h
  refine ⟨⟨h1, h2, h3, ?_⟩, h5⟩
  show upd μ.1 j v 6 = _
  rw [w_updN (Ne.symm hj)]
  exact h4
theorem vr_zis {r : Int32} {s : sz_T} {Q : Int32 → km_S → Prop} (hs : sm_ μ = s) (k0 : ¬ z_is r s → Q 0 μ) (k1 : z_is r s → Q 1 μ) : vX12_isReach r μ Q := by
  subst hs
  exact vm_isReach (fun h => k0 h) (fun h1 h2 => k1 ⟨h1, h2⟩)
theorem vr_dam {r v : Int32} {s : sz_T} (hs : sm_ μ = s) (h : rQ_ nl a μ) : vX12_dam r v μ (fun _ u => rQ_ nl (ab_dam r v s a) u) := by
  unfold vX12_dam
  rintro μ1 rfl
  have h' : rQ_ nl a (km_si μ 1 0) := rQ_si h (by decide)
  have no_ : ¬ (z_is r s ∧ ¬ (v < 0 ∨ ¬ v ≤ 100000)) → ∀ u, rQ_ nl a u → rQ_ nl (ab_dam r v s a) u := fun c u hu => by
    unfold ab_dam
    rw [if_neg c]
    exact hu
  refine vr_zis (s := s) hs (fun z => ⟨fun x => absurd rfl x, fun _ => ?_⟩) (fun z => ⟨fun _ => ⟨fun c => ?_, fun c => ⟨fun d => ?_, fun d => ?_⟩⟩, fun x => absurd x (by decide)⟩)
  · rintro _ rfl
    exact no_ (fun q => z q.1) _ (rQ_si h' (by decide))
  · exact no_ (fun q => q.2 (.inl c)) _ h'
  · rintro - μ8 rfl - μ10 rfl
    unfold ab_dam
    rw [if_pos ⟨z, fun q => q.elim c (fun q => q d)⟩]
    exact rQ_o (rQ_fs h' (by decide) (by decide)) (by decide) (by decide)
  · exact no_ (fun q => q.2 (.inr d)) _ h'
theorem vr_boom {r m v : Int32} {s : sz_T} (hs : sm_ μ = s) (h : rQ_ nl a μ) : vX12_boom r m v μ (fun _ u => rQ_ nl (ab_boom r m v s a) u) := by
  unfold vX12_boom
  rintro μ1 rfl
  have h' : rQ_ nl a (km_si μ 1 0) := rQ_si h (by decide)
  have no_ : ¬ (z_is r s ∧ ¬ (v < 1 ∨ ¬ v ≤ 100)) → ∀ u, rQ_ nl a u → rQ_ nl (ab_boom r m v s a) u := fun c u hu => by
    unfold ab_boom
    rw [if_neg c]
    exact hu
  refine vr_zis (s := s) hs (fun z => ⟨fun x => absurd rfl x, fun _ => ?_⟩) (fun z => ⟨fun _ => ⟨fun c => ?_, fun c => ⟨fun d => ?_, fun d => ?_⟩⟩, fun x => absurd x (by decide)⟩)
  · rintro _ rfl
    exact no_ (fun q => z q.1) _ (rQ_si h' (by decide))
  · exact no_ (fun q => q.2 (.inl c)) _ h'
  · rintro - μ8 rfl - μ10 rfl - μ12 rfl
    unfold ab_boom
    rw [if_pos ⟨z, fun q => q.elim c (fun q => q d)⟩]
    exact rQ_fs (rQ_fs (rQ_fs h' (by decide) (by decide)) (by decide) (by decide)) (by decide) (by decide)
  · exact no_ (fun q => q.2 (.inr d)) _ h'
theorem vr_watch {r v : Int32} {s : sz_T} (hv : v = 0 ∨ v = 1) (hs : sm_ μ = s) (h : rQ_ nl a μ) : vX12_watch r v μ (fun _ u => rQ_ nl (ab_watch r v s a) u) := by
  unfold vX12_watch
  rintro μ1 rfl
  have h' : rQ_ nl a (km_si μ 1 0) := rQ_si h (by decide)
  have ev : vp_nar .boolean v = v := by rcases hv with e | e <;> (rw [e]; rfl)
  rw [ev]
  refine vr_zis (s := s) hs (fun z => ⟨fun x => absurd rfl x, fun _ => ?_⟩) (fun z => ⟨fun _ => ?_, fun x => absurd x (by decide)⟩)
  · rintro _ rfl
    unfold ab_watch
    rw [if_neg z]
    exact rQ_si h' (by decide)
  · rintro - v6 - - μ8 rfl -
    unfold ab_watch
    rw [if_pos z]
    exact rQ_fs h' (by decide) (by decide)
theorem vr_crew84 {r c now : Int32} {k : Nat} (hk : c.toNatClampNeg = k) (hnow : km_i μ 2 = now) (h : rQ_ nl a μ) {Q : Int32 → km_S → Prop} (kk : ∀ u, rQ_ nl (ab_come r now k a) u → Q c u) : vX12_crew_84 Q r c μ := by
  unfold vX12_crew_84 vX12_crew_104
  rw [hk, h.1.1 44 (by decide)]
  intro _
  refine ⟨fun c1 _ => ?_, fun c1 _ => ?_⟩
  · rintro μ2 rfl
    refine kk _ ?_
    unfold ab_come
    rw [if_pos c1]
    exact rQ_fs h (by decide) (by decide)
  · rintro μ6 rfl - μ2 rfl
    refine kk _ ?_
    unfold ab_come
    rw [if_neg c1, hnow]
    exact rQ_fs (rQ_fs h (by decide) (by decide)) (by decide) (by decide)
theorem vr_crew {k r : Int32} {s : sz_T} (h7 : 0 ≤ s.1.2.2.1.toInt) (hs : sm_ μ = s) (h : rQ_ nl a μ) : vX12_crew k r μ (fun _ u => rQ_ nl (ab_crew k r s a) u) := by
  unfold vX12_crew
  rintro μ1 rfl
  have h' : rQ_ nl a (km_si μ 1 0) := rQ_si h (by decide)
  have hs' : sm_ (km_si μ 1 0) = s := hs
  have e7 : km_i (km_si μ 1 0) 7 = s.1.2.2.1 := congrArg (fun s : sz_T => s.1.2.2.1) hs'
  have e2 : km_i (km_si μ 1 0) 2 = s.1.2.2.2.2.2 := congrArg (fun s : sz_T => s.1.2.2.2.2.2) hs'
  generalize km_si μ 1 0 = u1 at *
  refine vr_zis (s := s) hs' (fun z => ⟨fun x => absurd rfl x, fun _ => ?_⟩) (fun z => ⟨fun _ => ?_, fun x => absurd x (by decide)⟩)
  · rintro _ rfl
    unfold ab_crew
    rw [if_neg z]
    exact rQ_si h' (by decide)
  · have same : ab_crew k r s a = a → rQ_ nl (ab_crew k r s a) u1 := fun e => by rw [e]; exact h'
    rw [e7]
    refine ⟨fun c => same ?_, fun c => ⟨fun d => same ?_, fun d => ⟨fun e => ?_, fun e => ⟨fun f => ?_, fun f => same ?_⟩⟩⟩⟩
    · unfold ab_crew
      rw [if_pos z, if_neg (by intro q; rw [q] at c; exact absurd c (by decide)), if_pos (.inl c)]
    · unfold ab_crew
      rw [if_pos z]
      by_cases q : k = -1
      · rw [if_pos q]
        by_cases q6 : s.1.2.2.1 = 6
        · rw [if_pos q6]
        · exfalso
          rw [q, ki_le, ki_zm] at d
          omega
      · rw [if_neg q, if_pos (.inr d)]
    · unfold vX12_crew_47
      refine ⟨fun _ => vr_crew84 rfl e2 h' (fun u hu => ?_), fun q => absurd q e⟩
      unfold ab_crew
      rw [if_pos z, if_neg e, if_neg (fun q => q.elim c d)]
      exact hu
    · unfold vX12_crew_47
      refine ⟨fun q => absurd e q, fun _ => ?_⟩
      rintro v8 e8 μ9 rfl - μ11 rfl - μ13 rfl
      rw [e7] at e8
      subst e8
      have h9 : rQ_ nl (fs_ (fs_ a 44 s.1.2.2.1.toNatClampNeg (-1)) 46 s.1.2.2.1.toNatClampNeg (-5)) (km_sa (km_sa (km_si u1 7 (km_i u1 7 + 1)) 44 s.1.2.2.1.toNatClampNeg (-1)) 46 s.1.2.2.1.toNatClampNeg (-5)) := rQ_fs (rQ_fs (rQ_si h' (by decide)) (by decide) (by decide)) (by decide) (by decide)
      have e2' : km_i (km_sa (km_sa (km_si u1 7 (km_i u1 7 + 1)) 44 s.1.2.2.1.toNatClampNeg (-1)) 46 s.1.2.2.1.toNatClampNeg (-5)) 2 = s.1.2.2.2.2.2 := e2
      refine vr_crew84 rfl e2' h9 (fun u hu => ?_)
      unfold ab_crew
      rw [if_pos z, if_pos e, if_neg f]
      exact hu
    · unfold ab_crew
      rw [if_pos z, if_pos e, if_pos f]
theorem vr_order {r m z n : Int32} {s : sz_T} (hs : sm_ μ = s) (h : rQ_ nl a μ) : vX12_order r m z n μ (fun _ u => rQ_ nl (ab_order r m z n s a) u) := by
  unfold vX12_order
  rintro μ1 rfl
  have h' : rQ_ nl a (km_si μ 1 0) := rQ_si h (by decide)
  have hs' : sm_ (km_si μ 1 0) = s := hs
  have e8 : km_i (km_si μ 1 0) 8 = s.1.2.2.2.1 := congrArg (fun s : sz_T => s.1.2.2.2.1) hs'
  have e22 : km_a (km_si μ 1 0) 22 = s.2.2.2.2.2 := congrArg (fun s : sz_T => s.2.2.2.2.2) hs'
  generalize km_si μ 1 0 = u1 at *
  have no_ : ¬ (z_is r s ∧ ¬ (s.2.2.2.2.2 r.toNatClampNeg = 0 ∨ m < 0 ∨ 15 < m ∨ z < 1 ∨ 9 < z ∨ n < 1 ∨ 100 < n ∨ s.1.2.2.2.1 = 60)) → ∀ u, rQ_ nl a u → rQ_ nl (ab_order r m z n s a) u := fun c u hu => by
    unfold ab_order
    rw [if_neg c]
    exact hu
  refine vr_zis (s := s) hs' (fun zz => ⟨fun x => absurd rfl x, fun _ => ?_⟩) (fun zz => ⟨fun _ _ => ?_, fun x => absurd x (by decide)⟩)
  · rintro _ rfl
    exact no_ (fun q => zz q.1) _ (rQ_si h' (by decide))
  · rw [e22, e8]
    refine ⟨fun c => no_ (fun q => q.2 (.inl c)) _ h', fun c0 => ⟨fun c => no_ (fun q => q.2 (.inr (.inl c))) _ h', fun c1 => ⟨fun c => no_ (fun q => q.2 (.inr (.inr (.inl c)))) _ h', fun c2 => ⟨fun c => no_ (fun q => q.2 (.inr (.inr (.inr (.inl c))))) _ h', fun c3 => ⟨fun c => no_ (fun q => q.2 (.inr (.inr (.inr (.inr (.inl c)))))) _ h', fun c4 => ⟨fun c => no_ (fun q => q.2 (.inr (.inr (.inr (.inr (.inr (.inl c))))))) _ h', fun c5 => ⟨fun c => no_ (fun q => q.2 (.inr (.inr (.inr (.inr (.inr (.inr (.inl c)))))))) _ h', fun c6 => ⟨fun c7 _ => ?_, fun c => no_ (fun q => q.2 (.inr (.inr (.inr (.inr (.inr (.inr (.inr c)))))))) _ h'⟩⟩⟩⟩⟩⟩⟩⟩
    rintro μ15 rfl - μ17 rfl - μ19 rfl - μ21 rfl μ22 rfl
    have ok : z_is r s ∧ ¬ (s.2.2.2.2.2 r.toNatClampNeg = 0 ∨ m < 0 ∨ 15 < m ∨ z < 1 ∨ 9 < z ∨ n < 1 ∨ 100 < n ∨ s.1.2.2.2.1 = 60) := ⟨zz, by
      rintro (q | q | q | q | q | q | q | q)
      · exact c0 q
      · exact c1 q
      · exact c2 q
      · exact c3 q
      · exact c4 q
      · exact c5 q
      · exact c6 q
      · exact c7 q⟩
    unfold ab_order
    rw [if_pos ok]
    refine rQ_si ?_ (by decide)
    have e8' : ∀ f i v, km_i (km_sa u1 f i v) 8 = s.1.2.2.2.1 := fun _ _ _ => e8
    show rQ_ nl _ (km_sa (km_sa (km_sa (km_sa u1 47 s.1.2.2.2.1.toNatClampNeg r) 48 (km_i u1 8).toNatClampNeg m) 49 (km_i u1 8).toNatClampNeg z) 50 (km_i u1 8).toNatClampNeg n)
    rw [e8]
    exact rQ_fs (rQ_fs (rQ_fs (rQ_fs h' (by decide) (by decide)) (by decide) (by decide)) (by decide) (by decide)) (by decide) (by decide)
theorem vr_reach {n l c j : Int32} {s : sz_T} (hs : sm_ μ = s) (h : rQ_ nl a μ) : vX12_reach n l c j μ (fun _ u => rQ_ nl (ab_reach n l c j s a) u) := by
  unfold vX12_reach
  rintro μ1 rfl
  have h' : rQ_ nl a (km_si μ 1 0) := rQ_si h (by decide)
  have hs' : sm_ (km_si μ 1 0) = s := hs
  have e3 : km_i (km_si μ 1 0) 3 = s.1.1 := congrArg (fun s : sz_T => s.1.1) hs'
  generalize km_si μ 1 0 = u1 at *
  have no_ : (s.1.1 = 10 ∨ n < -1 ∨ s.1.1 ≤ n ∨ l < 1 ∨ 12 < l ∨ c < 1 ∨ 20 < c ∨ j < 0 ∨ ¬ j ≤ 1000) → rQ_ nl (ab_reach n l c j s a) u1 := fun c => by
    unfold ab_reach
    rw [if_pos c]
    exact h'
  rw [e3]
  refine ⟨fun q => no_ (.inl q), fun h1 => ⟨fun q => no_ (.inr (.inl q)), fun h2 => ⟨fun q => no_ (.inr (.inr (.inl q))), fun h3 => ⟨fun q => no_ (.inr (.inr (.inr (.inl q)))), fun h4 => ⟨fun q => no_ (.inr (.inr (.inr (.inr (.inl q))))), fun h5 => ⟨fun q => no_ (.inr (.inr (.inr (.inr (.inr (.inl q)))))), fun h6 => ⟨fun q => no_ (.inr (.inr (.inr (.inr (.inr (.inr (.inl q))))))), fun h7 => ⟨fun q => no_ (.inr (.inr (.inr (.inr (.inr (.inr (.inr (.inl q)))))))), fun h8 => ⟨fun h9 => ?_, fun q => no_ (.inr (.inr (.inr (.inr (.inr (.inr (.inr (.inr q)))))))) ⟩⟩⟩⟩⟩⟩⟩⟩⟩
  rintro - μ12 rfl - μ14 rfl - μ16 rfl - μ18 rfl μ19 rfl
  have ok : ¬ (s.1.1 = 10 ∨ n < -1 ∨ s.1.1 ≤ n ∨ l < 1 ∨ 12 < l ∨ c < 1 ∨ 20 < c ∨ j < 0 ∨ ¬ j ≤ 1000) := by
    rintro (q | q | q | q | q | q | q | q | q)
    · exact h1 q
    · exact h2 q
    · exact h3 q
    · exact h4 q
    · exact h5 q
    · exact h6 q
    · exact h7 q
    · exact h8 q
    · exact q h9
  unfold ab_reach
  rw [if_neg ok]
  refine rQ_si ?_ (by decide)
  show rQ_ nl _ (km_sa (km_sa (km_sa (km_sa u1 13 s.1.1.toNatClampNeg n) 14 (km_i u1 3).toNatClampNeg l) 15 (km_i u1 3).toNatClampNeg c) 16 (km_i u1 3).toNatClampNeg j)
  rw [e3]
  exact rQ_fs (rQ_fs (rQ_fs (rQ_fs h' (by decide) (by decide)) (by decide) (by decide)) (by decide) (by decide)) (by decide) (by decide)
/-- a log that is cut: no board leads to it -/
theorem rQ_cut {m z t : Int32} (h : rQ_ nl a μ) (hz : 1 ≤ z.toInt ∧ z.toInt ≤ 9) : rQ_ (nl + 1) (fs_ (fs_ (fs_ (fs_ (fs_ (fs_ (fs_ a 35 nl m) 36 nl z) 37 nl t) 38 nl 0) 39 nl (-1)) 40 nl (-1)) 42 nl (-1)) (km_sa (km_sa (km_sa (km_sa (km_sa (km_sa (km_sa μ 35 nl m) 36 nl z) 37 nl t) 38 nl 0) 39 nl (-1)) 40 nl (-1)) 42 nl (-1)) := by
  refine ⟨rA_fs (rA_fs (rA_fs (rA_fs (rA_fs (rA_fs (rA_fs h.1 (by decide)) (by decide)) (by decide)) (by decide)) (by decide)) (by decide)) (by decide), ?_⟩
  obtain ⟨B1, B2, B3, B4⟩ := h.2
  have e43 : km_a (km_sa (km_sa (km_sa (km_sa (km_sa (km_sa (km_sa μ 35 nl m) 36 nl z) 37 nl t) 38 nl 0) 39 nl (-1)) 40 nl (-1)) 42 nl (-1)) 43 = km_a μ 43 := (sa_n (by decide)).trans ((sa_n (by decide)).trans ((sa_n (by decide)).trans ((sa_n (by decide)).trans ((sa_n (by decide)).trans ((sa_n (by decide)).trans (sa_n (by decide)))))))
  have f36 : (fs_ (fs_ (fs_ (fs_ (fs_ (fs_ (fs_ a 35 nl m) 36 nl z) 37 nl t) 38 nl 0) 39 nl (-1)) 40 nl (-1)) 42 nl (-1)).1 36 = upd (a.1 36) nl z := rfl
  have f38 : (fs_ (fs_ (fs_ (fs_ (fs_ (fs_ (fs_ a 35 nl m) 36 nl z) 37 nl t) 38 nl 0) 39 nl (-1)) 40 nl (-1)) 42 nl (-1)).1 38 = upd (a.1 38) nl 0 := rfl
  have f42 : (fs_ (fs_ (fs_ (fs_ (fs_ (fs_ (fs_ a 35 nl m) 36 nl z) 37 nl t) 38 nl 0) 39 nl (-1)) 40 nl (-1)) 42 nl (-1)).1 42 = upd (a.1 42) nl (-1) := rfl
  have f6 : (fs_ (fs_ (fs_ (fs_ (fs_ (fs_ (fs_ a 35 nl m) 36 nl z) 37 nl t) 38 nl 0) 39 nl (-1)) 40 nl (-1)) 42 nl (-1)).1 6 = a.1 6 := rfl
  unfold rB_
  rw [e43, f36, f38, f42, f6]
  have ne : ∀ x, ¬ upd (a.1 42) nl (-1) x = -1 → x ≠ nl := fun x q e => q (by rw [e, w_updS])
  refine ⟨fun x hx => ?_, B2, fun b hb => ?_, fun x hx hq => ?_⟩
  · by_cases c : x = nl
    · rw [c, w_updS, w_updS, w_updS]
      exact ⟨hz, fun _ => rfl⟩
    · rw [w_updN c, w_updN c, w_updN c]
      exact B1 x (by omega)
  · obtain ⟨x, x1, x2, x3, x4⟩ := B3 b hb
    have c : x ≠ nl := by omega
    refine ⟨x, by omega, ?_⟩
    rw [w_updN c, w_updN c]
    exact ⟨x2, x3, x4⟩
  · have c := ne x hq
    rw [w_updN c] at hq
    rw [w_updN c, w_updN c]
    exact B4 x (by omega) hq
theorem vr_cut {m z t : Int32} {s : sz_T} (hnl : s.1.2.1.toNatClampNeg = nl) (hs : sm_ μ = s) (h : rQ_ nl a μ) : vX12_cut m z t μ (fun _ u => rQ_ (if s.1.2.1 = 400 ∨ m < 0 ∨ 15 < m ∨ z < 1 ∨ 9 < z ∨ t < 0 ∨ ¬ t ≤ 1000000 then nl else nl + 1) (ab_cut m z t s a) u) := by
  unfold vX12_cut
  rintro μ1 rfl
  have h' : rQ_ nl a (km_si μ 1 0) := rQ_si h (by decide)
  have hs' : sm_ (km_si μ 1 0) = s := hs
  have e4 : km_i (km_si μ 1 0) 4 = s.1.2.1 := congrArg (fun s : sz_T => s.1.2.1) hs'
  generalize km_si μ 1 0 = u1 at *
  have z9 : (9 : Int32).toInt = 9 := by decide
  have no_ : (s.1.2.1 = 400 ∨ m < 0 ∨ 15 < m ∨ z < 1 ∨ 9 < z ∨ t < 0 ∨ ¬ t ≤ 1000000) → rQ_ (if s.1.2.1 = 400 ∨ m < 0 ∨ 15 < m ∨ z < 1 ∨ 9 < z ∨ t < 0 ∨ ¬ t ≤ 1000000 then nl else nl + 1) (ab_cut m z t s a) u1 := fun c => by
    unfold ab_cut
    rw [if_pos c, if_pos c]
    exact h'
  rw [e4]
  refine ⟨fun q => no_ (.inl q), fun h1 => ⟨fun q => no_ (.inr (.inl q)), fun h2 => ⟨fun q => no_ (.inr (.inr (.inl q))), fun h3 => ⟨fun q => no_ (.inr (.inr (.inr (.inl q)))), fun h4 => ⟨fun q => no_ (.inr (.inr (.inr (.inr (.inl q))))), fun h5 => ⟨fun q => no_ (.inr (.inr (.inr (.inr (.inr (.inl q)))))), fun h6 => ⟨fun h7 => ?_, fun q => no_ (.inr (.inr (.inr (.inr (.inr (.inr q)))))) ⟩⟩⟩⟩⟩⟩⟩
  rintro - μ10 rfl - μ12 rfl - μ14 rfl - μ16 rfl - μ18 rfl - μ20 rfl - μ22 rfl μ23 rfl
  have ok : ¬ (s.1.2.1 = 400 ∨ m < 0 ∨ 15 < m ∨ z < 1 ∨ 9 < z ∨ t < 0 ∨ ¬ t ≤ 1000000) := by
    rintro (q | q | q | q | q | q | q)
    · exact h1 q
    · exact h2 q
    · exact h3 q
    · exact h4 q
    · exact h5 q
    · exact h6 q
    · exact q h7
  unfold ab_cut
  rw [if_neg ok, if_neg ok, hnl]
  refine rQ_si ?_ (by decide)
  show rQ_ (nl + 1) _ (km_sa (km_sa (km_sa (km_sa (km_sa (km_sa (km_sa u1 35 nl m) 36 (km_i u1 4).toNatClampNeg z) 37 (km_i u1 4).toNatClampNeg t) 38 (km_i u1 4).toNatClampNeg 0) 39 (km_i u1 4).toNatClampNeg (-1)) 40 (km_i u1 4).toNatClampNeg (-1)) 42 (km_i u1 4).toNatClampNeg (-1))
  rw [e4, hnl]
  refine rQ_cut h' ?_
  rw [ki_lt, ki_z1] at h4
  rw [ki_lt, z9] at h5
  omega
end
