/-! the law's start: classes, arrays, words -/
set_option maxRecDepth 100000 in
theorem lz_i0 : Cond.instantiable RJx4a65c 3 ∈ lw_tbl := by decide +kernel
set_option maxRecDepth 100000 in
theorem lz_i1 : Cond.instantiable RX0 4 ∈ lw_tbl := by decide +kernel
set_option maxRecDepth 100000 in
theorem lz_i2 : Cond.instantiable RX1 4 ∈ lw_tbl := by decide +kernel
set_option maxRecDepth 100000 in
theorem lz_i3 : Cond.instantiable RX2 2 ∈ lw_tbl := by decide +kernel
set_option maxRecDepth 100000 in
theorem lz_i4 : Cond.instantiable RX3 5 ∈ lw_tbl := by decide +kernel
set_option maxRecDepth 100000 in
theorem lz_i5 : Cond.instantiable RX4 2 ∈ lw_tbl := by decide +kernel
set_option maxRecDepth 100000 in
theorem lz_i6 : Cond.instantiable RX5 5 ∈ lw_tbl := by decide +kernel
set_option maxRecDepth 100000 in
theorem lz_i7 : Cond.instantiable RX6 9 ∈ lw_tbl := by decide +kernel
set_option maxRecDepth 100000 in
theorem lz_i8 : Cond.instantiable RX7 3 ∈ lw_tbl := by decide +kernel
set_option maxRecDepth 100000 in
theorem lz_i9 : Cond.instantiable RX8 13 ∈ lw_tbl := by decide +kernel
set_option maxRecDepth 100000 in
theorem lz_i10 : Cond.instantiable RX9 2 ∈ lw_tbl := by decide +kernel
set_option maxRecDepth 100000 in
theorem lz_i11 : Cond.instantiable RX10 5 ∈ lw_tbl := by decide +kernel
set_option maxRecDepth 100000 in
theorem lz_i12 : Cond.instantiable RX11 14 ∈ lw_tbl := by decide +kernel
set_option maxRecDepth 100000 in
theorem lz_i13 : Cond.instantiable RX12 70 ∈ lw_tbl := by decide +kernel
theorem lz_known {s : State} {args : Array Value} (hts : ∀ w ∈ lw_tbl, w.before args s = true) : ∃ (dC : Nat → ClassId) (dI : Nat → Nat → Nat), ∀ (k : Nat) (q : vw_C), vwCl[k]? = some q → u_Kn s q.1 q.2.1 q.2.2 (dC k) (dI k) := by
  have ht : ∀ w ∈ kt_, w.before args s = true := fun w hw => hts w (List.mem_filter.mp hw).1
  obtain ⟨k0, iS0, hKn0⟩ := u_known (C := RJx4a65c) (T := TJx4a65c) (N := 3) (n := 3) ht kx_inJx4a65c (hts _ lz_i0)
  obtain ⟨k1, iS1, hKn1⟩ := u_known (C := RX0) (T := TX0) (N := 4) (n := 4) ht kx_inX0 (hts _ lz_i1)
  obtain ⟨k2, iS2, hKn2⟩ := u_known (C := RX1) (T := TX1) (N := 4) (n := 4) ht kx_inX1 (hts _ lz_i2)
  obtain ⟨k3, iS3, hKn3⟩ := u_known (C := RX2) (T := TX2) (N := 2) (n := 2) ht kx_inX2 (hts _ lz_i3)
  obtain ⟨k4, iS4, hKn4⟩ := u_known (C := RX3) (T := TX3) (N := 5) (n := 5) ht kx_inX3 (hts _ lz_i4)
  obtain ⟨k5, iS5, hKn5⟩ := u_known (C := RX4) (T := TX4) (N := 2) (n := 2) ht kx_inX4 (hts _ lz_i5)
  obtain ⟨k6, iS6, hKn6⟩ := u_known (C := RX5) (T := TX5) (N := 5) (n := 5) ht kx_inX5 (hts _ lz_i6)
  obtain ⟨k7, iS7, hKn7⟩ := u_known (C := RX6) (T := TX6) (N := 9) (n := 9) ht kx_inX6 (hts _ lz_i7)
  obtain ⟨k8, iS8, hKn8⟩ := u_known (C := RX7) (T := TX7) (N := 3) (n := 3) ht kx_inX7 (hts _ lz_i8)
  obtain ⟨k9, iS9, hKn9⟩ := u_known (C := RX8) (T := TX8) (N := 13) (n := 13) ht kx_inX8 (hts _ lz_i9)
  obtain ⟨k10, iS10, hKn10⟩ := u_known (C := RX9) (T := TX9) (N := 2) (n := 2) ht kx_inX9 (hts _ lz_i10)
  obtain ⟨k11, iS11, hKn11⟩ := u_known (C := RX10) (T := TX10) (N := 5) (n := 5) ht kx_inX10 (hts _ lz_i11)
  obtain ⟨k12, iS12, hKn12⟩ := u_known (C := RX11) (T := TX11) (N := 14) (n := 14) ht kx_inX11 (hts _ lz_i12)
  obtain ⟨k13, iS13, hKn13⟩ := u_known (C := RX12) (T := TX12) (N := 70) (n := 70) ht km_in (hts _ lz_i13)
  refine ⟨fun k => match k with | 0 => k0 | 1 => k1 | 2 => k2 | 3 => k3 | 4 => k4 | 5 => k5 | 6 => k6 | 7 => k7 | 8 => k8 | 9 => k9 | 10 => k10 | 11 => k11 | 12 => k12 | _ => k13, fun k => match k with | 0 => iS0 | 1 => iS1 | 2 => iS2 | 3 => iS3 | 4 => iS4 | 5 => iS5 | 6 => iS6 | 7 => iS7 | 8 => iS8 | 9 => iS9 | 10 => iS10 | 11 => iS11 | 12 => iS12 | _ => iS13, ?_⟩
  intro k q hq
  match k, hq with
  | 0, hq => cases hq; exact hKn0
  | 1, hq => cases hq; exact hKn1
  | 2, hq => cases hq; exact hKn2
  | 3, hq => cases hq; exact hKn3
  | 4, hq => cases hq; exact hKn4
  | 5, hq => cases hq; exact hKn5
  | 6, hq => cases hq; exact hKn6
  | 7, hq => cases hq; exact hKn7
  | 8, hq => cases hq; exact hKn8
  | 9, hq => cases hq; exact hKn9
  | 10, hq => cases hq; exact hKn10
  | 11, hq => cases hq; exact hKn11
  | 12, hq => cases hq; exact hKn12
  | 13, hq => cases hq; exact hKn13
  | k + 14, hq => simp [vwCl] at hq
set_option maxRecDepth 100000 in
theorem lz_strp : (∀ q ∈ pz_strs, Cond.stringRef q.1 q.2.1 q.2.2 ∈ lw_tbl) ∧ ∀ q ∈ pz_strs, Cond.exactly (.string q.1 q.2.1) "java/lang/String" ∈ flatC (Jvm.Cond.and given_1 narrow_1) := ⟨by decide +kernel, by decide +kernel⟩
set_option maxRecDepth 100000 in
theorem lz_pzs {s : State} {args : Array Value} {A : Nat → Prop} (hts : ∀ w ∈ lw_tbl, w.before args s = true) (hs : ∀ w ∈ flatC (Jvm.Cond.and given_1 narrow_1), w.before args s = true) (hnA : ∀ a : Nat, a < s.heap.size → ¬ A a) : ∃ e0 : Nat, pz_s e0 A s s.heap := by
  have hlen : (Term.length (.static "java/util/ArrayList" "DEFAULTCAPACITY_EMPTY_ELEMENTDATA" "[Ljava/lang/Object;")).eval args s none [] s = some (.int (Int32.ofNat 0)) := va_eqt (hs (.eq (.length (.static "java/util/ArrayList" "DEFAULTCAPACITY_EMPTY_ELEMENTDATA" "[Ljava/lang/Object;")) (.int 0)) (by decide +kernel))
  obtain ⟨e0, he0, hTe⟩ := va_Tof (args := args) (s := s) (tm := .static "java/util/ArrayList" "DEFAULTCAPACITY_EMPTY_ELEMENTDATA" "[Ljava/lang/Object;") (ty := .object "java/lang/Object") (N := 0) (f := fun _ => .null) (A := A) (by decide) (hs (.arrayOf (.static "java/util/ArrayList" "DEFAULTCAPACITY_EMPTY_ELEMENTDATA" "[Ljava/lang/Object;") (.object "java/lang/Object")) (by decide +kernel)) hlen (fun j hj => absurd hj (Nat.not_lt_zero j)) hnA
  exact ⟨e0, va_Zref (hts _ (by decide +kernel)) (hts _ (by decide +kernel)) he0 hnA, hTe, vx_Zqof (hts _ (by decide +kernel)) (hts _ (by decide +kernel)) (hs _ (by decide +kernel)) hnA, vx_Zqof (hts _ (by decide +kernel)) (hts _ (by decide +kernel)) (hs _ (by decide +kernel)) hnA⟩
set_option maxRecDepth 100000 in
theorem lz_zz {s : State} {args : Array Value} {A : Nat → Prop} (hts : ∀ w ∈ lw_tbl, w.before args s = true) (hs : ∀ w ∈ flatC (Jvm.Cond.and given_1 narrow_1), w.before args s = true) (hnA : ∀ a : Nat, a < s.heap.size → ¬ A a) : va_Z "java/lang/String" "COMPACT_STRINGS" "Z" (.int 1) A s s.heap ∧ va_Zq "jdk/internal/util/Preconditions" "SIOOBE_FORMATTER" "Ljava/util/function/BiFunction;" A s s.heap :=
  ⟨va_Zof (hts _ (by decide +kernel)) (hts _ (by decide +kernel)) (va_eqt (hs (.eq (.static "java/lang/String" "COMPACT_STRINGS" "Z") (.int 1)) (by decide +kernel))) hnA, va_Zqof (hts _ (by decide +kernel)) (hts _ (by decide +kernel)) (hs _ (by decide +kernel)) hnA⟩
set_option maxRecDepth 100000 in
theorem lz_fsize {s : State} {args : Array Value} (hts : ∀ w ∈ lw_tbl, w.before args s = true) : va_Fw RJx4a65c pz_lsize yJx4a65c_size_8abf5 s := va_Fw.of (hts _ (by decide +kernel)) (hts _ (by decide +kernel)) (hts _ (by decide +kernel)) (hts _ (by decide +kernel)) (hts _ (by decide +kernel))
set_option maxRecDepth 100000 in
theorem lz_fadd {s : State} {args : Array Value} (hts : ∀ w ∈ lw_tbl, w.before args s = true) : va_Fw RJx4a65c pz_ladd yJx4a65c_add_9ea2d s := va_Fw.of (hts _ (by decide +kernel)) (hts _ (by decide +kernel)) (hts _ (by decide +kernel)) (hts _ (by decide +kernel)) (hts _ (by decide +kernel))
set_option maxRecDepth 100000 in
theorem lz_fget {s : State} {args : Array Value} (hts : ∀ w ∈ lw_tbl, w.before args s = true) : va_Fw RJx4a65c pz_lget yJx4a65c_get_915e3 s := va_Fw.of (hts _ (by decide +kernel)) (hts _ (by decide +kernel)) (hts _ (by decide +kernel)) (hts _ (by decide +kernel)) (hts _ (by decide +kernel))
set_option maxRecDepth 100000 in
theorem lz_frem {s : State} {args : Array Value} (hts : ∀ w ∈ lw_tbl, w.before args s = true) : va_Fw RJx4a65c pz_lrem yJx4a65c_remove_915e3 s := va_Fw.of (hts _ (by decide +kernel)) (hts _ (by decide +kernel)) (hts _ (by decide +kernel)) (hts _ (by decide +kernel)) (hts _ (by decide +kernel))
set_option maxRecDepth 100000 in
theorem lz_B {s : State} {args : Array Value} (hts : ∀ w ∈ lw_tbl, w.before args s = true) : pz_B s := ⟨va_any rfl (hts _ (by decide +kernel)), va_any rfl (hts _ (by decide +kernel)), va_any rfl (hts _ (by decide +kernel)), va_any rfl (hts _ (by decide +kernel)), va_any rfl (hts _ (by decide +kernel))⟩
set_option maxRecDepth 100000 in
theorem lz_lcp : ∀ q ∈ kx_lc, Cond.castable q.2 "java/lang/Object" ∈ lw_tbl := by decide +kernel
set_option maxRecDepth 100000 in
theorem lz_w {s : State} {args : Array Value} (hts : ∀ w ∈ lw_tbl, w.before args s = true) (hs : ∀ w ∈ flatC (Jvm.Cond.and given_1 narrow_1), w.before args s = true) : ∃ mi : Nat, pz_w mi s := by
  obtain ⟨mi, hmi⟩ := va_Mi.of (C := "[Ljava/lang/Object;") (hs _ (by decide +kernel))
  exact ⟨mi, va_AO.of (hts _ (by decide +kernel)), fun q hq => va_Nw.of rfl (hts _ (lz_lcp q hq)), va_Nw.of rfl (hts _ (by decide +kernel)), va_Dc.of (hts _ (by decide +kernel)), hmi⟩
set_option maxRecDepth 100000 in
theorem lz_arrs {s : State} {args : Array Value} (hts : ∀ w ∈ lw_tbl, w.before args s = true) : (∃ cA : ClassId, ArrOfT s cA .int ∧ va_RA s cA .int) ∧ (∃ cA : ClassId, ArrOfT s cA .long ∧ va_RA s cA .long) ∧ (∃ cA : ClassId, ArrOfT s cA (.object "java/lang/Object") ∧ va_RA s cA (.object "java/lang/Object")) ∧ va_AO "java/lang/String" s :=
  ⟨lz_arr (.inl rfl) (hts _ (by decide +kernel)), lz_arr (.inr rfl) (hts _ (by decide +kernel)), lz_arrO (va_AO.of (hts _ (by decide +kernel))), va_AO.of (hts _ (by decide +kernel))⟩
/-- all that the start gives, in the loop's words; the reference isn't there yet -/
def lz_G (D : va_G) (ci cl co : ClassId) (A : Nat → Prop) (aK aV : Nat → Nat) (e0 mi : Nat) : kx_G := (D, ci, cl, co, A, aK, aV, e0, mi)
theorem lz_begin {s : State} {args : Array Value} (hts : ∀ w ∈ lw_tbl, w.before args s = true) (hgv : (Jvm.Cond.and given_1 narrow_1).before args s = true) :
    ∃ (D : va_G) (ci cl co : ClassId) (aK aV mK mV : Nat → Nat) (e0 mi : Nat), ∀ A : Nat → Prop,
      va_K D vwCl (kx_ty (lz_G D ci cl co A aK aV e0 mi)) s ∧ pz_s e0 (lx_A s) s s.heap ∧ kx_V (lz_G D ci cl co A aK aV e0 mi) s ∧ ks_S aK aV (lx_A s) s s.heap ∧ ks_S mK mV (lx_A s) s s.heap ∧ km_R mK s ∧ va_AO "java/lang/String" s ∧ ∀ i : Nat, i < 12 → mi_s (lx_A s) (lz_pM.getD i 0) (lz_tx.getD i "") (mK i) s := by
  have hs := flat_of_before _ hgv
  have hnA : ∀ a : Nat, a < s.heap.size → ¬ lx_A s a := fun a h => Nat.not_le.mpr h
  obtain ⟨dC, dI, hKc⟩ := lz_known hts
  obtain ⟨e0, hz⟩ := lz_pzs hts hs hnA
  obtain ⟨z1, z2⟩ := lz_zz hts hs hnA
  obtain ⟨aK, aV, xS, xR, -⟩ := lz_X hts hs z1 z2 hnA
  obtain ⟨mK, mV, mS, mR, mC⟩ := lz_M hts hs z1 z2 hnA
  obtain ⟨mi, hw⟩ := lz_w hts hs
  obtain ⟨⟨ci, i1, i2⟩, ⟨cl, l1, l2⟩, ⟨co, o1, o2⟩, hAO⟩ := lz_arrs hts
  refine ⟨(dC, dI), ci, cl, co, aK, aV, mK, mV, e0, mi, fun A => ⟨⟨hKc, fun k q hq => ?_⟩, hz, ⟨fun q hq => ?_, fun i q hq => ?_, ⟨lz_fsize hts, lz_fadd hts, lz_fget hts, lz_frem hts⟩, lz_B hts, hw⟩, xS, mS, ⟨mR 7 (by decide), mR 8 (by decide), mR 9 (by decide), mR 10 (by decide), mR 11 (by decide)⟩, hAO, fun i hi => ⟨mR i hi, mC i hi⟩⟩⟩
  · match k, hq with
    | 0, hq => cases hq; exact ⟨i1, i2⟩
    | 1, hq => cases hq; exact ⟨l1, l2⟩
    | 2, hq => cases hq; exact ⟨o1, o2⟩
    | k + 3, hq => simp [kx_ty] at hq
  · obtain ⟨a, ha, -⟩ := lz_strOf (hts _ (lz_strp.1 q hq)) (hs _ (lz_strp.2 q hq)) hnA
    exact ⟨a, ha⟩
  · match i, hq with
    | 0, hq => cases hq; exact xR 0 (by decide)
    | 1, hq => cases hq; exact xR 1 (by decide)
    | 2, hq => cases hq; exact xR 2 (by decide)
    | 3, hq => cases hq; exact xR 3 (by decide)
    | 4, hq => cases hq; exact xR 4 (by decide)
    | 5, hq => cases hq; exact xR 5 (by decide)
    | 6, hq => cases hq; exact xR 6 (by decide)
    | 7, hq => cases hq; exact xR 7 (by decide)
    | 8, hq => cases hq; exact xR 8 (by decide)
    | 9, hq => cases hq; exact xR 9 (by decide)
    | 10, hq => cases hq; exact xR 10 (by decide)
    | 11, hq => cases hq; exact xR 11 (by decide)
    | i + 12, hq => simp [kx_wp] at hq
