/-! the law's start: what the Statement gives -/
theorem lz_strOf {s : State} {args : Array Value} {A : Nat → Prop} {own tx : String} {k : Nat} (h1 : (Cond.stringRef own k tx).before args s = true) (h2 : (Cond.exactly (.string own k) "java/lang/String").before args s = true) (hnA : ∀ a : Nat, a < s.heap.size → ¬ A a) : ∃ a : Nat, vk_R own k tx a s ∧ ¬ A a ∧ ∃ cell : Cell, s.heap[a]? = some cell ∧ cell.vm.isStatics = false ∧ s.vm.findClass "java/lang/String" = some cell.cls := by
  obtain ⟨a, c, cA, kA, q1, q2, q3, q4, q5, q6, -⟩ := Cond.exactly_spec (args := args) (first := s) (o := none) (s := s) (idx := []) (t := .string own k) (cls := "java/lang/String") h2
  exact ⟨a, vk_R.of h1 q1, hnA a (Array.getElem?_eq_some_iff.mp q3).1, cA, q3, q5, by rw [q6]; exact q2⟩
/-- the array classes -/
theorem lz_arr {s : State} {args : Array Value} {ty : FieldType} (hty : ty = .int ∨ ty = .long) (h : (Cond.arrayClass ty).before args s = true) : ∃ cA : ClassId, ArrOfT s cA ty ∧ va_RA s cA ty := by
  obtain ⟨c, k, comp, h1, h2, h3⟩ := Cond.arrayClass_spec (args := args) (first := s) (o := none) (s := s) (idx := []) h
  refine ⟨c, fun n z => ⟨(fun k h => by cases h), k, h2, comp, h3⟩, ?_⟩
  rcases hty with rfl | rfl <;> exact h1
theorem lz_arrO {s : State} {C : String} (h : va_AO C s) : ∃ cA : ClassId, ArrOfT s cA (.object C) ∧ va_RA s cA (.object C) := by
  obtain ⟨comp, c, k, h1, h2, h3, h4, h5⟩ := Cond.arrayOver_spec h
  exact ⟨c, fun N z => ⟨(fun k h => by cases h), k, h3, comp, h4⟩, k, comp, h3, h4, h1, h5⟩
/-- strings by their places -/
theorem lz_strs {args : Array Value} {s : State} {tm : Nat → Term} {A : Nat → Prop} (hex : ∀ i : Nat, i < 12 → (Cond.exactly (tm i) "java/lang/String").before args s = true) (hco : ∀ i : Nat, i < 12 → (Cond.eq (.field (tm i) "java/lang/String" "coder" "B") (.int 0)).before args s = true)
    (har : ∀ i : Nat, i < 12 → (Cond.arrayOf (.field (tm i) "java/lang/String" "value" "[B") .byte).before args s = true) (hle : ∀ i : Nat, i < 12 → (Cond.eq (.length (.field (tm i) "java/lang/String" "value" "[B")) (.int (Int32.ofNat (ks_len.getD i 0)))).before args s = true)
    (hel : ∀ i : Nat, i < 12 → ∀ j : Nat, j < ks_len.getD i 0 → (Cond.eq (.elem (.field (tm i) "java/lang/String" "value" "[B") (.int (Int32.ofNat j))) (.int ((ks_byt.getD i []).getD j 0))).before args s = true) (hA : ∀ a : Nat, a < s.heap.size → ¬ A a) :
    ∃ adK adV : Nat → Nat, ∀ i : Nat, i < 12 → (tm i).eval args s none [] s = some (.ref (adK i)) ∧ va_O "java/lang/String" (adK i) A s s.heap ∧ va_OF "java/lang/String" "coder" "B" (.int 0) (adK i) A s s.heap ∧ va_OF "java/lang/String" "value" "[B" (.ref (adV i)) (adK i) A s s.heap ∧ va_T .byte (adV i) (ks_len.getD i 0) (fun j => .int ((ks_byt.getD i []).getD j 0)) A s s.heap := by
  have hN : ∀ i : Nat, i < 12 → ks_len.getD i 0 < 2 ^ 31 := by decide
  have h0 : ∀ i : Nat, ∃ q : Nat × Nat, i < 12 → (tm i).eval args s none [] s = some (.ref q.1) ∧ va_O "java/lang/String" q.1 A s s.heap ∧ va_OF "java/lang/String" "coder" "B" (.int 0) q.1 A s s.heap ∧ va_OF "java/lang/String" "value" "[B" (.ref q.2) q.1 A s s.heap ∧ va_T .byte q.2 (ks_len.getD i 0) (fun j => .int ((ks_byt.getD i []).getD j 0)) A s s.heap := by
    intro i
    by_cases hi : i < 12
    · obtain ⟨a, c, cA, kA, q1, q2, q3, q4, q5, q6, -⟩ := Cond.exactly_spec (args := args) (first := s) (o := none) (s := s) (idx := []) (t := tm i) (cls := "java/lang/String") (hex i hi)
      obtain ⟨t, ht, hT⟩ := va_Tof (f := fun j => .int ((ks_byt.getD i []).getD j 0)) (A := A) (hN i hi) (har i hi) (va_eqt (hle i hi)) (fun j hj => va_eqt (hel i hi j hj)) hA
      exact ⟨(a, t), fun _ => ⟨q1, va_Oof (hex i hi) q1 hA, vk_OFof q1 (va_eqt (hco i hi)) hA, vk_OFof q1 ht hA, hT⟩⟩
    · exact ⟨(0, 0), fun h => absurd h hi⟩
  exact ⟨fun i => (Classical.choose (h0 i)).1, fun i => (Classical.choose (h0 i)).2, fun i hi => Classical.choose_spec (h0 i) hi⟩
def lz_pX : List Nat := [99, 101, 103, 105, 107, 109, 111, 52, 46, 80, 82, 71]
def lz_pM : List Nat := [9, 11, 13, 15, 17, 19, 21, 247, 253, 268, 270, 275]
def lz_tx : List String := ["mark", "size", "stump", "hour", "day", "reach", "age", "toll", "bar", "and", "or", "not"]
set_option maxRecDepth 100000 in
theorem lz_own (own : String) (ps : List Nat) {s : State} {args : Array Value} {A : Nat → Prop} (hts : ∀ w ∈ lw_tbl, w.before args s = true) (hs : ∀ w ∈ flatC (Jvm.Cond.and given_1 narrow_1), w.before args s = true)
    (k0 : ∀ i : Nat, i < 12 → Cond.stringRef own (ps.getD i 0) (lz_tx.getD i "") ∈ lw_tbl)
    (k1 : ∀ i : Nat, i < 12 → Cond.exactly (.string own (ps.getD i 0)) "java/lang/String" ∈ flatC (Jvm.Cond.and given_1 narrow_1))
    (k2 : ∀ i : Nat, i < 12 → Cond.eq (.field (.string own (ps.getD i 0)) "java/lang/String" "coder" "B") (.int 0) ∈ flatC (Jvm.Cond.and given_1 narrow_1))
    (k3 : ∀ i : Nat, i < 12 → Cond.arrayOf (.field (.string own (ps.getD i 0)) "java/lang/String" "value" "[B") .byte ∈ flatC (Jvm.Cond.and given_1 narrow_1))
    (k4 : ∀ i : Nat, i < 12 → Cond.eq (.length (.field (.string own (ps.getD i 0)) "java/lang/String" "value" "[B")) (.int (Int32.ofNat (ks_len.getD i 0))) ∈ flatC (Jvm.Cond.and given_1 narrow_1))
    (k5 : ∀ i : Nat, i < 12 → ∀ j : Nat, j < ks_len.getD i 0 → Cond.eq (.elem (.field (.string own (ps.getD i 0)) "java/lang/String" "value" "[B") (.int (Int32.ofNat j))) (.int ((ks_byt.getD i []).getD j 0)) ∈ flatC (Jvm.Cond.and given_1 narrow_1))
    (hZ1 : va_Z "java/lang/String" "COMPACT_STRINGS" "Z" (.int 1) A s s.heap) (hZ2 : va_Zq "jdk/internal/util/Preconditions" "SIOOBE_FORMATTER" "Ljava/util/function/BiFunction;" A s s.heap) (hnA : ∀ a : Nat, a < s.heap.size → ¬ A a) :
    ∃ adK adV : Nat → Nat, ks_S adK adV A s s.heap ∧ (∀ i : Nat, i < 12 → vk_R own (ps.getD i 0) (lz_tx.getD i "") (adK i) s) ∧ ∀ i : Nat, i < 12 → ¬ A (adK i) ∧ ∃ cell : Cell, s.heap[adK i]? = some cell ∧ cell.vm.isStatics = false ∧ s.vm.findClass "java/lang/String" = some cell.cls := by
  obtain ⟨adK, adV, h⟩ := lz_strs (A := A) (tm := fun i => .string own (ps.getD i 0)) (fun i hi => hs _ (k1 i hi)) (fun i hi => hs _ (k2 i hi)) (fun i hi => hs _ (k3 i hi)) (fun i hi => hs _ (k4 i hi)) (fun i hi j hj => hs _ (k5 i hi j hj)) hnA
  refine ⟨adK, adV, ⟨fun i hi => (h i hi).2, hZ1, hZ2⟩, fun i hi => vk_R.of (hts _ (k0 i hi)) (h i hi).1, fun i hi => ?_⟩
  obtain ⟨a, c, cA, kA, q1, q2, q3, q4, q5, q6, -⟩ := Cond.exactly_spec (args := args) (first := s) (o := none) (s := s) (idx := []) (t := .string own (ps.getD i 0)) (cls := "java/lang/String") (hs _ (k1 i hi))
  obtain rfl : a = adK i := by have e := q1.symm.trans (h i hi).1; cases e; rfl
  exact ⟨hnA _ (Array.getElem?_eq_some_iff.mp q3).1, cA, q3, q5, by rw [q6]; exact q2⟩
set_option maxRecDepth 100000 in
theorem lz_X_0 : ∀ i : Nat, i < 12 → Cond.stringRef RX5 (lz_pX.getD i 0) (lz_tx.getD i "") ∈ lw_tbl := by decide +kernel
set_option maxRecDepth 100000 in
theorem lz_X_1 : ∀ i : Nat, i < 12 → Cond.exactly (.string RX5 (lz_pX.getD i 0)) "java/lang/String" ∈ flatC (Jvm.Cond.and given_1 narrow_1) := by decide +kernel
set_option maxRecDepth 100000 in
theorem lz_X_2 : ∀ i : Nat, i < 12 → Cond.eq (.field (.string RX5 (lz_pX.getD i 0)) "java/lang/String" "coder" "B") (.int 0) ∈ flatC (Jvm.Cond.and given_1 narrow_1) := by decide +kernel
set_option maxRecDepth 100000 in
theorem lz_X_3 : ∀ i : Nat, i < 12 → Cond.arrayOf (.field (.string RX5 (lz_pX.getD i 0)) "java/lang/String" "value" "[B") .byte ∈ flatC (Jvm.Cond.and given_1 narrow_1) := by decide +kernel
set_option maxRecDepth 100000 in
theorem lz_X_4 : ∀ i : Nat, i < 12 → Cond.eq (.length (.field (.string RX5 (lz_pX.getD i 0)) "java/lang/String" "value" "[B")) (.int (Int32.ofNat (ks_len.getD i 0))) ∈ flatC (Jvm.Cond.and given_1 narrow_1) := by decide +kernel
set_option maxRecDepth 100000 in
theorem lz_X5_0 : ∀ j : Nat, j < ks_len.getD 0 0 → Cond.eq (.elem (.field (.string RX5 (lz_pX.getD 0 0)) "java/lang/String" "value" "[B") (.int (Int32.ofNat j))) (.int ((ks_byt.getD 0 []).getD j 0)) ∈ flatC (Jvm.Cond.and given_1 narrow_1) := by decide +kernel
set_option maxRecDepth 100000 in
theorem lz_X5_1 : ∀ j : Nat, j < ks_len.getD 1 0 → Cond.eq (.elem (.field (.string RX5 (lz_pX.getD 1 0)) "java/lang/String" "value" "[B") (.int (Int32.ofNat j))) (.int ((ks_byt.getD 1 []).getD j 0)) ∈ flatC (Jvm.Cond.and given_1 narrow_1) := by decide +kernel
set_option maxRecDepth 100000 in
theorem lz_X5_2 : ∀ j : Nat, j < ks_len.getD 2 0 → Cond.eq (.elem (.field (.string RX5 (lz_pX.getD 2 0)) "java/lang/String" "value" "[B") (.int (Int32.ofNat j))) (.int ((ks_byt.getD 2 []).getD j 0)) ∈ flatC (Jvm.Cond.and given_1 narrow_1) := by decide +kernel
set_option maxRecDepth 100000 in
theorem lz_X5_3 : ∀ j : Nat, j < ks_len.getD 3 0 → Cond.eq (.elem (.field (.string RX5 (lz_pX.getD 3 0)) "java/lang/String" "value" "[B") (.int (Int32.ofNat j))) (.int ((ks_byt.getD 3 []).getD j 0)) ∈ flatC (Jvm.Cond.and given_1 narrow_1) := by decide +kernel
set_option maxRecDepth 100000 in
theorem lz_X5_4 : ∀ j : Nat, j < ks_len.getD 4 0 → Cond.eq (.elem (.field (.string RX5 (lz_pX.getD 4 0)) "java/lang/String" "value" "[B") (.int (Int32.ofNat j))) (.int ((ks_byt.getD 4 []).getD j 0)) ∈ flatC (Jvm.Cond.and given_1 narrow_1) := by decide +kernel
set_option maxRecDepth 100000 in
theorem lz_X5_5 : ∀ j : Nat, j < ks_len.getD 5 0 → Cond.eq (.elem (.field (.string RX5 (lz_pX.getD 5 0)) "java/lang/String" "value" "[B") (.int (Int32.ofNat j))) (.int ((ks_byt.getD 5 []).getD j 0)) ∈ flatC (Jvm.Cond.and given_1 narrow_1) := by decide +kernel
set_option maxRecDepth 100000 in
theorem lz_X5_6 : ∀ j : Nat, j < ks_len.getD 6 0 → Cond.eq (.elem (.field (.string RX5 (lz_pX.getD 6 0)) "java/lang/String" "value" "[B") (.int (Int32.ofNat j))) (.int ((ks_byt.getD 6 []).getD j 0)) ∈ flatC (Jvm.Cond.and given_1 narrow_1) := by decide +kernel
set_option maxRecDepth 100000 in
theorem lz_X5_7 : ∀ j : Nat, j < ks_len.getD 7 0 → Cond.eq (.elem (.field (.string RX5 (lz_pX.getD 7 0)) "java/lang/String" "value" "[B") (.int (Int32.ofNat j))) (.int ((ks_byt.getD 7 []).getD j 0)) ∈ flatC (Jvm.Cond.and given_1 narrow_1) := by decide +kernel
set_option maxRecDepth 100000 in
theorem lz_X5_8 : ∀ j : Nat, j < ks_len.getD 8 0 → Cond.eq (.elem (.field (.string RX5 (lz_pX.getD 8 0)) "java/lang/String" "value" "[B") (.int (Int32.ofNat j))) (.int ((ks_byt.getD 8 []).getD j 0)) ∈ flatC (Jvm.Cond.and given_1 narrow_1) := by decide +kernel
set_option maxRecDepth 100000 in
theorem lz_X5_9 : ∀ j : Nat, j < ks_len.getD 9 0 → Cond.eq (.elem (.field (.string RX5 (lz_pX.getD 9 0)) "java/lang/String" "value" "[B") (.int (Int32.ofNat j))) (.int ((ks_byt.getD 9 []).getD j 0)) ∈ flatC (Jvm.Cond.and given_1 narrow_1) := by decide +kernel
set_option maxRecDepth 100000 in
theorem lz_X5_10 : ∀ j : Nat, j < ks_len.getD 10 0 → Cond.eq (.elem (.field (.string RX5 (lz_pX.getD 10 0)) "java/lang/String" "value" "[B") (.int (Int32.ofNat j))) (.int ((ks_byt.getD 10 []).getD j 0)) ∈ flatC (Jvm.Cond.and given_1 narrow_1) := by decide +kernel
set_option maxRecDepth 100000 in
theorem lz_X5_11 : ∀ j : Nat, j < ks_len.getD 11 0 → Cond.eq (.elem (.field (.string RX5 (lz_pX.getD 11 0)) "java/lang/String" "value" "[B") (.int (Int32.ofNat j))) (.int ((ks_byt.getD 11 []).getD j 0)) ∈ flatC (Jvm.Cond.and given_1 narrow_1) := by decide +kernel
theorem lz_X_5 : ∀ i : Nat, i < 12 → ∀ j : Nat, j < ks_len.getD i 0 → Cond.eq (.elem (.field (.string RX5 (lz_pX.getD i 0)) "java/lang/String" "value" "[B") (.int (Int32.ofNat j))) (.int ((ks_byt.getD i []).getD j 0)) ∈ flatC (Jvm.Cond.and given_1 narrow_1)
  | 0, _ => lz_X5_0
  | 1, _ => lz_X5_1
  | 2, _ => lz_X5_2
  | 3, _ => lz_X5_3
  | 4, _ => lz_X5_4
  | 5, _ => lz_X5_5
  | 6, _ => lz_X5_6
  | 7, _ => lz_X5_7
  | 8, _ => lz_X5_8
  | 9, _ => lz_X5_9
  | 10, _ => lz_X5_10
  | 11, _ => lz_X5_11
  | _ + 12, h => absurd h (by omega)
theorem lz_X {s : State} {args : Array Value} {A : Nat → Prop} (hts : ∀ w ∈ lw_tbl, w.before args s = true) (hs : ∀ w ∈ flatC (Jvm.Cond.and given_1 narrow_1), w.before args s = true) (hZ1 : va_Z "java/lang/String" "COMPACT_STRINGS" "Z" (.int 1) A s s.heap) (hZ2 : va_Zq "jdk/internal/util/Preconditions" "SIOOBE_FORMATTER" "Ljava/util/function/BiFunction;" A s s.heap) (hnA : ∀ a : Nat, a < s.heap.size → ¬ A a) :
    ∃ adK adV : Nat → Nat, ks_S adK adV A s s.heap ∧ (∀ i : Nat, i < 12 → vk_R RX5 (lz_pX.getD i 0) (lz_tx.getD i "") (adK i) s) ∧ ∀ i : Nat, i < 12 → ¬ A (adK i) ∧ ∃ cell : Cell, s.heap[adK i]? = some cell ∧ cell.vm.isStatics = false ∧ s.vm.findClass "java/lang/String" = some cell.cls :=
  lz_own RX5 lz_pX hts hs lz_X_0 lz_X_1 lz_X_2 lz_X_3 lz_X_4 lz_X_5 hZ1 hZ2 hnA
set_option maxRecDepth 100000 in
theorem lz_M_0 : ∀ i : Nat, i < 12 → Cond.stringRef RX12 (lz_pM.getD i 0) (lz_tx.getD i "") ∈ lw_tbl := by decide +kernel
set_option maxRecDepth 100000 in
theorem lz_M_1 : ∀ i : Nat, i < 12 → Cond.exactly (.string RX12 (lz_pM.getD i 0)) "java/lang/String" ∈ flatC (Jvm.Cond.and given_1 narrow_1) := by decide +kernel
set_option maxRecDepth 100000 in
theorem lz_M_2 : ∀ i : Nat, i < 12 → Cond.eq (.field (.string RX12 (lz_pM.getD i 0)) "java/lang/String" "coder" "B") (.int 0) ∈ flatC (Jvm.Cond.and given_1 narrow_1) := by decide +kernel
set_option maxRecDepth 100000 in
theorem lz_M_3 : ∀ i : Nat, i < 12 → Cond.arrayOf (.field (.string RX12 (lz_pM.getD i 0)) "java/lang/String" "value" "[B") .byte ∈ flatC (Jvm.Cond.and given_1 narrow_1) := by decide +kernel
set_option maxRecDepth 100000 in
theorem lz_M_4 : ∀ i : Nat, i < 12 → Cond.eq (.length (.field (.string RX12 (lz_pM.getD i 0)) "java/lang/String" "value" "[B")) (.int (Int32.ofNat (ks_len.getD i 0))) ∈ flatC (Jvm.Cond.and given_1 narrow_1) := by decide +kernel
set_option maxRecDepth 100000 in
theorem lz_M5_0 : ∀ j : Nat, j < ks_len.getD 0 0 → Cond.eq (.elem (.field (.string RX12 (lz_pM.getD 0 0)) "java/lang/String" "value" "[B") (.int (Int32.ofNat j))) (.int ((ks_byt.getD 0 []).getD j 0)) ∈ flatC (Jvm.Cond.and given_1 narrow_1) := by decide +kernel
set_option maxRecDepth 100000 in
theorem lz_M5_1 : ∀ j : Nat, j < ks_len.getD 1 0 → Cond.eq (.elem (.field (.string RX12 (lz_pM.getD 1 0)) "java/lang/String" "value" "[B") (.int (Int32.ofNat j))) (.int ((ks_byt.getD 1 []).getD j 0)) ∈ flatC (Jvm.Cond.and given_1 narrow_1) := by decide +kernel
set_option maxRecDepth 100000 in
theorem lz_M5_2 : ∀ j : Nat, j < ks_len.getD 2 0 → Cond.eq (.elem (.field (.string RX12 (lz_pM.getD 2 0)) "java/lang/String" "value" "[B") (.int (Int32.ofNat j))) (.int ((ks_byt.getD 2 []).getD j 0)) ∈ flatC (Jvm.Cond.and given_1 narrow_1) := by decide +kernel
set_option maxRecDepth 100000 in
theorem lz_M5_3 : ∀ j : Nat, j < ks_len.getD 3 0 → Cond.eq (.elem (.field (.string RX12 (lz_pM.getD 3 0)) "java/lang/String" "value" "[B") (.int (Int32.ofNat j))) (.int ((ks_byt.getD 3 []).getD j 0)) ∈ flatC (Jvm.Cond.and given_1 narrow_1) := by decide +kernel
set_option maxRecDepth 100000 in
theorem lz_M5_4 : ∀ j : Nat, j < ks_len.getD 4 0 → Cond.eq (.elem (.field (.string RX12 (lz_pM.getD 4 0)) "java/lang/String" "value" "[B") (.int (Int32.ofNat j))) (.int ((ks_byt.getD 4 []).getD j 0)) ∈ flatC (Jvm.Cond.and given_1 narrow_1) := by decide +kernel
set_option maxRecDepth 100000 in
theorem lz_M5_5 : ∀ j : Nat, j < ks_len.getD 5 0 → Cond.eq (.elem (.field (.string RX12 (lz_pM.getD 5 0)) "java/lang/String" "value" "[B") (.int (Int32.ofNat j))) (.int ((ks_byt.getD 5 []).getD j 0)) ∈ flatC (Jvm.Cond.and given_1 narrow_1) := by decide +kernel
set_option maxRecDepth 100000 in
theorem lz_M5_6 : ∀ j : Nat, j < ks_len.getD 6 0 → Cond.eq (.elem (.field (.string RX12 (lz_pM.getD 6 0)) "java/lang/String" "value" "[B") (.int (Int32.ofNat j))) (.int ((ks_byt.getD 6 []).getD j 0)) ∈ flatC (Jvm.Cond.and given_1 narrow_1) := by decide +kernel
set_option maxRecDepth 100000 in
theorem lz_M5_7 : ∀ j : Nat, j < ks_len.getD 7 0 → Cond.eq (.elem (.field (.string RX12 (lz_pM.getD 7 0)) "java/lang/String" "value" "[B") (.int (Int32.ofNat j))) (.int ((ks_byt.getD 7 []).getD j 0)) ∈ flatC (Jvm.Cond.and given_1 narrow_1) := by decide +kernel
set_option maxRecDepth 100000 in
theorem lz_M5_8 : ∀ j : Nat, j < ks_len.getD 8 0 → Cond.eq (.elem (.field (.string RX12 (lz_pM.getD 8 0)) "java/lang/String" "value" "[B") (.int (Int32.ofNat j))) (.int ((ks_byt.getD 8 []).getD j 0)) ∈ flatC (Jvm.Cond.and given_1 narrow_1) := by decide +kernel
set_option maxRecDepth 100000 in
theorem lz_M5_9 : ∀ j : Nat, j < ks_len.getD 9 0 → Cond.eq (.elem (.field (.string RX12 (lz_pM.getD 9 0)) "java/lang/String" "value" "[B") (.int (Int32.ofNat j))) (.int ((ks_byt.getD 9 []).getD j 0)) ∈ flatC (Jvm.Cond.and given_1 narrow_1) := by decide +kernel
set_option maxRecDepth 100000 in
theorem lz_M5_10 : ∀ j : Nat, j < ks_len.getD 10 0 → Cond.eq (.elem (.field (.string RX12 (lz_pM.getD 10 0)) "java/lang/String" "value" "[B") (.int (Int32.ofNat j))) (.int ((ks_byt.getD 10 []).getD j 0)) ∈ flatC (Jvm.Cond.and given_1 narrow_1) := by decide +kernel
set_option maxRecDepth 100000 in
theorem lz_M5_11 : ∀ j : Nat, j < ks_len.getD 11 0 → Cond.eq (.elem (.field (.string RX12 (lz_pM.getD 11 0)) "java/lang/String" "value" "[B") (.int (Int32.ofNat j))) (.int ((ks_byt.getD 11 []).getD j 0)) ∈ flatC (Jvm.Cond.and given_1 narrow_1) := by decide +kernel
theorem lz_M_5 : ∀ i : Nat, i < 12 → ∀ j : Nat, j < ks_len.getD i 0 → Cond.eq (.elem (.field (.string RX12 (lz_pM.getD i 0)) "java/lang/String" "value" "[B") (.int (Int32.ofNat j))) (.int ((ks_byt.getD i []).getD j 0)) ∈ flatC (Jvm.Cond.and given_1 narrow_1)
  | 0, _ => lz_M5_0
  | 1, _ => lz_M5_1
  | 2, _ => lz_M5_2
  | 3, _ => lz_M5_3
  | 4, _ => lz_M5_4
  | 5, _ => lz_M5_5
  | 6, _ => lz_M5_6
  | 7, _ => lz_M5_7
  | 8, _ => lz_M5_8
  | 9, _ => lz_M5_9
  | 10, _ => lz_M5_10
  | 11, _ => lz_M5_11
  | _ + 12, h => absurd h (by omega)
theorem lz_M {s : State} {args : Array Value} {A : Nat → Prop} (hts : ∀ w ∈ lw_tbl, w.before args s = true) (hs : ∀ w ∈ flatC (Jvm.Cond.and given_1 narrow_1), w.before args s = true) (hZ1 : va_Z "java/lang/String" "COMPACT_STRINGS" "Z" (.int 1) A s s.heap) (hZ2 : va_Zq "jdk/internal/util/Preconditions" "SIOOBE_FORMATTER" "Ljava/util/function/BiFunction;" A s s.heap) (hnA : ∀ a : Nat, a < s.heap.size → ¬ A a) :
    ∃ adK adV : Nat → Nat, ks_S adK adV A s s.heap ∧ (∀ i : Nat, i < 12 → vk_R RX12 (lz_pM.getD i 0) (lz_tx.getD i "") (adK i) s) ∧ ∀ i : Nat, i < 12 → ¬ A (adK i) ∧ ∃ cell : Cell, s.heap[adK i]? = some cell ∧ cell.vm.isStatics = false ∧ s.vm.findClass "java/lang/String" = some cell.cls :=
  lz_own RX12 lz_pM hts hs lz_M_0 lz_M_1 lz_M_2 lz_M_3 lz_M_4 lz_M_5 hZ1 hZ2 hnA
