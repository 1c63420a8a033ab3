/-! THE CLAIM OUT OF ONE WALK OF THE LAW'S BODY. Your part is whole_start (and what it stands on); all else here is the same for every law, but numbers. -/
def R_law : String := "LogRiverLaw"
def lw_P (b : Addr) (xs : List Int32) (args : Array Value) (s : State) : Prop := args = #[.ref b] ∧ s.IntsAt b xs ∧ xs.length ≤ 3072 ∧ (Jvm.Cond.and given_1 narrow_1).before args s = true
def lw_Q (_ : Array Value) (s : State) (o : Outcome) (t : State) : Prop := o = .returned (some (.int 1)) ∧ Framed s o t [] 601024 7293034
def lw_Z (below : List Frame) (a : Array Value) (s : State) : State → Prop := fun t => ∃ o, t.status = .running ∧ Ended t below o ∧ lw_Q a s o t
/-- the law's own end, with 1 on the stack, nothing written that was there before, its room as the claim has it -/
theorem lw_ret {p : Program} {l : Launch} {e : Env} {s : State} {m : MethodId} {below : List Frame} {meth : Method} {c : Code} {b : Nat} (hx : p.tables.exec = Jvm.exec) (hb : c.code = code) (hr : meth.sig.returnType = ret) (hlocks : meth.locks = false) {pc : Nat} {H : Heap} {ls : Array Slot} (hdg : decode code pc = .ok (.ireturn, 1)) : W p l e room_1 s m #[Value.ref b] below meth c H [] 601024 7293034 (lw_Z below #[Value.ref b] s) (F0 m pc ls [.int 1]) := by
  intro T hT X
  obtain ⟨fs, hret, hrun, hended, hW, hframe⟩ := X.leave (v := some (.int 1)) (hlocks := hlocks) (fun h => by rw [hr] at h; cases h)
  have hmeth' : T.vm.method? m = some meth := X.method'
  refine ⟨T.setFrames fs, ?_, .returned (some (.int 1)), hrun, hended, rfl, ⟨_, rfl⟩, hW, hframe⟩
  jvm_step X.here [X.here.top, hx, hb, hdg, hmeth', hr, ret, narrow_b1]
  (try refine ⟨rfl, ?_⟩); (try refine ⟨rfl, ?_⟩)
  first | (intro acts; rw [hret _ acts rfl rfl rfl]) | rw [hret _ _ rfl rfl rfl]
  exact Steps.refl _
/-- what holds at the law's entry: the machine, the code, the tables' words (any of lw_tbl by 'hts w (by decide +kernel)'), the script of L ints xs at the cell b, what the Statement gives of the start (any of its parts by flat_of_before) -/
def lw_At (p : Program) (s : State) (m : MethodId) (meth : Method) (c : Code) (b L : Nat) (xs : Nat → Int32) : Prop :=
  p.tables.exec = Jvm.exec ∧ c.code = code ∧ meth.sig.returnType = ret ∧ c.maxLocals = 8 ∧ s.vm.findClass R_law = some m.cls ∧ (∀ w ∈ lw_tbl, w.before #[Value.ref b] s = true) ∧ va_X b L xs s s.heap ∧ b < s.heap.size ∧ meth.locks = false ∧ (Jvm.Cond.and given_1 narrow_1).before #[Value.ref b] s = true
theorem yZ_next {k : Nat} {s : sz_T} {L O : Nat} {σ : kx_S} (Z : yZ_ k s L O σ) : yZ_ (k + 1) s L O σ := by
  obtain ⟨g, κ, B, n, e, eO, J, hn, hB⟩ := Z
  exact ⟨g, κ, B, n, e, eO, J, hn, by omega⟩
set_option maxRecDepth 100000 in
set_option maxHeartbeats 4000000 in
theorem lc_loop {p : Program} {l : Launch} {e : Env} {s : State} {m : MethodId} {below : List Frame} {meth : Method} {c : Code} {b L : Nat} {xs : Nat → Int32} (hlt : l.stackTraces = false) (hL : L ≤ 3072) (C0 : lw_At p s m meth c b L xs) (F : CallFix p m c cL_law_ 8 s #[Value.ref b] kt_ RL) {G : kx_G} {M : km_G} {x o : Nat} :
    ∀ (n k : Nat) (i : Int32) (H : Heap) (locs : List Loc) (σ : kx_S) (μ : km_S) (ls : Array Slot), i.toInt = 6 * (k : Int) → (L : Int) + 6 - i.toInt < 6 * (n : Int) → lx_C G M s H locs σ μ → yZ_ k (sm_ μ) x o σ → im_ μ → LV_ x σ μ → i.toInt ≤ L → lv_has ls 8 [(4, .int i), (3, .ref o), (2, .ref (M.1 0)), (1, .ref x), (0, .ref b)] → lx_W p l e s m #[Value.ref b] below meth c H locs σ (lw_Z below #[Value.ref b] s) (F0 m 23 ls []) := by
  obtain ⟨hx, hb, hr, hml, hown, hts0, hX, hbl, hlocks, hgv⟩ := id C0
  have hbA : ¬ lx_A s b := Nat.not_le.mpr hbl
  intro n
  induction n with
  | zero => intro k i H locs σ μ ls h1 h2 C Z I V h3; omega
  | succ n ih =>
    intro k i H locs σ μ ls h1 h2 C Z I V h3 hl
    have hi0 : 0 ≤ i.toInt := by omega
    have hk : k < 600 := by omega
    have eL : (Int32.ofNat L).toInt = (L : Int) := nI_toInt (n := L) (by omega)
    have z6 : (6 : Int32).toInt = 6 := by decide
    refine lv_iload F.1 F.2.1 dL_law__23 (lv_at hl 0 rfl) ?_
    refine lv_aload_n F.1 F.2.1 dL_law__25 rfl (lv_at hl 4 rfl) ?_
    refine va_slen F.1 F.2.1 hX hbl hbA C.1 dL_law__26 ?_
    refine lv_bipush (v := 6) F.1 F.2.1 dL_law__27 (by decide) ?_
    refine lv_isub F.1 F.2.1 dL_law__29 ?_
    refine lv_topi (fun y ey => ?_)
    have hy : y.toInt = (L : Int) - 6 := by rw [ey, ki_sub (by rw [eL, z6]; omega) (by rw [eL, z6]; omega), eL, z6]
    clear ey
    refine lv_icmp_gt (tgt := 1170) F.1 F.2.1 dL_law__30 (by decide) (fun c9 => ?_) (fun c9 => ?_)
    · have hc := C.2.2.1.1.2
      have hN : kx_N = 10000 := rfl
      refine lv_iconst (v := 1) F.1 F.2.1 dL_law__1170 (by decide) ?_
      refine va_forget (fun q hq => C.1.2.2 q hq) ?_
      refine W.widen (k := 601024) (n := 7293034) (by omega) (by omega) ?_
      exact lw_ret hx hb hr hlocks dL_law__1171
    rw [ki_lt, hy] at c9
    have hv : ∀ j : Int32, 0 ≤ j.toInt → j.toInt ≤ 5 → vp_in (i + j) L := fun j j1 j2 => by
      rw [ki_in, ki_add (by omega) (by omega)]
      omega
    have hvi : vp_in i L := by rw [ki_in]; omega
    have N : ∀ (ls : Array Slot) (σ' : kx_S) (μ' : km_S) (H : Heap) (locs : List Loc), lx_C G M s H locs σ' μ' → yZ_ (k + 1) (sm_ μ') x o σ' → im_ μ' → LV_ x σ' μ' → lv_has ls 8 [(4, .int i), (3, .ref o), (2, .ref (M.1 0)), (1, .ref x), (0, .ref b)] → lx_W p l e s m #[Value.ref b] below meth c H locs σ' (lw_Z below #[Value.ref b] s) (F0 m 1164 ls []) := by
      intro ls σ' μ' H locs C' Z' I' V' hl'
      have e6 : (i + 6).toInt = i.toInt + 6 := by rw [ki_add (by rw [z6]; omega) (by rw [z6]; omega), z6]
      obtain ⟨w, ew⟩ : ∃ w, w = i + 6 := ⟨_, rfl⟩
      rw [← ew] at e6
      refine lv_iinc (v := w) (lv' := [(4, .int w), (3, .ref o), (2, .ref (M.1 0)), (1, .ref x), (0, .ref b)]) F.1 F.2.1 dL_law__1164 hl' (k := 0) rfl (by rw [ew]; rfl) (by decide) rfl (fun ls hl => ?_)
      refine lv_goto (tgt := 23) F.1 F.2.1 dL_law__1167 (by decide) ?_
      exact ih (k + 1) w H locs σ' μ' ls (by omega) (by omega) C' Z' I' V' (by omega) hl
    refine lv_aload_n F.1 F.2.1 dL_law__33 rfl (lv_at hl 4 rfl) ?_
    refine lv_iload F.1 F.2.1 dL_law__34 (lv_at hl 0 rfl) ?_
    refine va_sld F.1 F.2.1 hX hbl hbA C.1 hvi dL_law__36 ?_
    refine lv_bipush (v := 31) F.1 F.2.1 dL_law__37 (by decide) ?_
    refine lv_iand F.1 F.2.1 dL_law__39 ?_
    refine lv_topi (fun t et => ?_)
    clear et
    by_cases c0 : t = 0
    · rw [c0]
      refine lv_tableIn (off := 112) (tgt := 152) F.1 F.2.1 dL_law__40 (by decide) (by decide) (by decide) (by decide) ?_
      exact lc_reach hlt F hX hbl hbA C Z I V hk hv hl N
    by_cases c1 : t = 1
    · rw [c1]
      refine lv_tableIn (off := 173) (tgt := 213) F.1 F.2.1 dL_law__40 (by decide) (by decide) (by decide) (by decide) ?_
      exact lc_dam hlt F hX hbl hbA C Z I V hk hv hl N
    by_cases c2 : t = 2
    · rw [c2]
      refine lv_tableIn (off := 213) (tgt := 253) F.1 F.2.1 dL_law__40 (by decide) (by decide) (by decide) (by decide) ?_
      exact lc_gate hlt F hX hbl hbA C Z I V hk hv hl N
    by_cases c3 : t = 3
    · rw [c3]
      refine lv_tableIn (off := 253) (tgt := 293) F.1 F.2.1 dL_law__40 (by decide) (by decide) (by decide) (by decide) ?_
      exact lc_melt hlt F hX hbl hbA C Z I V hk hv hl N
    by_cases c4 : t = 4
    · rw [c4]
      refine lv_tableIn (off := 293) (tgt := 333) F.1 F.2.1 dL_law__40 (by decide) (by decide) (by decide) (by decide) ?_
      exact lc_boom hlt F hX hbl hbA C Z I V hk hv hl N
    by_cases c5 : t = 5
    · rw [c5]
      refine lv_tableIn (off := 345) (tgt := 385) F.1 F.2.1 dL_law__40 (by decide) (by decide) (by decide) (by decide) ?_
      by_cases hb9 : xs (i + 2).toNatClampNeg = 0
      · exact lc_watch0 hlt F hX hbl hbA C Z I V hk hv hb9 hl N
      · exact lc_watch1 hlt F hX hbl hbA C Z I V hk hv hb9 hl N
    by_cases c6 : t = 6
    · rw [c6]
      refine lv_tableIn (off := 401) (tgt := 441) F.1 F.2.1 dL_law__40 (by decide) (by decide) (by decide) (by decide) ?_
      exact lc_crew hlt F hX hbl hbA C Z I V hk hv hl N
    by_cases c7 : t = 7
    · rw [c7]
      refine lv_tableIn (off := 441) (tgt := 481) F.1 F.2.1 dL_law__40 (by decide) (by decide) (by decide) (by decide) ?_
      exact lc_feed hlt F hX hbl hbA C Z I V hk hv hl N
    by_cases c8 : t = 8
    · rw [c8]
      refine lv_tableIn (off := 514) (tgt := 554) F.1 F.2.1 dL_law__40 (by decide) (by decide) (by decide) (by decide) ?_
      exact lc_law hlt F hX hbl hbA C Z I V hk hv hl N
    by_cases c9 : t = 9
    · rw [c9]
      refine lv_tableIn (off := 554) (tgt := 594) F.1 F.2.1 dL_law__40 (by decide) (by decide) (by decide) (by decide) ?_
      exact lc_fault hlt F hX hbl hbA C Z I V hk hv hl N
    by_cases c10 : t = 10
    · rw [c10]
      refine lv_tableIn (off := 567) (tgt := 607) F.1 F.2.1 dL_law__40 (by decide) (by decide) (by decide) (by decide) ?_
      exact lc_cut hlt F hX hbl hbA C Z I V hk hv hl N
    by_cases c11 : t = 11
    · rw [c11]
      refine lv_tableIn (off := 616) (tgt := 656) F.1 F.2.1 dL_law__40 (by decide) (by decide) (by decide) (by decide) ?_
      exact lc_let hlt F hX hbl hbA C Z I V hk hv hl N
    by_cases c12 : t = 12
    · rw [c12]
      refine lv_tableIn (off := 668) (tgt := 708) F.1 F.2.1 dL_law__40 (by decide) (by decide) (by decide) (by decide) ?_
      exact lc_hours hlt F hX hbl hbA C Z I V hk hv hl N
    by_cases c13 : t = 13
    · rw [c13]
      refine lv_tableIn (off := 696) (tgt := 736) F.1 F.2.1 dL_law__40 (by decide) (by decide) (by decide) (by decide) ?_
      exact lc_order hlt F hX hbl hbA C Z I V hk hv hl N
    by_cases c14 : t = 14
    · rw [c14]
      refine lv_tableIn (off := 760) (tgt := 800) F.1 F.2.1 dL_law__40 (by decide) (by decide) (by decide) (by decide) ?_
      exact lc_wants hlt F hX hbl hbA C Z I V hk hv hl N
    by_cases c15 : t = 15
    · rw [c15]
      refine lv_tableIn (off := 788) (tgt := 828) F.1 F.2.1 dL_law__40 (by decide) (by decide) (by decide) (by decide) ?_
      exact lc_log hlt F hX hbl hbA C Z I V hk hv hl N
    by_cases c16 : t = 16
    · rw [c16]
      refine lv_tableIn (off := 828) (tgt := 868) F.1 F.2.1 dL_law__40 (by decide) (by decide) (by decide) (by decide) ?_
      exact lc_cell hlt F hX hbl hbA C Z I V hk hv hl N
    by_cases c17 : t = 17
    · rw [c17]
      refine lv_tableIn (off := 880) (tgt := 920) F.1 F.2.1 dL_law__40 (by decide) (by decide) (by decide) (by decide) ?_
      exact lc_inCell hlt F hX hbl hbA C Z I V hk hv hl N
    by_cases c18 : t = 18
    · rw [c18]
      refine lv_tableIn (off := 932) (tgt := 972) F.1 F.2.1 dL_law__40 (by decide) (by decide) (by decide) (by decide) ?_
      exact lc_heap hlt F hX hbl hbA C Z I V hk hv hl N
    by_cases c19 : t = 19
    · rw [c19]
      refine lv_tableIn (off := 972) (tgt := 1012) F.1 F.2.1 dL_law__40 (by decide) (by decide) (by decide) (by decide) ?_
      exact lc_water hlt F hX hbl hbA C Z I V hk hv hl N
    by_cases c20 : t = 20
    · rw [c20]
      refine lv_tableIn (off := 1012) (tgt := 1052) F.1 F.2.1 dL_law__40 (by decide) (by decide) (by decide) (by decide) ?_
      exact lc_waters hlt F hX hbl hbA C Z I V hk hv hl N
    by_cases c21 : t = 21
    · rw [c21]
      refine lv_tableIn (off := 1040) (tgt := 1080) F.1 F.2.1 dL_law__40 (by decide) (by decide) (by decide) (by decide) ?_
      exact lc_board hlt F hX hbl hbA C Z I V hk hv hl N
    by_cases c22 : t = 22
    · rw [c22]
      refine lv_tableIn (off := 1068) (tgt := 1108) F.1 F.2.1 dL_law__40 (by decide) (by decide) (by decide) (by decide) ?_
      exact lc_paid hlt F hX hbl hbA C Z I V hk hv hl N
    by_cases c23 : t = 23
    · rw [c23]
      refine lv_tableIn (off := 1096) (tgt := 1136) F.1 F.2.1 dL_law__40 (by decide) (by decide) (by decide) (by decide) ?_
      exact lc_count hlt F hX hbl hbA C Z I V hk hv hl N
    have d0 : t.toInt ≠ 0 := fun h9 => c0 (ki_eq.2 (h9.trans (by decide)))
    have d1 : t.toInt ≠ 1 := fun h9 => c1 (ki_eq.2 (h9.trans (by decide)))
    have d2 : t.toInt ≠ 2 := fun h9 => c2 (ki_eq.2 (h9.trans (by decide)))
    have d3 : t.toInt ≠ 3 := fun h9 => c3 (ki_eq.2 (h9.trans (by decide)))
    have d4 : t.toInt ≠ 4 := fun h9 => c4 (ki_eq.2 (h9.trans (by decide)))
    have d5 : t.toInt ≠ 5 := fun h9 => c5 (ki_eq.2 (h9.trans (by decide)))
    have d6 : t.toInt ≠ 6 := fun h9 => c6 (ki_eq.2 (h9.trans (by decide)))
    have d7 : t.toInt ≠ 7 := fun h9 => c7 (ki_eq.2 (h9.trans (by decide)))
    have d8 : t.toInt ≠ 8 := fun h9 => c8 (ki_eq.2 (h9.trans (by decide)))
    have d9 : t.toInt ≠ 9 := fun h9 => c9 (ki_eq.2 (h9.trans (by decide)))
    have d10 : t.toInt ≠ 10 := fun h9 => c10 (ki_eq.2 (h9.trans (by decide)))
    have d11 : t.toInt ≠ 11 := fun h9 => c11 (ki_eq.2 (h9.trans (by decide)))
    have d12 : t.toInt ≠ 12 := fun h9 => c12 (ki_eq.2 (h9.trans (by decide)))
    have d13 : t.toInt ≠ 13 := fun h9 => c13 (ki_eq.2 (h9.trans (by decide)))
    have d14 : t.toInt ≠ 14 := fun h9 => c14 (ki_eq.2 (h9.trans (by decide)))
    have d15 : t.toInt ≠ 15 := fun h9 => c15 (ki_eq.2 (h9.trans (by decide)))
    have d16 : t.toInt ≠ 16 := fun h9 => c16 (ki_eq.2 (h9.trans (by decide)))
    have d17 : t.toInt ≠ 17 := fun h9 => c17 (ki_eq.2 (h9.trans (by decide)))
    have d18 : t.toInt ≠ 18 := fun h9 => c18 (ki_eq.2 (h9.trans (by decide)))
    have d19 : t.toInt ≠ 19 := fun h9 => c19 (ki_eq.2 (h9.trans (by decide)))
    have d20 : t.toInt ≠ 20 := fun h9 => c20 (ki_eq.2 (h9.trans (by decide)))
    have d21 : t.toInt ≠ 21 := fun h9 => c21 (ki_eq.2 (h9.trans (by decide)))
    have d22 : t.toInt ≠ 22 := fun h9 => c22 (ki_eq.2 (h9.trans (by decide)))
    have d23 : t.toInt ≠ 23 := fun h9 => c23 (ki_eq.2 (h9.trans (by decide)))
    refine lv_tableOut (tgt := 1164) F.1 F.2.1 dL_law__40 (by omega) (by decide) ?_
    exact N ls σ μ H locs C (yZ_next Z) I V hl
