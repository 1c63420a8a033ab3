/-! bytes of an int: with or without sign they are the same -/
theorem b_low {x y : BitVec 32} (h : ∀ i, i < 8 → x.getLsbD i = y.getLsbD i) : x &&& 255#32 = y &&& 255#32 := by
  apply BitVec.eq_of_getLsbD_eq
  intro i hi
  rw [BitVec.getLsbD_and, BitVec.getLsbD_and]
  by_cases c : i < 8
  · rw [h i c]
  · have e : (255#32).getLsbD i = false := by
      have : ∀ j, j < 32 → ¬ j < 8 → (255#32).getLsbD j = false := by decide
      exact this i hi c
    rw [e, Bool.and_false, Bool.and_false]
theorem b_sh {x : BitVec 32} {k : Nat} (hk : k ≤ 24) : x.sshiftRight k &&& 255#32 = x >>> k &&& 255#32 := by
  refine b_low (fun i hi => ?_)
  rw [BitVec.getLsbD_sshiftRight, BitVec.getLsbD_ushiftRight]
  have : k + i < 32 := by omega
  simp [this]
  omega
theorem b_24 (x : Int32) : (x >>> ((24 : Int32) &&& 31)) &&& 255 = (x.toUInt32 >>> ((24 : Int32).toUInt32 &&& Int32.toUInt32 31)).toInt32 &&& 255 := Int32.toBitVec_inj.1 (b_sh (x := x.toBitVec) (k := 24) (by decide))
theorem b_16 (x : Int32) : (x >>> ((16 : Int32) &&& 31)) &&& 255 = (x.toUInt32 >>> ((16 : Int32).toUInt32 &&& Int32.toUInt32 31)).toInt32 &&& 255 := Int32.toBitVec_inj.1 (b_sh (x := x.toBitVec) (k := 16) (by decide))
theorem b_8 (x : Int32) : (x >>> ((8 : Int32) &&& 31)) &&& 255 = (x.toUInt32 >>> ((8 : Int32).toUInt32 &&& Int32.toUInt32 31)).toInt32 &&& 255 := Int32.toBitVec_inj.1 (b_sh (x := x.toBitVec) (k := 8) (by decide))
theorem b_0 (x : Int32) : (x >>> ((0 : Int32) &&& 31)) &&& 255 = (x.toUInt32 >>> ((0 : Int32).toUInt32 &&& Int32.toUInt32 31)).toInt32 &&& 255 := Int32.toBitVec_inj.1 (b_sh (x := x.toBitVec) (k := 0) (by decide))
theorem b_255 (v : Int32) : ¬ (v &&& 255) = -1 := by
  intro h
  have e : (v &&& 255).toBitVec.getLsbD 31 = (v.toBitVec.getLsbD 31 && (255#32).getLsbD 31) := BitVec.getLsbD_and
  rw [h, show (255#32).getLsbD 31 = false by decide, Bool.and_false] at e
  exact absurd e (by decide)
