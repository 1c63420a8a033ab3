/-! the law's start: its walk to the loop -/
theorem lz_df12 : ∀ j, j < 70 → defaultValue (tyX12 j) = vp_V [.null, .int 0, .int 0, .int 0, .int 0, .int 0, .int 0, .int 0, .int 0, .int 0, .int 0, .long 0, .long 0, .null, .null, .null, .null, .null, .null, .null, .null, .null, .null, .null, .null, .null, .null, .null, .null, .null, .null, .null, .null, .null, .null, .null, .null, .null, .null, .null, .null, .null, .null, .null, .null, .null, .null, .null, .null, .null, .null, .null, .null, .null, .null, .null, .null, .null, .null, .int 0, .int 0, .int 0, .int 0, .int 0, .int 0, .int 0, .int 0, .int 0, .int 0, .null] j := by
  intro j hj
  match j, hj with
  | 0, _ => rfl
  | 1, _ => rfl
  | 2, _ => rfl
  | 3, _ => rfl
  | 4, _ => rfl
  | 5, _ => rfl
  | 6, _ => rfl
  | 7, _ => rfl
  | 8, _ => rfl
  | 9, _ => rfl
  | 10, _ => rfl
  | 11, _ => rfl
  | 12, _ => rfl
  | 13, _ => rfl
  | 14, _ => rfl
  | 15, _ => rfl
  | 16, _ => rfl
  | 17, _ => rfl
  | 18, _ => rfl
  | 19, _ => rfl
  | 20, _ => rfl
  | 21, _ => rfl
  | 22, _ => rfl
  | 23, _ => rfl
  | 24, _ => rfl
  | 25, _ => rfl
  | 26, _ => rfl
  | 27, _ => rfl
  | 28, _ => rfl
  | 29, _ => rfl
  | 30, _ => rfl
  | 31, _ => rfl
  | 32, _ => rfl
  | 33, _ => rfl
  | 34, _ => rfl
  | 35, _ => rfl
  | 36, _ => rfl
  | 37, _ => rfl
  | 38, _ => rfl
  | 39, _ => rfl
  | 40, _ => rfl
  | 41, _ => rfl
  | 42, _ => rfl
  | 43, _ => rfl
  | 44, _ => rfl
  | 45, _ => rfl
  | 46, _ => rfl
  | 47, _ => rfl
  | 48, _ => rfl
  | 49, _ => rfl
  | 50, _ => rfl
  | 51, _ => rfl
  | 52, _ => rfl
  | 53, _ => rfl
  | 54, _ => rfl
  | 55, _ => rfl
  | 56, _ => rfl
  | 57, _ => rfl
  | 58, _ => rfl
  | 59, _ => rfl
  | 60, _ => rfl
  | 61, _ => rfl
  | 62, _ => rfl
  | 63, _ => rfl
  | 64, _ => rfl
  | 65, _ => rfl
  | 66, _ => rfl
  | 67, _ => rfl
  | 68, _ => rfl
  | 69, _ => rfl
  | j + 70, hj => exact absurd hj (by omega)
theorem mi_blind {D : va_G} {adK : Nat → Nat} {A : Nat → Prop} {q : Nat} {av : List Value} : FrameBlind (va_Pc av (mi_B D adK A q)) := by
  intro a U g mk h
  obtain ⟨q0, h1, h2, h3, h4, h5, ⟨s0, t0⟩, ⟨s1, t1⟩, ⟨s2, t2⟩, ⟨s3, t3⟩, ⟨s4, t4⟩, ⟨s5, t5⟩, s6, t6⟩ := h
  exact ⟨q0, va_K.moved (u := U) (U := U.calling g mk a) (Vm.Alike.refl U.vm) h1, h2, h3, h4, va_AO.moved (u := U) (U := U.calling g mk a) (Vm.Alike.refl U.vm) h5, ⟨vk_R.same (u := U) (U := U.calling g mk a) rfl s0, t0⟩, ⟨vk_R.same (u := U) (U := U.calling g mk a) rfl s1, t1⟩, ⟨vk_R.same (u := U) (U := U.calling g mk a) rfl s2, t2⟩, ⟨vk_R.same (u := U) (U := U.calling g mk a) rfl s3, t3⟩, ⟨vk_R.same (u := U) (U := U.calling g mk a) rfl s4, t4⟩, ⟨vk_R.same (u := U) (U := U.calling g mk a) rfl s5, t5⟩, vk_R.same (u := U) (U := U.calling g mk a) rfl s6, t6⟩
section
variable {p : Program} {l : Launch} {e : Env} {s : State} {m : MethodId} {args : Array Value} {below : List Frame} {meth : Method} {c : Code} {H : Heap} {locs : List Loc} {Q : State → Prop}
variable {cc : ByteArray} {pc nL : Nat} {ls : Array Slot} {rest : List Value} {G : kx_G} {σ : kx_S}
/-- a call of the class, before the reference is there -/
theorem lz_call {mc ms : Nat} {P : Option Value → kx_S → Prop} {st0 : List Value} {a : Array Value} (hA : ∀ q, kx_A G q → lx_A s q) (hS : va_S (lx_A s) s.heap H locs)
    (hr : va_Run p l e room_1 s m args below meth c H locs (10 + xc σ) (1000 + 600 * xc σ) mc ms (F0 m pc ls st0) rest (kx_Q G σ P a) (kx_A G))
    (kk : ∀ (v : Option Value) (u : kx_S) (H1 : Heap) (locs1 : List Loc), P v u → (xz u = kx_z G ∧ xc u ≤ kx_N) → kx_P G u H1 → va_S (lx_A s) s.heap H1 locs1 → W p l e room_1 s m args below meth c H1 locs1 (10 + xc u) (1000 + 600 * xc u) Q (F0 m (pc + 3) ls (v.toList ++ rest))) : W p l e room_1 s m args below meth c H locs (10 + xc σ) (1000 + 600 * xc σ) Q (F0 m pc ls st0) := by
  intro T hT X
  have hs := kx_stand X
  rw [hT] at hs
  obtain ⟨v, st₀, t, T', L, h0, X', hL, e1, e2, ⟨v', u, hv, hp, h1, h2, h3, h4, h5⟩, st⟩ := hr T hT X
  cases hv
  rw [h0] at h5
  rw [← e1] at h5 h3
  rw [va_F, h0] at h4
  rw [← e1] at h4
  have hS1 : va_S (lx_A s) s.heap T'.heap (locs ++ L) := ⟨Nat.le_trans hS.1 h4.1, fun q g1 g2 => by rw [h4.2 q (Nat.lt_of_lt_of_le g1 hS.1) (fun x => g2 (hA q x))]; exact hS.2.1 q g1 g2, fun q hq => by
    rcases List.mem_append.mp hq with h | h
    · exact hS.2.2 q h
    · exact hA _ (hL q h)⟩
  have g1 := h5.1
  have g2 := h5.2
  obtain ⟨t2, a1, b1⟩ := kk v u T'.heap (locs ++ L) hp h2 h3 hS1 T' rfl (kx_standT X' (by omega) (by omega))
  exact ⟨t2, st t2 a1, b1⟩
end
/-- the state with one LogRiver, just born -/
def lz_s (q e0 : Nat) : kx_S := (va_up (fun _ => 0) q 13, fun _ _ => 0, fun _ _ => none, fun _ _ => 0, fun _ => 0, fun _ _ => 0, fun _ _ => 0, fun _ _ => none, 0, e0)
theorem lz_st {q e0 a : Nat} (h : xt (lz_s q e0) a ≠ 0) : a = q := by
  by_cases e : a = q
  · exact e
  · exact absurd (show xt (lz_s q e0) a = 0 from va_up_ne (fun _ => 0) 13 e) h
theorem lz_s13 {q e0 : Nat} : xt (lz_s q e0) q = 13 := va_up_self (fun _ => 0) q 13
theorem lz_no1 {q e0 a : Nat} (h : xt (lz_s q e0) a = 1) : False := by
  have e := lz_st (q := q) (e0 := e0) (a := a) (by rw [h]; decide)
  rw [e, lz_s13] at h
  omega
theorem lz_yo {q e0 : Nat} : yo0 [(q, 13)] (lz_s q e0) := ⟨fun a h => by rw [lz_st h, lz_s13]; exact List.mem_singleton.mpr rfl, fun a h _ _ f _ => rfl⟩
theorem lz_yL {q e0 : Nat} : ∀ g, yL_ g (fun _ => 8) 1 0 (lz_s q e0) := fun g => ⟨fun a h => (lz_no1 h).elim, fun a b d h => (lz_no1 h).elim, fun a h => (lz_no1 h).elim, [], rfl, List.nodup_nil, fun a => ⟨fun h => absurd h List.not_mem_nil, fun h => (lz_no1 h).elim⟩, by show 5 * 0 ≤ _; omega⟩
/-- the law's long[1] comes into the pool; its cell is none of the class's -/
def xnewO (σ : kx_S) (a : Nat) : kx_S := (va_up σ.1 a 21, σ.2.1, σ.2.2.1, σ.2.2.2.1, va_up σ.2.2.2.2.1 a 1, va_up σ.2.2.2.2.2.1 a (fun _ => 0), va_up σ.2.2.2.2.2.2.1 a (fun _ => 0), va_up σ.2.2.2.2.2.2.2.1 a (fun _ => none), σ.2.2.2.2.2.2.2.2.1, σ.2.2.2.2.2.2.2.2.2)
theorem yL_newO {g κ : Nat → Nat} {B n : Nat} {σ : kx_S} {o : Nat} (H : yL_ g κ (B + 1) n (xnewA σ o 21 1)) : yL_ (va_up g 10 o) κ B n (xnewO σ o) := by
  obtain ⟨LS, e, nd, m, b⟩ := H.2.2.2
  refine ⟨fun a h => ?_, H.2.1, H.2.2.1, LS, e, nd, m, ?_⟩
  · obtain ⟨d, h1⟩ := H.1 a h
    exact ⟨d, h1⟩
  · have b1 : 5 * (xc σ + 1) ≤ 5 * (B + 1) + (LS.map (ycap (xnewO σ o))).sum := b
    show 5 * xc σ ≤ _
    omega
theorem yZ_newO {s : sz_T} {L O : Nat} {σ : kx_S} {o : Nat} (Z : yZ_ 0 s L O σ) (hp : xt σ o = 0) (hz : o ≠ xz σ) : yZ_ 0 s L o (xnewO σ o) := by
  obtain ⟨g, κ, B, n, e, eO, J, hn, hB⟩ := Z
  obtain ⟨I1, I2, I3, I4, I5⟩ := yI_newA (m := 1) J hp hz (.inr rfl)
  have t21 : xt (xnewA σ o 21 1) o = 21 := va_up_self _ _ _
  have n1 : xn (xnewA σ o 21 1) o = 1 := va_up_self σ.2.2.2.2.1 o 1
  refine ⟨va_up g 10 o, κ, B, n, e, rfl, ⟨yL_newO I1, I2, ?_, I4, I5⟩, hn, hB⟩
  obtain ⟨a0, a1, a2, a3, a4, a5, a6, a7, a8, a9, -⟩ := I3
  exact ⟨a0, a1, a2, a3, a4, a5, a6, a7, a8, a9, t21, by show 1 ≤ xn (xnewA σ o 21 1) o; rw [n1]; exact Nat.le_refl 1⟩
theorem lz_adr (M : km_G) (μ : km_S) : (km_w M μ).map Prod.fst = ([0, 1, 14, 15, 16, 17, 18, 19, 20, 21, 22, 23, 24, 25, 26, 27, 28, 29, 30, 31, 32, 33, 34, 35, 36, 37, 38, 39, 40, 41, 42, 43, 44, 45, 46, 47, 48, 49, 50, 51, 52, 53, 54, 55, 56, 57, 58, 59, 70] : List Nat).map M.1 := rfl
theorem lz_kmA {M : km_G} {μ : km_S} {q : Nat} (h : km_A M q) : ∃ (k : Nat) (E : va_E), (km_w M μ)[k]? = some (q, E) := by
  have h1 : q ∈ (km_w M μ).map Prod.fst := by rw [lz_adr]; exact h
  obtain ⟨x, hx, rfl⟩ := List.mem_map.mp h1
  obtain ⟨k, hk⟩ := List.mem_iff_getElem?.mp hx
  exact ⟨k, x.2, hk⟩
theorem lz_Akm {M : km_G} {μ : km_S} {k : Nat} {x : Nat × va_E} (h : (km_w M μ)[k]? = some x) : km_A M x.1 := by
  show x.1 ∈ _
  rw [← lz_adr M μ]
  exact List.mem_map.mpr ⟨x, List.mem_of_getElem? h, rfl⟩
theorem lz_im : im_ mi_0 := im_new (μ := mi_0) (fun j hj => by simp only [List.mem_cons, List.not_mem_nil, or_false] at hj; rcases hj with rfl | rfl | rfl | rfl | rfl | rfl | rfl | rfl <;> rfl) (fun _ _ _ => rfl) (fun _ _ => .inl rfl)
theorem lz_sm : sm_ mi_0 = s0_ := rfl
theorem lz_pe {D : va_G} {ci cl co : ClassId} {A A' : Nat → Prop} {aK aV : Nat → Nat} {e0 mi : Nat} {σ : kx_S} (a : Nat) : kx_e (lz_G D ci cl co A aK aV e0 mi) σ a = kx_e (lz_G D ci cl co A' aK aV e0 mi) σ a := rfl

