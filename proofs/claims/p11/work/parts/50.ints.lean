section
/-! ints as numbers -/
theorem ki_lt {a b : Int32} : a < b ↔ a.toInt < b.toInt := Int32.lt_iff_toInt_lt
theorem ki_le {a b : Int32} : a ≤ b ↔ a.toInt ≤ b.toInt := Int32.le_iff_toInt_le
theorem ki_eq {a b : Int32} : a = b ↔ a.toInt = b.toInt := ⟨fun h => by rw [h], fun h => Int32.toInt_inj.1 h⟩
theorem ki_lo (a : Int32) : -2147483648 ≤ a.toInt := Int32.le_toInt a
theorem ki_hi (a : Int32) : a.toInt < 2147483648 := Int32.toInt_lt a
theorem ki_nat (a : Int32) : a.toNatClampNeg = a.toInt.toNat := rfl
theorem ki_add {a b : Int32} (h1 : -2147483648 ≤ a.toInt + b.toInt) (h2 : a.toInt + b.toInt < 2147483648) : (a + b).toInt = a.toInt + b.toInt := by
  rw [Int32.toInt_add]
  exact Int.bmod_eq_of_le (by omega) (by omega)
theorem ki_sub {a b : Int32} (h1 : -2147483648 ≤ a.toInt - b.toInt) (h2 : a.toInt - b.toInt < 2147483648) : (a - b).toInt = a.toInt - b.toInt := by
  rw [Int32.toInt_sub]
  exact Int.bmod_eq_of_le (by omega) (by omega)
theorem ki_mul {a b : Int32} (h1 : -2147483648 ≤ a.toInt * b.toInt) (h2 : a.toInt * b.toInt < 2147483648) : (a * b).toInt = a.toInt * b.toInt := by
  rw [Int32.toInt_mul]
  exact Int.bmod_eq_of_le (by omega) (by omega)
theorem ki_in {i : Int32} {n : Nat} : vp_in i n ↔ 0 ≤ i.toInt ∧ i.toInt < (n : Int) := by
  have h0 : (0 : Int32).toInt = 0 := by decide
  unfold vp_in
  rw [ki_lt, h0, ki_nat]
  omega
/-! the reference's state: what is read after what was written -/
theorem km_i_si (μ : km_S) (k j : Nat) (v : Int32) : km_i (km_si μ k v) j = if j = k then v else km_i μ j := by
  simp only [km_i, km_si, upd]
theorem km_a_si (μ : km_S) (k j i : Nat) (v : Int32) : km_a (km_si μ k v) j i = km_a μ j i := rfl
theorem km_l_si (μ : km_S) (k j : Nat) (v : Int32) : km_l (km_si μ k v) j = km_l μ j := rfl
theorem km_p_si (μ : km_S) (k j : Nat) (v : Int32) : km_p (km_si μ k v) j = km_p μ j := rfl
theorem km_i_sa (μ : km_S) (k i j : Nat) (v : Int32) : km_i (km_sa μ k i v) j = km_i μ j := rfl
theorem km_a_sa (μ : km_S) (k i j q : Nat) (v : Int32) : km_a (km_sa μ k i v) j q = if j = k then (if q = i then v else km_a μ k q) else km_a μ j q := by
  simp only [km_a, km_sa, upd]
  split <;> rfl
theorem km_l_sa (μ : km_S) (k i j : Nat) (v : Int32) : km_l (km_sa μ k i v) j = km_l μ j := rfl
theorem km_p_sa (μ : km_S) (k i j : Nat) (v : Int32) : km_p (km_sa μ k i v) j = km_p μ j := rfl
theorem km_i_sl (μ : km_S) (k j : Nat) (v : Int64) : km_i (km_sl μ k v) j = km_i μ j := rfl
theorem km_a_sl (μ : km_S) (k j i : Nat) (v : Int64) : km_a (km_sl μ k v) j i = km_a μ j i := rfl
theorem km_i_sp (μ : km_S) (k j : Nat) (v : Int64) : km_i (km_sp μ k v) j = km_i μ j := rfl
theorem km_a_sp (μ : km_S) (k j i : Nat) (v : Int64) : km_a (km_sp μ k v) j i = km_a μ j i := rfl
theorem km_l_sp (μ : km_S) (k j : Nat) (v : Int64) : km_l (km_sp μ k v) j = km_l μ j := rfl
end
section
/-! the reference: what always holds of its state -/
def im_n (μ : km_S) : Prop := (0 ≤ (km_i μ 3).toInt ∧ (km_i μ 3).toInt ≤ 10) ∧ (0 ≤ (km_i μ 4).toInt ∧ (km_i μ 4).toInt ≤ 400) ∧ (0 ≤ (km_i μ 5).toInt ∧ (km_i μ 5).toInt ≤ 6) ∧ (0 ≤ (km_i μ 7).toInt ∧ (km_i μ 7).toInt ≤ 6) ∧ (0 ≤ (km_i μ 8).toInt ∧ (km_i μ 8).toInt ≤ 60) ∧ (0 ≤ (km_i μ 9).toInt ∧ (km_i μ 9).toInt ≤ 500)
def im_r (μ : km_S) : Prop := ∀ r : Nat, r < 10 → (-1 ≤ (km_a μ 13 r).toInt ∧ (km_a μ 13 r).toInt ≤ 9) ∧ (0 ≤ (km_a μ 14 r).toInt ∧ (km_a μ 14 r).toInt ≤ 12) ∧ (0 ≤ (km_a μ 15 r).toInt ∧ (km_a μ 15 r).toInt ≤ 20) ∧ (km_a μ 28 r).toInt ≤ 100 ∧ (km_a μ 23 r = 0 ∨ km_a μ 23 r = 1)
/-- cells: who lies there is afloat there, and lies there once -/
def im_c (μ : km_S) : Prop := ∀ k : Nat, k < 120 → (0 ≤ (km_a μ 31 k).toInt ∧ (km_a μ 31 k).toInt ≤ 20) ∧ ∀ i : Nat, (i : Int) < (km_a μ 31 k).toInt →
  (0 ≤ (km_a μ 32 (20 * k + i)).toInt ∧ (km_a μ 32 (20 * k + i)).toInt < 400) ∧ km_a μ 38 (km_a μ 32 (20 * k + i)).toNatClampNeg = 1 ∧ 12 * (km_a μ 39 (km_a μ 32 (20 * k + i)).toNatClampNeg).toInt + (km_a μ 40 (km_a μ 32 (20 * k + i)).toNatClampNeg).toInt = (k : Int) ∧
  ∀ j : Nat, (j : Int) < (km_a μ 31 k).toInt → km_a μ 32 (20 * k + j) = km_a μ 32 (20 * k + i) → j = i
/-- heaps: who lies there is heaped there, and lies there once -/
def im_h (μ : km_S) : Prop := ∀ r : Nat, r < 10 → (0 ≤ (km_a μ 29 r).toInt ∧ (km_a μ 29 r).toInt ≤ 100) ∧ ∀ i : Nat, (i : Int) < (km_a μ 29 r).toInt →
  (0 ≤ (km_a μ 30 (100 * r + i)).toInt ∧ (km_a μ 30 (100 * r + i)).toInt < 400) ∧ km_a μ 38 (km_a μ 30 (100 * r + i)).toNatClampNeg = 2 ∧ (km_a μ 39 (km_a μ 30 (100 * r + i)).toNatClampNeg).toInt = (r : Int) ∧
  ∀ j : Nat, (j : Int) < (km_a μ 29 r).toInt → km_a μ 30 (100 * r + j) = km_a μ 30 (100 * r + i) → j = i
/-- logs -/
def im_g (μ : km_S) : Prop := ∀ g : Nat, g < 400 → (0 ≤ (km_a μ 35 g).toInt ∧ (km_a μ 35 g).toInt ≤ 15) ∧ (0 ≤ (km_a μ 36 g).toInt ∧ (km_a μ 36 g).toInt ≤ 9) ∧ (km_a μ 38 g = 1 → (0 ≤ (km_a μ 39 g).toInt ∧ (km_a μ 39 g).toInt < 10) ∧ (0 ≤ (km_a μ 40 g).toInt ∧ (km_a μ 40 g).toInt < 12)) ∧ ((km_i μ 4).toInt ≤ (g : Int) → km_a μ 38 g = 0)
/-- how many of the first n logs are not sawn -/
def im_un (f : Nat → Int32) : Nat → Nat
  | 0 => 0
  | n + 1 => im_un f n + (if f n = 3 then 0 else 1)
def im_s (μ : km_S) : Prop := 0 ≤ (km_i μ 6).toInt ∧ (km_i μ 6).toInt + 9 * (im_un (km_a μ 38) 400 : Int) ≤ 3600
def im_w (μ : km_S) : Prop := ∀ k : Nat, k < 6 → 0 ≤ (km_a μ 44 k).toInt ∧ (km_a μ 44 k).toInt < 10
/-- a law's row of codes: from place k on, with d on the stack, up to e: it never asks for what isn't there, and ends with one -/
def im_run (f : Nat → Int32) : Nat → Nat → Nat → Nat → Prop
  | 0, _, _, _ => False
  | n + 1, k, e, d => if e ≤ k then k = e ∧ d = 1 else if f k = 0 then k + 1 < e ∧ d < 190 ∧ im_run f n (k + 2) e (d + 1) else if 20 ≤ f k then f k < 27 ∧ d < 190 ∧ im_run f n (k + 1) e (d + 1) else if f k = 9 then 1 ≤ d ∧ im_run f n (k + 1) e d else 2 ≤ d ∧ im_run f n (k + 1) e (d - 1)
def im_l (μ : km_S) : Prop := ∀ l : Nat, (l : Int) < (km_i μ 5).toInt → (0 ≤ (km_a μ 54 l).toInt ∧ (km_a μ 54 l).toInt ≤ 12) ∧ ∀ k : Nat, (k : Int) < (km_a μ 54 l).toInt →
  0 ≤ (km_a μ 55 (13 * l + k)).toInt ∧ (km_a μ 55 (13 * l + k + 1)).toInt ≤ 900 ∧ im_run (fun i => km_a μ 56 (900 * l + i)) 901 (km_a μ 55 (13 * l + k)).toNatClampNeg (km_a μ 55 (13 * l + k + 1)).toNatClampNeg 0
def im_ (μ : km_S) : Prop := im_n μ ∧ im_r μ ∧ im_c μ ∧ im_h μ ∧ im_g μ ∧ im_s μ ∧ im_w μ ∧ im_l μ
/-! what calls show that need no walk of logs: reaches, logs, crews, orders, taped, hour; by reach: dam, gate, melt, watch, boom -/
abbrev sz_T : Type := (Int32 × Int32 × Int32 × Int32 × Int32 × Int32) × (Nat → Int32) × (Nat → Int32) × (Nat → Int32) × (Nat → Int32) × (Nat → Int32)
def sm_ (μ : km_S) : sz_T := ((km_i μ 3, km_i μ 4, km_i μ 7, km_i μ 8, km_i μ 9, km_i μ 2), km_a μ 21, km_a μ 26, km_a μ 17, km_a μ 23, km_a μ 22)
/-- the code, scratch ints and scratch arrays are nothing to it -/
theorem im_code {μ : km_S} (v : Int32) (h : im_ μ) : im_ (km_si μ 1 v) := h
theorem sm_code {μ : km_S} (v : Int32) : sm_ (km_si μ 1 v) = sm_ μ := rfl
theorem im_un_eq {f g : Nat → Int32} (n : Nat) (h : ∀ k, k < n → (g k = 3 ↔ f k = 3)) : im_un g n = im_un f n := by
  induction n with
  | zero => unfold im_un; rfl
  | succ n ih =>
    unfold im_un
    rw [ih (fun k hk => h k (by omega))]
    have := h n (by omega)
    by_cases c : f n = 3
    · rw [if_pos c, if_pos (this.2 c)]
    · rw [if_neg c, if_neg (fun hh => c (this.1 hh))]
theorem rz_isReach {r : Int32} {μ : km_S} {Q : Int32 → km_S → Prop} (h0 : ¬ (0 ≤ r.toInt ∧ r.toInt < (km_i μ 3).toInt) → Q 0 μ) (h1 : 0 ≤ r.toInt → r.toInt < (km_i μ 3).toInt → Q 1 μ) : wX12_isReach r μ Q := by
  have z : (0 : Int32).toInt = 0 := by decide
  refine ⟨fun c => h0 ?_, fun c => ⟨fun d => h0 ?_, fun d => h1 ?_ ?_⟩⟩
  all_goals (simp only [ki_lt, ki_le, z] at *; omega)
end
section
/-! the reference's plain calls: what they answer, what they leave -/
abbrev pz_ (z : Int32 × Int32 × sz_T) : Int32 → km_S → Prop := fun r μ => im_ μ ∧ (km_i μ 1, r, sm_ μ) = z
abbrev z_is (r : Int32) (σ : sz_T) : Prop := 0 ≤ r.toInt ∧ r.toInt < σ.1.1.toInt
def z_dam (r v : Int32) (σ : sz_T) : Int32 × Int32 × sz_T := if z_is r σ then (if v < 0 ∨ ¬ v ≤ 100000 then (0, 0, σ) else (0, 1, (σ.1, upd σ.2.1 r.toNatClampNeg 1, σ.2.2))) else (1, 0, σ)
def z_gate (r v : Int32) (σ : sz_T) : Int32 × Int32 × sz_T := if z_is r σ then (if σ.2.1 r.toNatClampNeg = 0 ∨ v < 0 ∨ ¬ v ≤ 1000 then (0, -1, σ) else (0, σ.2.2.1 r.toNatClampNeg, (σ.1, σ.2.1, upd σ.2.2.1 r.toNatClampNeg v, σ.2.2.2))) else (1, 0, σ)
def z_melt (r v : Int32) (σ : sz_T) : Int32 × Int32 × sz_T := if z_is r σ then (if v < 0 ∨ ¬ v ≤ 500 then (0, -1, σ) else (0, σ.2.2.2.1 r.toNatClampNeg, (σ.1, σ.2.1, σ.2.2.1, upd σ.2.2.2.1 r.toNatClampNeg v, σ.2.2.2.2))) else (1, 0, σ)
def z_boom (r v : Int32) (σ : sz_T) : Int32 × Int32 × sz_T := if z_is r σ then (if v < 1 ∨ ¬ v ≤ 100 then (0, 0, σ) else (0, 1, (σ.1, σ.2.1, σ.2.2.1, σ.2.2.2.1, σ.2.2.2.2.1, upd σ.2.2.2.2.2 r.toNatClampNeg 1))) else (1, 0, σ)
def z_watch (r v : Int32) (σ : sz_T) : Int32 × Int32 × sz_T := if z_is r σ then (0, σ.2.2.2.2.1 r.toNatClampNeg, (σ.1, σ.2.1, σ.2.2.1, σ.2.2.2.1, upd σ.2.2.2.2.1 r.toNatClampNeg v, σ.2.2.2.2.2)) else (1, 0, σ)
theorem im_in {r : Int32} {μ : km_S} (I : im_ μ) (a : 0 ≤ r.toInt) (b : r.toInt < (km_i μ 3).toInt) : vp_in r 10 := by
  have := I.1.1
  rw [ki_in]; omega
theorem rz_dam {r v : Int32} {μ : km_S} (I : im_ μ) : wX12_dam r v μ (pz_ (z_dam r v (sm_ μ))) := by
  intro μ1 e1
  have I1 : im_ μ1 := by rw [e1]; exact im_code 0 I
  have s1 : sm_ μ1 = sm_ μ := by rw [e1]; rfl
  have k1 : km_i μ1 1 = 0 := by rw [e1]; rfl
  refine rz_isReach (fun c => ⟨fun n => absurd rfl n, fun _ => ?_⟩) (fun a b => ⟨fun _ => ?_, fun n => absurd n (by decide)⟩)
  · intro μ2 e2
    subst e2
    refine ⟨im_code 1 I1, ?_⟩
    rw [← s1]
    unfold z_dam
    rw [if_neg (show ¬ z_is r (sm_ μ1) from c)]
    rfl
  · have hin := im_in I1 a b
    have hz : z_is r (sm_ μ1) := ⟨a, b⟩
    rw [← s1]
    unfold z_dam
    rw [if_pos hz]
    refine ⟨fun c => ⟨I1, ?_⟩, fun c => ⟨fun d => ⟨hin, fun μ3 e3 => ⟨hin, fun μ4 e4 => ?_⟩⟩, fun d => ⟨I1, ?_⟩⟩⟩
    · rw [if_pos (.inl c), k1]
    · subst e4; subst e3
      refine ⟨I1, ?_⟩
      rw [if_neg (fun h => h.elim c (fun h => h d))]
      exact Prod.ext k1 rfl
    · rw [if_pos (.inr d), k1]
theorem rz_gate {r v : Int32} {μ : km_S} (I : im_ μ) : wX12_gate r v μ (pz_ (z_gate r v (sm_ μ))) := by
  intro μ1 e1
  have I1 : im_ μ1 := by rw [e1]; exact im_code 0 I
  have s1 : sm_ μ1 = sm_ μ := by rw [e1]; rfl
  have k1 : km_i μ1 1 = 0 := by rw [e1]; rfl
  refine rz_isReach (fun c => ⟨fun n => absurd rfl n, fun _ => ?_⟩) (fun a b => ⟨fun _ => ?_, fun n => absurd n (by decide)⟩)
  · intro μ2 e2
    subst e2
    refine ⟨im_code 1 I1, ?_⟩
    rw [← s1]
    unfold z_gate
    rw [if_neg (show ¬ z_is r (sm_ μ1) from c)]
    rfl
  · have hin := im_in I1 a b
    have hz : z_is r (sm_ μ1) := ⟨a, b⟩
    rw [← s1]
    unfold z_gate
    rw [if_pos hz]
    refine ⟨hin, fun q => ⟨I1, ?_⟩, fun q => ⟨fun c => ⟨I1, ?_⟩, fun c => ⟨fun d => ⟨hin, fun v3 e3 => ⟨hin, fun μ4 e4 => ?_⟩⟩, fun d => ⟨I1, ?_⟩⟩⟩⟩
    · rw [if_pos (.inl q), k1]
    · rw [if_pos (.inr (.inl c)), k1]
    · subst e4; subst e3
      refine ⟨I1, ?_⟩
      rw [if_neg (fun h => h.elim q (fun h => h.elim c (fun h => h d)))]
      exact Prod.ext k1 rfl
    · rw [if_pos (.inr (.inr d)), k1]
theorem rz_melt {r v : Int32} {μ : km_S} (I : im_ μ) : wX12_melt r v μ (pz_ (z_melt r v (sm_ μ))) := by
  intro μ1 e1
  have I1 : im_ μ1 := by rw [e1]; exact im_code 0 I
  have s1 : sm_ μ1 = sm_ μ := by rw [e1]; rfl
  have k1 : km_i μ1 1 = 0 := by rw [e1]; rfl
  refine rz_isReach (fun c => ⟨fun n => absurd rfl n, fun _ => ?_⟩) (fun a b => ⟨fun _ => ?_, fun n => absurd n (by decide)⟩)
  · intro μ2 e2
    subst e2
    refine ⟨im_code 1 I1, ?_⟩
    rw [← s1]
    unfold z_melt
    rw [if_neg (show ¬ z_is r (sm_ μ1) from c)]
    rfl
  · have hin := im_in I1 a b
    have hz : z_is r (sm_ μ1) := ⟨a, b⟩
    rw [← s1]
    unfold z_melt
    rw [if_pos hz]
    refine ⟨fun c => ⟨I1, ?_⟩, fun c => ⟨fun d => ⟨hin, fun v3 e3 => ⟨hin, fun μ4 e4 => ?_⟩⟩, fun d => ⟨I1, ?_⟩⟩⟩
    · rw [if_pos (.inl c), k1]
    · subst e4; subst e3
      refine ⟨I1, ?_⟩
      rw [if_neg (fun h => h.elim c (fun h => h d))]
      exact Prod.ext k1 rfl
    · rw [if_pos (.inr d), k1]
theorem rz_boom {r w v : Int32} {μ : km_S} (I : im_ μ) : wX12_boom r w v μ (pz_ (z_boom r v (sm_ μ))) := by
  intro μ1 e1
  have I1 : im_ μ1 := by rw [e1]; exact im_code 0 I
  have s1 : sm_ μ1 = sm_ μ := by rw [e1]; rfl
  have k1 : km_i μ1 1 = 0 := by rw [e1]; rfl
  refine rz_isReach (fun c => ⟨fun n => absurd rfl n, fun _ => ?_⟩) (fun a b => ⟨fun _ => ?_, fun n => absurd n (by decide)⟩)
  · intro μ2 e2
    subst e2
    refine ⟨im_code 1 I1, ?_⟩
    rw [← s1]
    unfold z_boom
    rw [if_neg (show ¬ z_is r (sm_ μ1) from c)]
    rfl
  · have hin := im_in I1 a b
    have hz : z_is r (sm_ μ1) := ⟨a, b⟩
    rw [← s1]
    unfold z_boom
    rw [if_pos hz]
    refine ⟨fun c => ⟨I1, ?_⟩, fun c => ⟨fun d => ⟨hin, fun μ3 e3 => ⟨hin, fun μ4 e4 => ⟨hin, fun μ5 e5 => ?_⟩⟩⟩, fun d => ⟨I1, ?_⟩⟩⟩
    · rw [if_pos (.inl c), k1]
    · subst e5; subst e4; subst e3
      obtain ⟨n1, n2, n3, n4, n5, n6, n7, n8⟩ := I1
      refine ⟨⟨n1, fun q hq => ?_, n3, n4, n5, n6, n7, n8⟩, ?_⟩
      · have h := n2 q hq
        refine ⟨h.1, h.2.1, h.2.2.1, ?_, h.2.2.2.2⟩
        show (upd (km_a μ1 28) r.toNatClampNeg v q).toInt ≤ 100
        unfold upd
        split
        · rw [ki_le] at d; exact d
        · exact h.2.2.2.1
      · rw [if_neg (fun h => h.elim c (fun h => h d))]
        exact Prod.ext k1 rfl
    · rw [if_pos (.inr d), k1]
theorem rz_watch {r v : Int32} {μ : km_S} (hv : v = 0 ∨ v = 1) (I : im_ μ) : wX12_watch r v μ (pz_ (z_watch r v (sm_ μ))) := by
  intro μ1 e1
  have I1 : im_ μ1 := by rw [e1]; exact im_code 0 I
  have s1 : sm_ μ1 = sm_ μ := by rw [e1]; rfl
  have k1 : km_i μ1 1 = 0 := by rw [e1]; rfl
  refine rz_isReach (fun c => ⟨fun n => absurd rfl n, fun _ => ?_⟩) (fun a b => ⟨fun _ => ?_, fun n => absurd n (by decide)⟩)
  · intro μ2 e2
    subst e2
    refine ⟨im_code 1 I1, ?_⟩
    rw [← s1]
    unfold z_watch
    rw [if_neg (show ¬ z_is r (sm_ μ1) from c)]
    rfl
  · have hin := im_in I1 a b
    have hz : z_is r (sm_ μ1) := ⟨a, b⟩
    rw [← s1]
    unfold z_watch
    rw [if_pos hz]
    have hn : vp_nar .boolean v = v := by rcases hv with h | h <;> rw [h] <;> rfl
    refine ⟨hin, fun v3 e3 => ⟨hin, fun μ4 e4 => ⟨?_, ?_⟩⟩⟩
    · have h := (I1.2.1 r.toNatClampNeg (by have := ki_in.1 hin; rw [ki_nat]; omega)).2.2.2.2
      subst e3
      rcases h with h | h <;> rw [h] <;> rfl
    · subst e4; subst e3
      rw [hn]
      obtain ⟨n1, n2, n3, n4, n5, n6, n7, n8⟩ := I1
      refine ⟨⟨n1, fun q hq => ?_, n3, n4, n5, n6, n7, n8⟩, Prod.ext k1 rfl⟩
      have h := n2 q hq
      refine ⟨h.1, h.2.1, h.2.2.1, h.2.2.2.1, ?_⟩
      show upd (km_a μ1 23) r.toNatClampNeg v q = 0 ∨ upd (km_a μ1 23) r.toNatClampNeg v q = 1
      unfold upd
      split
      · exact hv
      · exact h.2.2.2.2
end
section
theorem ku_self {f : Nat → Int32} {k : Nat} {v : Int32} : upd f k v k = v := by simp [upd]
theorem ku_ne {f : Nat → Int32} {k j : Nat} {v : Int32} (h : j ≠ k) : upd f k v j = f j := by simp [upd, h]
theorem ku_same {f : Nat → Int32} {k : Nat} {v : Int32} (h : f k = v) : upd f k v = f := by
  funext j
  by_cases e : j = k
  · rw [e, ku_self, h]
  · rw [ku_ne e]
theorem ku_r {f : Nat → Int32} {k j : Nat} {v : Int32} {P : Int32 → Prop} (h : P v) (h2 : P (f j)) : P (upd f k v j) := by
  by_cases e : j = k
  · rw [e, ku_self]; exact h
  · rw [ku_ne e]; exact h2
def z_cut (m s t : Int32) (σ : sz_T) : Int32 × Int32 × sz_T := if σ.1.2.1 = 400 ∨ m < 0 ∨ 15 < m ∨ s < 1 ∨ 9 < s ∨ t < 0 ∨ ¬ t ≤ 1000000 then (0, -1, σ) else (0, σ.1.2.1, ((σ.1.1, σ.1.2.1 + 1, σ.1.2.2), σ.2))
theorem ki_pm (a : Int32) : a + 1 - 1 = a := Int32.add_sub_cancel a 1
theorem rz_cut {m s t : Int32} {μ : km_S} (I : im_ μ) : wX12_cut m s t μ (pz_ (z_cut m s t (sm_ μ))) := by
  intro μ1 e1
  have I1 : im_ μ1 := by rw [e1]; exact im_code 0 I
  have s1 : sm_ μ1 = sm_ μ := by rw [e1]; rfl
  have k1 : km_i μ1 1 = 0 := by rw [e1]; rfl
  rw [← s1]
  have no : (km_i μ1 4 = 400 ∨ m < 0 ∨ 15 < m ∨ s < 1 ∨ 9 < s ∨ t < 0 ∨ ¬ t ≤ 1000000) → pz_ (z_cut m s t (sm_ μ1)) (-1) μ1 := by
    intro h
    refine ⟨I1, ?_⟩
    unfold z_cut
    rw [if_pos (show (sm_ μ1).1.2.1 = 400 ∨ _ from h), k1]
  refine ⟨fun c => no (.inl c), fun c1 => ⟨fun c => no (.inr (.inl c)), fun c2 => ⟨fun c => no (.inr (.inr (.inl c))), fun c3 => ⟨fun c => no (.inr (.inr (.inr (.inl c)))), fun c4 => ⟨fun c => no (.inr (.inr (.inr (.inr (.inl c))))), fun c5 => ⟨fun c => no (.inr (.inr (.inr (.inr (.inr (.inl c)))))), fun c6 => ⟨fun c7 => ?_, fun c => no (.inr (.inr (.inr (.inr (.inr (.inr c))))))⟩⟩⟩⟩⟩⟩⟩
  obtain ⟨n1, n2, n3, n4, n5, n6, n7, n8⟩ := I1
  have z0 : (0 : Int32).toInt = 0 := by decide
  have z1 : (1 : Int32).toInt = 1 := by decide
  have z15 : (15 : Int32).toInt = 15 := by decide
  have z9 : (9 : Int32).toInt = 9 := by decide
  have z400 : (400 : Int32).toInt = 400 := by decide
  have b := n1.2.1
  have c1' : (km_i μ1 4).toInt ≠ 400 := fun h => c1 (ki_eq.2 (h.trans z400.symm))
  have hin : vp_in (km_i μ1 4) 400 := by rw [ki_in]; omega
  refine ⟨hin, fun μ2 e2 => ?_⟩
  subst e2
  refine ⟨hin, fun μ3 e3 => ?_⟩
  subst e3
  refine ⟨hin, fun μ4 e4 => ?_⟩
  subst e4
  refine ⟨hin, fun μ5 e5 => ?_⟩
  subst e5
  refine ⟨hin, fun μ6 e6 => ?_⟩
  subst e6
  refine ⟨hin, fun μ7 e7 => ?_⟩
  subst e7
  refine ⟨hin, fun μ8 e8 => ?_⟩
  subst e8
  intro μ9 e9
  subst e9
  obtain ⟨L, eL⟩ : ∃ L, L = (km_i μ1 4).toNatClampNeg := ⟨_, rfl⟩
  have hL : (L : Int) = (km_i μ1 4).toInt := by rw [eL, ki_nat]; omega
  have hL4 : L < 400 := by omega
  have p0 : km_a μ1 38 L = 0 := (n5 L hL4).2.2.2 (by omega)
  have hp : upd (km_a μ1 38) L 0 = km_a μ1 38 := ku_same p0
  have hadd : (km_i μ1 4 + 1).toInt = (km_i μ1 4).toInt + 1 := by
    have := ki_add (a := km_i μ1 4) (b := 1) (by rw [z1]; omega) (by rw [z1]; omega)
    rw [this, z1]
  refine ⟨⟨?_, n2, ?_, ?_, ?_, ?_, n7, n8⟩, ?_⟩
  · refine ⟨n1.1, ?_, n1.2.2⟩
    show 0 ≤ (km_i μ1 4 + 1).toInt ∧ (km_i μ1 4 + 1).toInt ≤ 400
    rw [hadd]; omega
  · intro k hk
    refine ⟨(n3 k hk).1, fun i hi => ?_⟩
    have h := (n3 k hk).2 i hi
    have hne : (km_a μ1 32 (20 * k + i)).toNatClampNeg ≠ L := by
      intro e
      have := h.2.1
      rw [e, p0] at this
      exact absurd this (by decide)
    refine ⟨h.1, ?_, ?_, h.2.2.2⟩
    · show upd (km_a μ1 38) (km_i μ1 4).toNatClampNeg 0 (km_a μ1 32 (20 * k + i)).toNatClampNeg = 1
      rw [← eL, hp]; exact h.2.1
    · show 12 * (upd (km_a μ1 39) (km_i μ1 4).toNatClampNeg (-1) (km_a μ1 32 (20 * k + i)).toNatClampNeg).toInt + (upd (km_a μ1 40) (km_i μ1 4).toNatClampNeg (-1) (km_a μ1 32 (20 * k + i)).toNatClampNeg).toInt = (k : Int)
      rw [← eL, ku_ne hne, ku_ne hne]; exact h.2.2.1
  · intro k hk
    refine ⟨(n4 k hk).1, fun i hi => ?_⟩
    have h := (n4 k hk).2 i hi
    have hne : (km_a μ1 30 (100 * k + i)).toNatClampNeg ≠ L := by
      intro e
      have := h.2.1
      rw [e, p0] at this
      exact absurd this (by decide)
    refine ⟨h.1, ?_, ?_, h.2.2.2⟩
    · show upd (km_a μ1 38) (km_i μ1 4).toNatClampNeg 0 (km_a μ1 30 (100 * k + i)).toNatClampNeg = 2
      rw [← eL, hp]; exact h.2.1
    · show (upd (km_a μ1 39) (km_i μ1 4).toNatClampNeg (-1) (km_a μ1 30 (100 * k + i)).toNatClampNeg).toInt = (k : Int)
      rw [← eL, ku_ne hne]; exact h.2.2.1
  · intro g hg
    have h := n5 g hg
    refine ⟨?_, ?_, ?_, ?_⟩
    · refine ku_r (P := fun x => 0 ≤ x.toInt ∧ x.toInt ≤ 15) ?_ h.1
      simp only [ki_lt, z0, z15] at c2 c3; omega
    · refine ku_r (P := fun x => 0 ≤ x.toInt ∧ x.toInt ≤ 9) ?_ h.2.1
      simp only [ki_lt, z1, z9] at c4 c5; omega
    · show upd (km_a μ1 38) (km_i μ1 4).toNatClampNeg 0 g = 1 → (0 ≤ (upd (km_a μ1 39) (km_i μ1 4).toNatClampNeg (-1) g).toInt ∧ (upd (km_a μ1 39) (km_i μ1 4).toNatClampNeg (-1) g).toInt < 10) ∧ (0 ≤ (upd (km_a μ1 40) (km_i μ1 4).toNatClampNeg (-1) g).toInt ∧ (upd (km_a μ1 40) (km_i μ1 4).toNatClampNeg (-1) g).toInt < 12)
      rw [← eL, hp]
      intro hg1
      have hne : g ≠ L := by
        intro e
        rw [e, p0] at hg1
        exact absurd hg1 (by decide)
      rw [ku_ne hne, ku_ne hne]
      exact h.2.2.1 hg1
    · show (km_i μ1 4 + 1).toInt ≤ (g : Int) → upd (km_a μ1 38) (km_i μ1 4).toNatClampNeg 0 g = 0
      rw [← eL, hp, hadd]
      intro q
      exact h.2.2.2 (by omega)
  · show 0 ≤ (km_i μ1 6).toInt ∧ (km_i μ1 6).toInt + 9 * (im_un (upd (km_a μ1 38) (km_i μ1 4).toNatClampNeg 0) 400 : Int) ≤ 3600
    rw [← eL, hp]; exact n6
  · unfold z_cut
    rw [if_neg (show ¬ ((sm_ μ1).1.2.1 = 400 ∨ _) from fun h => h.elim c1 (fun h => h.elim c2 (fun h => h.elim c3 (fun h => h.elim c4 (fun h => h.elim c5 (fun h => h.elim c6 (fun h => h c7)))))))]
    exact Prod.ext k1 (Prod.ext (ki_pm _) rfl)
end
section
/-! the reference's asks: they leave all as it is -/
abbrev pu_ (σ : sz_T) : Int32 → km_S → Prop := fun _ μ => im_ μ ∧ sm_ μ = σ
abbrev pl_ (σ : sz_T) : Int64 → km_S → Prop := fun _ μ => im_ μ ∧ sm_ μ = σ
theorem rz_fail {μ : km_S} {σ : sz_T} (h : im_ μ ∧ sm_ μ = σ) : wX12_fail μ (pu_ σ) := by
  intro μ1 e; subst e; exact h
theorem rz_isLog {r : Int32} {μ : km_S} {Q : Int32 → km_S → Prop} (h0 : ¬ (0 ≤ r.toInt ∧ r.toInt < (km_i μ 4).toInt) → Q 0 μ) (h1 : 0 ≤ r.toInt → r.toInt < (km_i μ 4).toInt → Q 1 μ) : wX12_isLog r μ Q := by
  have z : (0 : Int32).toInt = 0 := by decide
  refine ⟨fun c => h0 ?_, fun c => ⟨fun d => h0 ?_, fun d => h1 ?_ ?_⟩⟩
  all_goals (simp only [ki_lt, ki_le, z] at *; omega)
/-- a cell that is there: its number is one of 120 -/
theorem rz_isCell {r c : Int32} {μ : km_S} {Q : Int32 → km_S → Prop} (I : im_ μ) (h0 : Q 0 μ) (h1 : 0 ≤ r.toInt → r.toInt < (km_i μ 3).toInt → 0 ≤ c.toInt → c.toInt < 12 → Q 1 μ) : wX12_isCell r c μ Q := by
  have z : (0 : Int32).toInt = 0 := by decide
  refine rz_isReach (fun _ => ⟨fun _ => h0, fun n => absurd rfl n⟩) (fun a b => ⟨fun n => absurd n (by decide), fun _ => ⟨fun _ => h0, fun d => ⟨im_in I a b, fun _ => h0, fun e => h1 a b ?_ ?_⟩⟩⟩)
  · rw [ki_lt, z] at d; omega
  · have := (I.2.1 r.toNatClampNeg (by have := I.1.1; rw [ki_nat]; omega)).2.1
    rw [ki_le] at e; omega
theorem im_at {r c : Int32} (a : 0 ≤ r.toInt) (b : r.toInt < 10) (d : 0 ≤ c.toInt) (e : c.toInt < 12) : (12 * r + c).toInt = 12 * r.toInt + c.toInt := by
  have z : (12 : Int32).toInt = 12 := by decide
  have h : (12 * r).toInt = 12 * r.toInt := by rw [ki_mul (by rw [z]; omega) (by rw [z]; omega), z]
  rw [ki_add (by rw [h]; omega) (by rw [h]; omega), h]
theorem rz_fault {μ : km_S} (I : im_ μ) : wX12_fault μ (pu_ (sm_ μ)) := by
  intro μ1 e; subst e; exact ⟨im_code 0 I, rfl⟩
theorem rz_wants {o : Int32} {μ : km_S} (I : im_ μ) : wX12_wants o μ (pu_ (sm_ μ)) := by
  intro μ1 e; subst e
  have H : im_ (km_si μ 1 0) ∧ sm_ (km_si μ 1 0) = sm_ μ := ⟨im_code 0 I, rfl⟩
  have z : (0 : Int32).toInt = 0 := by decide
  refine ⟨fun _ => rz_fail H, fun c => ⟨fun d => ⟨?_, H⟩, fun _ => rz_fail H⟩⟩
  have := H.1.1.2.2.2.2.1
  rw [ki_lt] at c d; rw [z] at c; rw [ki_in]; omega
theorem rz_board {o : Int32} {μ : km_S} (I : im_ μ) : wX12_board o μ (pu_ (sm_ μ)) := by
  intro μ1 e; subst e
  have H : im_ (km_si μ 1 0) ∧ sm_ (km_si μ 1 0) = sm_ μ := ⟨im_code 0 I, rfl⟩
  have z : (0 : Int32).toInt = 0 := by decide
  refine ⟨fun _ => rz_fail H, fun c => ⟨fun d => ⟨?_, H⟩, fun _ => rz_fail H⟩⟩
  have := H.1.2.2.2.2.2.1.2
  rw [ki_lt] at c d; rw [z] at c; rw [ki_in]; omega
theorem rz_paid {o : Int32} {μ : km_S} (I : im_ μ) : wX12_paid o μ (pl_ (sm_ μ)) := by
  intro μ1 e; subst e
  have H : im_ (km_si μ 1 0) ∧ sm_ (km_si μ 1 0) = sm_ μ := ⟨im_code 0 I, rfl⟩
  have z : (0 : Int32).toInt = 0 := by decide
  have z15 : (15 : Int32).toInt = 15 := by decide
  have F : wX12_paid_15 (pl_ (sm_ μ)) (km_si μ 1 0) := by intro μ2 e2; subst e2; exact H
  refine ⟨fun _ => F, fun c => ⟨fun d => ⟨?_, H⟩, fun _ => F⟩⟩
  rw [ki_lt] at c; rw [ki_le, z15] at d; rw [z] at c; rw [ki_in]; omega
theorem rz_waters {o : Int32} {μ : km_S} (I : im_ μ) : wX12_waters o μ (pl_ (sm_ μ)) := by
  intro μ1 e; subst e
  have H : im_ (km_si μ 1 0) ∧ sm_ (km_si μ 1 0) = sm_ μ := ⟨im_code 0 I, rfl⟩
  exact ⟨fun _ => ⟨fun _ => by intro μ2 e2; subst e2; exact H, fun _ => H⟩, fun _ => H⟩
theorem rz_log {g w : Int32} {μ : km_S} (I : im_ μ) : wX12_log g w μ (pu_ (sm_ μ)) := by
  intro μ1 e; subst e
  have H : im_ (km_si μ 1 0) ∧ sm_ (km_si μ 1 0) = sm_ μ := ⟨im_code 0 I, rfl⟩
  refine rz_isLog (fun _ => ⟨fun n => absurd rfl n, fun _ => rz_fail H⟩) (fun a b => ⟨fun _ => ?_, fun n => absurd n (by decide)⟩)
  have hin : vp_in g 400 := by have := H.1.1.2.1; rw [ki_in]; omega
  exact fun v _ => ⟨fun _ => ⟨hin, H⟩, fun _ => ⟨hin, H⟩, fun _ => ⟨hin, H⟩, fun _ => ⟨hin, H⟩, fun _ => ⟨hin, H⟩, fun _ => ⟨hin, H⟩, fun _ => ⟨hin, H⟩, fun _ => ⟨hin, H⟩, fun _ _ _ _ _ _ _ _ => rz_fail H⟩
theorem rz_water {r w : Int32} {μ : km_S} (I : im_ μ) : wX12_water r w μ (pu_ (sm_ μ)) := by
  intro μ1 e; subst e
  have H : im_ (km_si μ 1 0) ∧ sm_ (km_si μ 1 0) = sm_ μ := ⟨im_code 0 I, rfl⟩
  refine rz_isReach (fun _ => ⟨fun n => absurd rfl n, fun _ => rz_fail H⟩) (fun a b => ⟨fun _ => ?_, fun n => absurd n (by decide)⟩)
  have hin := im_in H.1 a b
  exact fun v _ => ⟨fun _ => ⟨hin, H⟩, fun _ => ⟨hin, H⟩, fun _ => ⟨hin, fun _ => H, fun _ => ⟨hin, H⟩⟩, fun _ => ⟨hin, H⟩, fun _ => ⟨hin, H⟩, fun _ _ _ _ _ => rz_fail H⟩
theorem rz_heap {r i : Int32} {μ : km_S} (I : im_ μ) : wX12_heap r i μ (pu_ (sm_ μ)) := by
  intro μ1 e; subst e
  have H : im_ (km_si μ 1 0) ∧ sm_ (km_si μ 1 0) = sm_ μ := ⟨im_code 0 I, rfl⟩
  have z : (0 : Int32).toInt = 0 := by decide
  have z100 : (100 : Int32).toInt = 100 := by decide
  refine rz_isReach (fun _ => ⟨fun n => absurd rfl n, fun _ => rz_fail H⟩) (fun a b => ⟨fun _ => ?_, fun n => absurd n (by decide)⟩)
  have hin := im_in H.1 a b
  refine ⟨hin, fun _ => ⟨fun _ => ⟨fun _ => H, fun c => ⟨hin, fun d => ⟨?_, H⟩, fun _ => H⟩⟩, fun _ => ⟨hin, H⟩⟩, fun _ => H⟩
  have h10 := ki_in.1 hin
  have h1 := (H.1.2.2.2.1 r.toNatClampNeg (by rw [ki_nat]; omega)).1
  rw [ki_lt] at c d
  rw [z] at c
  have m : (100 * r).toInt = 100 * r.toInt := by rw [ki_mul (by rw [z100]; omega) (by rw [z100]; omega), z100]
  rw [ki_in, ki_add (by rw [m]; omega) (by rw [m]; omega), m]
  omega
end
section
theorem rz_cell {r c w : Int32} {μ : km_S} (I : im_ μ) : wX12_cell r c w μ (pu_ (sm_ μ)) := by
  intro μ1 e; subst e
  have H : im_ (km_si μ 1 0) ∧ sm_ (km_si μ 1 0) = sm_ μ := ⟨im_code 0 I, rfl⟩
  refine rz_isCell H.1 ⟨fun _ => rz_fail H, fun n => absurd rfl n⟩ (fun a b d e => ⟨fun n => absurd n (by decide), fun _ => ⟨fun _ => rz_fail H, fun _ => ⟨fun _ => ?_, fun _ => rz_fail H⟩⟩⟩)
  have h10 := H.1.1.1
  have hin : vp_in (12 * r + c) 120 := by rw [ki_in, im_at a (by omega) d e]; omega
  exact ⟨fun _ => ⟨fun _ => ⟨hin, fun _ => H, fun _ => H⟩, fun _ => ⟨hin, fun _ => H, fun _ => H⟩⟩, fun _ => ⟨hin, H⟩⟩
theorem rz_inCell {r c i : Int32} {μ : km_S} (I : im_ μ) : wX12_inCell r c i μ (pu_ (sm_ μ)) := by
  intro μ1 e; subst e
  have H : im_ (km_si μ 1 0) ∧ sm_ (km_si μ 1 0) = sm_ μ := ⟨im_code 0 I, rfl⟩
  have z : (0 : Int32).toInt = 0 := by decide
  have z20 : (20 : Int32).toInt = 20 := by decide
  refine rz_isCell H.1 ⟨fun n => absurd rfl n, fun _ => rz_fail H⟩ (fun a b d e => ⟨fun _ => ⟨fun _ => H, fun q => ?_⟩, fun n => absurd n (by decide)⟩)
  have h10 := H.1.1.1
  have hat := im_at a (by omega) d e
  have hin : vp_in (12 * r + c) 120 := by rw [ki_in, hat]; omega
  refine ⟨hin, fun p => ⟨?_, H⟩, fun _ => H⟩
  have h1 := (H.1.2.2.1 (12 * r + c).toNatClampNeg (by rw [ki_nat, hat]; omega)).1
  rw [ki_lt] at p q
  rw [z] at q
  have m : (20 * (12 * r + c)).toInt = 20 * (12 * r + c).toInt := by rw [ki_mul (by rw [z20, hat]; omega) (by rw [z20, hat]; omega), z20]
  rw [ki_in, ki_add (by rw [m, hat]; omega) (by rw [m, hat]; omega), m, hat]
  omega
theorem rz_count {w : Int32} {μ : km_S} (I : im_ μ) : wX12_count w μ (pu_ (sm_ μ)) := by
  intro μ1 e; subst e
  have H : im_ (km_si μ 1 0) ∧ sm_ (km_si μ 1 0) = sm_ μ := ⟨im_code 0 I, rfl⟩
  generalize km_si μ 1 0 = μ1 at H
  have z120 : (120 : Int32).toInt = 120 := by decide
  have z1 : (1 : Int32).toInt = 1 := by decide
  have E : ∀ a b c : Int32, wX12_count_61 (pu_ (sm_ μ)) a b c μ1 := fun a b c v _ => ⟨fun _ => H, fun _ => H, fun _ => H, fun _ => H, fun _ => H, fun _ => H, fun _ => H, fun _ => H, fun _ => H, fun _ => H, fun _ _ _ _ _ _ _ _ _ _ => rz_fail H⟩
  have L : ∀ (n : Nat) (a b c k : Int32), 0 ≤ k.toInt → k.toInt ≤ 120 → 120 - k.toInt < (n : Int) → wX12_count_12 (wX12_count_61 (pu_ (sm_ μ))) (pu_ (sm_ μ)) n a b c k μ1 := by
    intro n
    induction n with
    | zero => intro a b c k h1 h2 h3; omega
    | succ n ih =>
      intro a b c k h1 h2 h3
      refine ⟨fun _ => E _ _ _, fun q => ?_⟩
      rw [ki_le, z120] at q
      have hin : vp_in k 120 := by rw [ki_in]; omega
      have hk : (k + 1).toInt = k.toInt + 1 := by rw [ki_add (by rw [z1]; omega) (by rw [z1]; omega), z1]
      have N : ∀ a b c : Int32, wX12_count_12 (wX12_count_61 (pu_ (sm_ μ))) (pu_ (sm_ μ)) n a b c (k + 1) μ1 := fun a b c => ih a b c (k + 1) (by rw [hk]; omega) (by rw [hk]; omega) (by rw [hk]; omega)
      have N1 : ∀ a b c d : Int32, wX12_count_53 (wX12_count_12 (wX12_count_61 (pu_ (sm_ μ))) (pu_ (sm_ μ)) n) (pu_ (sm_ μ)) a b k c d μ1 := by
        intro a b c d v1 e1 v2 e2
        rw [e2]; exact N _ _ _
      have N2 : ∀ a b c d : Int32, wX12_count_35 (wX12_count_12 (wX12_count_61 (pu_ (sm_ μ))) (pu_ (sm_ μ)) n) (pu_ (sm_ μ)) a b k c d μ1 := fun a b c d v3 _ => ⟨hin, fun _ => N1 _ _ _ _, fun _ => N1 _ _ _ _⟩
      exact ⟨hin, fun _ => N2 _ _ _ _, fun _ => N2 _ _ _ _⟩
  exact ⟨200, L 200 w 0 0 0 (by decide) (by decide) (by decide)⟩
def z_reach (n l c j : Int32) (σ : sz_T) : Int32 × Int32 × sz_T := if σ.1.1 = 10 ∨ n < -1 ∨ σ.1.1 ≤ n ∨ l < 1 ∨ 12 < l ∨ c < 1 ∨ 20 < c ∨ j < 0 ∨ ¬ j ≤ 1000 then (0, -1, σ) else (0, σ.1.1, ((σ.1.1 + 1, σ.1.2), σ.2))
theorem rz_reach {n l c j : Int32} {μ : km_S} (I : im_ μ) : wX12_reach n l c j μ (pz_ (z_reach n l c j (sm_ μ))) := by
  intro μ1 e1
  have I1 : im_ μ1 := by rw [e1]; exact im_code 0 I
  have s1 : sm_ μ1 = sm_ μ := by rw [e1]; rfl
  have k1 : km_i μ1 1 = 0 := by rw [e1]; rfl
  rw [← s1]
  have no : (km_i μ1 3 = 10 ∨ n < -1 ∨ km_i μ1 3 ≤ n ∨ l < 1 ∨ 12 < l ∨ c < 1 ∨ 20 < c ∨ j < 0 ∨ ¬ j ≤ 1000) → pz_ (z_reach n l c j (sm_ μ1)) (-1) μ1 := by
    intro h
    refine ⟨I1, ?_⟩
    unfold z_reach
    rw [if_pos (show (sm_ μ1).1.1 = 10 ∨ n < -1 ∨ (sm_ μ1).1.1 ≤ n ∨ _ from h), k1]
  refine ⟨fun q => no (.inl q), fun c1 => ⟨fun q => no (.inr (.inl q)), fun c2 => ⟨fun q => no (.inr (.inr (.inl q))), fun c3 => ⟨fun q => no (.inr (.inr (.inr (.inl q)))), fun c4 => ⟨fun q => no (.inr (.inr (.inr (.inr (.inl q))))), fun c5 => ⟨fun q => no (.inr (.inr (.inr (.inr (.inr (.inl q)))))), fun c6 => ⟨fun q => no (.inr (.inr (.inr (.inr (.inr (.inr (.inl q))))))), fun c7 => ⟨fun q => no (.inr (.inr (.inr (.inr (.inr (.inr (.inr (.inl q)))))))), fun c8 => ⟨fun c9 => ?_, fun q => no (.inr (.inr (.inr (.inr (.inr (.inr (.inr (.inr q)))))))) ⟩⟩⟩⟩⟩⟩⟩⟩⟩
  obtain ⟨n1, n2, n3, n4, n5, n6, n7, n8⟩ := I1
  have z0 : (0 : Int32).toInt = 0 := by decide
  have z1 : (1 : Int32).toInt = 1 := by decide
  have zm : (-1 : Int32).toInt = -1 := by decide
  have z10 : (10 : Int32).toInt = 10 := by decide
  have z12 : (12 : Int32).toInt = 12 := by decide
  have z20 : (20 : Int32).toInt = 20 := by decide
  have b := n1.1
  have c1' : (km_i μ1 3).toInt ≠ 10 := fun h => c1 (ki_eq.2 (h.trans z10.symm))
  have hin : vp_in (km_i μ1 3) 10 := by rw [ki_in]; omega
  refine ⟨hin, fun μ2 e2 => ?_⟩
  subst e2
  refine ⟨hin, fun μ3 e3 => ?_⟩
  subst e3
  refine ⟨hin, fun μ4 e4 => ?_⟩
  subst e4
  refine ⟨hin, fun μ5 e5 => ?_⟩
  subst e5
  intro μ9 e9
  subst e9
  have hadd : (km_i μ1 3 + 1).toInt = (km_i μ1 3).toInt + 1 := by
    rw [ki_add (by rw [z1]; omega) (by rw [z1]; omega), z1]
  refine ⟨⟨?_, ?_, n3, n4, n5, n6, n7, n8⟩, ?_⟩
  · refine ⟨?_, n1.2⟩
    show 0 ≤ (km_i μ1 3 + 1).toInt ∧ (km_i μ1 3 + 1).toInt ≤ 10
    rw [hadd]; omega
  · intro r hr
    have h := n2 r hr
    refine ⟨?_, ?_, ?_, h.2.2.2⟩
    · refine ku_r (P := fun x => -1 ≤ x.toInt ∧ x.toInt ≤ 9) ?_ h.1
      simp only [ki_lt, ki_le, zm] at c2 c3; omega
    · refine ku_r (P := fun x => 0 ≤ x.toInt ∧ x.toInt ≤ 12) ?_ h.2.1
      simp only [ki_lt, z1, z12] at c4 c5; omega
    · refine ku_r (P := fun x => 0 ≤ x.toInt ∧ x.toInt ≤ 20) ?_ h.2.2.1
      simp only [ki_lt, z1, z20] at c6 c7; omega
  · unfold z_reach
    rw [if_neg (show ¬ ((sm_ μ1).1.1 = 10 ∨ n < -1 ∨ (sm_ μ1).1.1 ≤ n ∨ _) from fun h => h.elim c1 (fun h => h.elim c2 (fun h => h.elim c3 (fun h => h.elim c4 (fun h => h.elim c5 (fun h => h.elim c6 (fun h => h.elim c7 (fun h => h.elim c8 (fun h => h c9)))))))))]
    exact Prod.ext k1 (Prod.ext (ki_pm _) rfl)
end
section
def z_order (r m s n : Int32) (σ : sz_T) : Int32 × Int32 × sz_T := if z_is r σ then (if σ.2.2.2.2.2 r.toNatClampNeg = 0 ∨ m < 0 ∨ 15 < m ∨ s < 1 ∨ 9 < s ∨ n < 1 ∨ 100 < n ∨ σ.1.2.2.2.1 = 60 then (0, -1, σ) else (0, σ.1.2.2.2.1, ((σ.1.1, σ.1.2.1, σ.1.2.2.1, σ.1.2.2.2.1 + 1, σ.1.2.2.2.2), σ.2))) else (1, 0, σ)
theorem rz_order {r m s n : Int32} {μ : km_S} (I : im_ μ) : wX12_order r m s n μ (pz_ (z_order r m s n (sm_ μ))) := by
  intro μ1 e1
  have I1 : im_ μ1 := by rw [e1]; exact im_code 0 I
  have s1 : sm_ μ1 = sm_ μ := by rw [e1]; rfl
  have k1 : km_i μ1 1 = 0 := by rw [e1]; rfl
  rw [← s1]
  refine rz_isReach (fun c => ⟨fun n => absurd rfl n, fun _ => ?_⟩) (fun a b => ⟨fun _ => ?_, fun n => absurd n (by decide)⟩)
  · intro μ2 e2
    subst e2
    refine ⟨im_code 1 I1, ?_⟩
    unfold z_order
    rw [if_neg (show ¬ z_is r (sm_ μ1) from c)]
    rfl
  · have hin := im_in I1 a b
    have hz : z_is r (sm_ μ1) := ⟨a, b⟩
    have no : (km_a μ1 22 r.toNatClampNeg = 0 ∨ m < 0 ∨ 15 < m ∨ s < 1 ∨ 9 < s ∨ n < 1 ∨ 100 < n ∨ km_i μ1 8 = 60) → pz_ (z_order r m s n (sm_ μ1)) (-1) μ1 := by
      intro h
      refine ⟨I1, ?_⟩
      unfold z_order
      rw [if_pos hz, if_pos (show (sm_ μ1).2.2.2.2.2 r.toNatClampNeg = 0 ∨ m < 0 ∨ 15 < m ∨ s < 1 ∨ 9 < s ∨ n < 1 ∨ 100 < n ∨ (sm_ μ1).1.2.2.2.1 = 60 from h), k1]
    refine ⟨hin, fun q => no (.inl q), fun c1 => ⟨fun q => no (.inr (.inl q)), fun c2 => ⟨fun q => no (.inr (.inr (.inl q))), fun c3 => ⟨fun q => no (.inr (.inr (.inr (.inl q)))), fun c4 => ⟨fun q => no (.inr (.inr (.inr (.inr (.inl q))))), fun c5 => ⟨fun q => no (.inr (.inr (.inr (.inr (.inr (.inl q)))))), fun c6 => ⟨fun q => no (.inr (.inr (.inr (.inr (.inr (.inr (.inl q))))))), fun c7 => ⟨fun c8 => ?_, fun q => no (.inr (.inr (.inr (.inr (.inr (.inr (.inr q)))))))⟩⟩⟩⟩⟩⟩⟩⟩
    obtain ⟨n1, n2, n3, n4, n5, n6, n7, n8⟩ := I1
    have z1 : (1 : Int32).toInt = 1 := by decide
    have z60 : (60 : Int32).toInt = 60 := by decide
    have b8 := n1.2.2.2.2.1
    have c8' : (km_i μ1 8).toInt ≠ 60 := fun h => c8 (ki_eq.2 (h.trans z60.symm))
    have hin8 : vp_in (km_i μ1 8) 60 := by rw [ki_in]; omega
    refine ⟨hin8, fun μ2 e2 => ?_⟩
    subst e2
    refine ⟨hin8, fun μ3 e3 => ?_⟩
    subst e3
    refine ⟨hin8, fun μ4 e4 => ?_⟩
    subst e4
    refine ⟨hin8, fun μ5 e5 => ?_⟩
    subst e5
    intro μ9 e9
    subst e9
    have hadd : (km_i μ1 8 + 1).toInt = (km_i μ1 8).toInt + 1 := by
      rw [ki_add (by rw [z1]; omega) (by rw [z1]; omega), z1]
    refine ⟨⟨⟨n1.1, n1.2.1, n1.2.2.1, n1.2.2.2.1, ?_, n1.2.2.2.2.2⟩, n2, n3, n4, n5, n6, n7, n8⟩, ?_⟩
    · show 0 ≤ (km_i μ1 8 + 1).toInt ∧ (km_i μ1 8 + 1).toInt ≤ 60
      rw [hadd]; omega
    · unfold z_order
      rw [if_pos hz, if_neg (show ¬ ((sm_ μ1).2.2.2.2.2 r.toNatClampNeg = 0 ∨ m < 0 ∨ 15 < m ∨ s < 1 ∨ 9 < s ∨ n < 1 ∨ 100 < n ∨ (sm_ μ1).1.2.2.2.1 = 60) from fun h => h.elim c1 (fun h => h.elim c2 (fun h => h.elim c3 (fun h => h.elim c4 (fun h => h.elim c5 (fun h => h.elim c6 (fun h => h.elim c7 c8)))))))]
      exact Prod.ext k1 (Prod.ext (ki_pm _) rfl)
def z_crew (k r : Int32) (σ : sz_T) : Int32 × Int32 × sz_T := if z_is r σ then (if k = -1 then (if σ.1.2.2.1 = 6 then (0, -1, σ) else (0, σ.1.2.2.1, ((σ.1.1, σ.1.2.1, σ.1.2.2.1 + 1, σ.1.2.2.2), σ.2))) else if k < -1 ∨ σ.1.2.2.1 ≤ k then (0, -1, σ) else (0, k, σ)) else (1, 0, σ)
/-- crew's end: the crew's reach is a reach -/
theorem rz_crew84 {r k : Int32} {μ : km_S} {Q : Int32 → km_S → Prop} (hk : vp_in k 6) (h : ∀ v : Nat → Int32, Q k (μ.1, fun j => if j = 44 then upd (km_a μ 44) k.toNatClampNeg r else if j = 45 then v else μ.2.1 j, μ.2.2)) : wX12_crew_84 Q r k μ := by
  have e0 : (μ.1, fun j => if j = 44 then upd (km_a μ 44) k.toNatClampNeg r else if j = 45 then (μ.2.1 45) else μ.2.1 j, μ.2.2) = km_sa μ 44 k.toNatClampNeg r := by
    refine Prod.ext rfl (Prod.ext ?_ rfl)
    funext j
    show (if j = 44 then _ else if j = 45 then _ else _) = (if j = 44 then _ else _)
    by_cases a : j = 44
    · rw [if_pos a, if_pos a]; rfl
    · rw [if_neg a, if_neg a]
      by_cases b : j = 45
      · rw [if_pos b, b]
      · rw [if_neg b]
  have e1 : ∀ w : Int32, (μ.1, fun j => if j = 44 then upd (km_a μ 44) k.toNatClampNeg r else if j = 45 then upd (μ.2.1 45) k.toNatClampNeg w else μ.2.1 j, μ.2.2) = km_sa (km_sa μ 45 k.toNatClampNeg w) 44 k.toNatClampNeg r := by
    intro w
    refine Prod.ext rfl (Prod.ext ?_ rfl)
    funext j
    show (if j = 44 then _ else if j = 45 then _ else _) = (if j = 44 then _ else if j = 45 then _ else _)
    by_cases a : j = 44
    · rw [if_pos a, if_pos a]; rfl
    · rw [if_neg a, if_neg a]
  refine ⟨hk, fun _ => ⟨hk, fun μ2 e2 => ?_⟩, fun _ => ⟨hk, fun μ6 e6 => ⟨hk, fun μ2 e2 => ?_⟩⟩⟩
  · rw [e2, ← e0]; exact h _
  · rw [e2, e6, ← e1]; exact h _
end
section
theorem rz_crew {k r : Int32} {μ : km_S} (I : im_ μ) : wX12_crew k r μ (pz_ (z_crew k r (sm_ μ))) := by
  intro μ1 e1
  have I1 : im_ μ1 := by rw [e1]; exact im_code 0 I
  have s1 : sm_ μ1 = sm_ μ := by rw [e1]; rfl
  have k1 : km_i μ1 1 = 0 := by rw [e1]; rfl
  rw [← s1]
  have z1 : (1 : Int32).toInt = 1 := by decide
  have z6 : (6 : Int32).toInt = 6 := by decide
  have zm : (-1 : Int32).toInt = -1 := by decide
  have b7 := I1.1.2.2.2.1
  have b3 := I1.1.1
  refine rz_isReach (fun c => ⟨fun n => absurd rfl n, fun _ => ?_⟩) (fun a b => ⟨fun _ => ?_, fun n => absurd n (by decide)⟩)
  · intro μ2 e2
    subst e2
    refine ⟨im_code 1 I1, ?_⟩
    unfold z_crew
    rw [if_neg (show ¬ z_is r (sm_ μ1) from c)]
    rfl
  · have hz : z_is r (sm_ μ1) := ⟨a, b⟩
    have no : (k ≠ -1 ∧ (k < -1 ∨ km_i μ1 7 ≤ k)) ∨ (k = -1 ∧ km_i μ1 7 = 6) → pz_ (z_crew k r (sm_ μ1)) (-1) μ1 := by
      intro h
      refine ⟨I1, ?_⟩
      unfold z_crew
      rw [if_pos hz]
      rcases h with ⟨h1, h2⟩ | ⟨h1, h2⟩
      · rw [if_neg h1, if_pos (show k < -1 ∨ (sm_ μ1).1.2.2.1 ≤ k from h2), k1]
      · rw [if_pos h1, if_pos (show (sm_ μ1).1.2.2.1 = 6 from h2), k1]
    refine ⟨fun q => no (.inl ⟨fun h => ?_, .inl q⟩), fun c1 => ⟨fun q => no (.inl ⟨fun h => ?_, .inr q⟩), fun c2 => ⟨fun c3 => ⟨fun _ => ?_, fun q => absurd q c3⟩, fun c3 => ⟨fun c4 => ⟨fun q => absurd c3 q, fun _ => ?_⟩, fun q => no (.inr ⟨c3, q⟩)⟩⟩⟩⟩
    · rw [h] at q; exact absurd q (by decide)
    · rw [h, ki_le, zm] at q; omega
    · rw [ki_lt, zm] at c1
      rw [ki_le] at c2
      have c3' : k.toInt ≠ -1 := fun h => c3 (ki_eq.2 (h.trans zm.symm))
      have hk : vp_in k 6 := by rw [ki_in]; omega
      refine rz_crew84 hk (fun v => ?_)
      obtain ⟨n1, n2, n3, n4, n5, n6, n7, n8⟩ := I1
      refine ⟨⟨n1, n2, n3, n4, n5, n6, fun j hj => ?_, n8⟩, ?_⟩
      · refine ku_r (P := fun x => 0 ≤ x.toInt ∧ x.toInt < 10) ?_ (n7 j hj)
        omega
      · unfold z_crew
        rw [if_pos hz, if_neg c3, if_neg (show ¬ (k < -1 ∨ (sm_ μ1).1.2.2.1 ≤ k) from fun h => h.elim (fun h => by rw [ki_lt, zm] at h; exact c1 h) (fun h => c2 (ki_le.1 h)))]
        exact Prod.ext k1 rfl
    · intro v8 e8 μ9 e9
      have c4' : (km_i μ1 7).toInt ≠ 6 := fun h => c4 (ki_eq.2 (h.trans z6.symm))
      have hk : vp_in v8 6 := by rw [e8, ki_in]; omega
      refine ⟨hk, fun μ11 e11 => ⟨hk, fun μ13 e13 => rz_crew84 hk (fun v => ?_)⟩⟩
      subst e13; subst e11; subst e9; subst e8
      have hadd : (km_i μ1 7 + 1).toInt = (km_i μ1 7).toInt + 1 := by
        rw [ki_add (by rw [z1]; omega) (by rw [z1]; omega), z1]
      obtain ⟨n1, n2, n3, n4, n5, n6, n7, n8⟩ := I1
      refine ⟨⟨⟨n1.1, n1.2.1, n1.2.2.1, ?_, n1.2.2.2.2⟩, n2, n3, n4, n5, n6, fun j hj => ?_, n8⟩, ?_⟩
      · show 0 ≤ (km_i μ1 7 + 1).toInt ∧ (km_i μ1 7 + 1).toInt ≤ 6
        rw [hadd]; omega
      · show 0 ≤ (upd (upd (km_a μ1 44) (km_i μ1 7).toNatClampNeg (-1)) (km_i μ1 7).toNatClampNeg r j).toInt ∧ (upd (upd (km_a μ1 44) (km_i μ1 7).toNatClampNeg (-1)) (km_i μ1 7).toNatClampNeg r j).toInt < 10
        by_cases e : j = (km_i μ1 7).toNatClampNeg
        · rw [e, ku_self]; omega
        · rw [ku_ne e, ku_ne e]; exact n7 j hj
      · unfold z_crew
        rw [if_pos hz, if_pos c3, if_neg (show ¬ (sm_ μ1).1.2.2.1 = 6 from c4)]
        exact Prod.ext k1 rfl
def z_feed (σ : sz_T) : Int32 × Int32 × sz_T := if σ.1.2.2.2.2.1 + 20 ≤ 500 then (0, σ.1.2.2.2.2.1 + 20, ((σ.1.1, σ.1.2.1, σ.1.2.2.1, σ.1.2.2.2.1, σ.1.2.2.2.2.1 + 20, σ.1.2.2.2.2.2), σ.2)) else (0, -1, σ)
theorem rz_feed {a b c d e : Int32} {μ : km_S} (I : im_ μ) : wX12_feed a b c d e μ (pz_ (z_feed (sm_ μ))) := by
  intro μ1 e1
  have I1 : im_ μ1 := by rw [e1]; exact im_code 0 I
  have s1 : sm_ μ1 = sm_ μ := by rw [e1]; rfl
  have k1 : km_i μ1 1 = 0 := by rw [e1]; rfl
  rw [← s1]
  have z1 : (1 : Int32).toInt = 1 := by decide
  have z20 : (20 : Int32).toInt = 20 := by decide
  have z500 : (500 : Int32).toInt = 500 := by decide
  have b9 := I1.1.2.2.2.2.2
  have h20 : (km_i μ1 9 + 20).toInt = (km_i μ1 9).toInt + 20 := by rw [ki_add (by rw [z20]; omega) (by rw [z20]; omega), z20]
  refine ⟨fun q => ?_, fun q => ⟨I1, ?_⟩⟩
  · have hq : (km_i μ1 9).toInt + 20 ≤ 500 := by rw [ki_le, h20, z500] at q; exact q
    have L : ∀ (n : Nat) (k : Int32) (μ2 : km_S), 0 ≤ k.toInt → k.toInt ≤ 20 → 20 - k.toInt < (n : Int) → im_ μ2 → km_i μ2 1 = 0 → km_i μ2 9 = km_i μ1 9 + k → (∀ v, (sm_ (km_si μ2 9 v)) = sm_ (km_si μ1 9 v)) → wX12_feed_23 (wX12_feed_120 (pz_ (z_feed (sm_ μ1)))) (pz_ (z_feed (sm_ μ1))) n a b c d e k μ2 := by
      intro n
      induction n with
      | zero => intro k μ2 h1 h2 h3; omega
      | succ n ih =>
        intro k μ2 h1 h2 h3 I2 k2 t2 s2
        refine ⟨fun c1 => ?_, fun c1 => ?_⟩
        · rw [ki_le, z20] at c1
          have ek : k = 20 := ki_eq.2 (by rw [z20]; omega)
          refine ⟨I2, ?_⟩
          unfold z_feed
          rw [if_pos (show (sm_ μ1).1.2.2.2.2.1 + 20 ≤ 500 from q)]
          have := s2 (km_i μ2 9)
          have e3 : km_si μ2 9 (km_i μ2 9) = μ2 := Prod.ext (ku_same rfl) rfl
          rw [e3, t2, ek] at this
          rw [this, k2, t2, ek]
          rfl
        · rw [ki_le, z20] at c1
          have hk1 : (k + 1).toInt = k.toInt + 1 := by rw [ki_add (by rw [z1]; omega) (by rw [z1]; omega), z1]
          have h9 : (km_i μ2 9).toInt = (km_i μ1 9).toInt + k.toInt := by rw [t2, ki_add (by omega) (by omega)]
          have h91 : (km_i μ2 9 + 1).toInt = (km_i μ2 9).toInt + 1 := by rw [ki_add (by rw [z1]; omega) (by rw [z1]; omega), z1]
          have N : ∀ w : Int32, wX12_feed_76 (wX12_feed_23 (wX12_feed_120 (pz_ (z_feed (sm_ μ1)))) (pz_ (z_feed (sm_ μ1))) n) (pz_ (z_feed (sm_ μ1))) a b c d e k w μ2 := by
            intro w
            refine ⟨by rw [ki_in]; omega, fun μ3 e3 μ4 e4 v4 e5 => ?_⟩
            rw [e5]
            obtain ⟨n1, n2, n3, n4, n5, n6, n7, n8⟩ := I2
            refine ih (k + 1) μ4 (by omega) (by omega) (by omega) ?_ ?_ ?_ ?_
            · subst e4; subst e3
              refine ⟨⟨n1.1, n1.2.1, n1.2.2.1, n1.2.2.2.1, n1.2.2.2.2.1, ?_⟩, n2, n3, n4, n5, n6, n7, n8⟩
              show 0 ≤ (km_i μ2 9 + 1).toInt ∧ (km_i μ2 9 + 1).toInt ≤ 500
              omega
            · subst e4; subst e3; exact k2
            · subst e4; subst e3
              show km_i μ2 9 + 1 = km_i μ1 9 + (k + 1)
              rw [t2, Int32.add_assoc]
            · subst e4; subst e3
              exact fun v => s2 v
          exact ⟨fun _ => ⟨fun _ => ⟨fun _ => ⟨fun _ => N _, fun _ => N _⟩, fun _ => N _⟩, fun _ => N _⟩, fun _ => N _⟩
    exact ⟨30, L 30 0 μ1 (by decide) (by decide) (by decide) I1 k1 (by rw [Int32.add_zero]) (fun _ => rfl)⟩
  · unfold z_feed
    rw [if_neg (show ¬ (sm_ μ1).1.2.2.2.2.1 + 20 ≤ 500 from q), k1]
end
section
/-! the water's hour -/
abbrev ih_ (σ : sz_T × Int32) (μ : km_S) : Prop := im_ μ ∧ (sm_ μ, km_i μ 1) = σ
theorem ih_u {s : sz_T} {c : Int32} {μ : km_S} (h : ih_ (s, c) μ) : im_ μ ∧ sm_ μ = s := ⟨h.1, congrArg Prod.fst h.2⟩
theorem ih_sa20 {σ : sz_T × Int32} {μ : km_S} {i : Nat} {v : Int32} (h : ih_ σ μ) : ih_ σ (km_sa μ 20 i v) := h
theorem ih_sa18 {σ : sz_T × Int32} {μ : km_S} {i : Nat} {v : Int32} (h : ih_ σ μ) : ih_ σ (km_sa μ 18 i v) := h
theorem ih_sa19 {σ : sz_T × Int32} {μ : km_S} {i : Nat} {v : Int32} (h : ih_ σ μ) : ih_ σ (km_sa μ 19 i v) := h
theorem ih_sa25 {σ : sz_T × Int32} {μ : km_S} {i : Nat} {v : Int32} (h : ih_ σ μ) : ih_ σ (km_sa μ 25 i v) := h
theorem ih_sl {σ : sz_T × Int32} {μ : km_S} {i : Nat} {v : Int64} (h : ih_ σ μ) : ih_ σ (km_sl μ i v) := h
theorem ih_sp {σ : sz_T × Int32} {μ : km_S} {i : Nat} {v : Int64} (h : ih_ σ μ) : ih_ σ (km_sp μ i v) := h
theorem ki_z0 : (0 : Int32).toInt = 0 := by decide
theorem ki_z1 : (1 : Int32).toInt = 1 := by decide
theorem ki_zm : (-1 : Int32).toInt = -1 := by decide
theorem ki_inc {a : Int32} (h1 : -2147483649 ≤ a.toInt) (h2 : a.toInt < 2147483647) : (a + 1).toInt = a.toInt + 1 := by
  have := ki_lo a
  rw [ki_add (by rw [ki_z1]; omega) (by rw [ki_z1]; omega), ki_z1]
theorem ki_dec {a : Int32} (h1 : -2147483648 < a.toInt) : (a + -1).toInt = a.toInt - 1 := by
  have := ki_hi a
  rw [ki_add (by rw [ki_zm]; omega) (by rw [ki_zm]; omega), ki_zm]; omega
theorem ki_dec2 {a : Int32} (h1 : -2147483648 < a.toInt) : (a - 1).toInt = a.toInt - 1 := by
  have := ki_hi a
  rw [ki_sub (by rw [ki_z1]; omega) (by rw [ki_z1]; omega), ki_z1]
theorem rz_water166 {σ : sz_T × Int32} {r : Int32} {μ : km_S} {k : Int32 → km_S → Prop} {Q : km_S → Prop} (hr : vp_in r 10) (H : ih_ σ μ) (kk : ∀ μ', ih_ σ μ' → k (r + -1) μ') : wX12_waterGoes_166 k Q r μ := by
  have h10 := ki_in.1 hr
  have hn := (H.1.2.1 r.toNatClampNeg (by rw [ki_nat]; omega)).1
  refine ⟨hr, fun c => ?_, fun c => ⟨hr, fun μ2 e2 v e => ?_⟩⟩
  · have c' : (km_a μ 13 r.toNatClampNeg).toInt ≠ -1 := fun h => c (ki_eq.2 (h.trans ki_zm.symm))
    have hin : vp_in (km_a μ 13 r.toNatClampNeg) 10 := by rw [ki_in]; omega
    refine ⟨hr, hin, hr, hin, fun μ2 e2 v e => ?_⟩
    rw [e, e2]
    exact kk _ (ih_sa20 H)
  · rw [e, e2]
    exact kk _ (ih_sl H)
theorem rz_waterGoes {σ : sz_T × Int32} {μ : km_S} {Q : km_S → Prop} (H : ih_ σ μ) (kk : ∀ μ', ih_ σ μ' → Q μ') : wX12_waterGoes μ Q := by
  have L2 : ∀ (n : Nat) (r : Int32) (μ2 : km_S), -1 ≤ r.toInt → r.toInt ≤ 9 → r.toInt + 1 < (n : Int) → ih_ σ μ2 → wX12_waterGoes_35 Q n r μ2 := by
    intro n
    induction n with
    | zero => intro r μ2 h1 h2 h3; omega
    | succ n ih =>
      intro r μ2 h1 h2 h3 H2
      refine ⟨fun _ => kk _ H2, fun c => ?_⟩
      rw [ki_lt, ki_z0] at c
      have hr : vp_in r 10 := by rw [ki_in]; omega
      have N : ∀ μ', ih_ σ μ' → wX12_waterGoes_35 Q n (r + -1) μ' := fun μ' H' => by
        have := ki_dec (a := r) (by omega)
        exact ih _ μ' (by omega) (by omega) (by omega) H'
      refine ⟨hr, fun μ3 e3 => ⟨hr, hr, fun μ4 e4 => ⟨hr, hr, fun μ5 e5 => ⟨hr, fun _ => ?_, fun _ => ⟨hr, hr, hr, fun μ6 e6 => ⟨hr, hr, fun v7 e7 => ⟨hr, hr, fun μ8 e8 => ⟨hr, hr, fun v9 e9 => ⟨hr, hr, fun μ10 e10 => ⟨hr, fun μ11 e11 => ?_⟩⟩⟩⟩⟩⟩⟩⟩⟩⟩
      · refine rz_water166 hr ?_ N
        rw [e5, e4, e3]
        exact ih_sa19 (ih_sa18 (ih_sl H2))
      · refine rz_water166 hr ?_ N
        rw [e11, e10, e8, e6, e5, e4, e3]
        exact ih_sa19 (ih_sa25 (ih_sa25 (ih_sa25 (ih_sa19 (ih_sa18 (ih_sl H2))))))
  have L1 : ∀ (n : Nat) (r : Int32) (μ2 : km_S), 0 ≤ r.toInt → r.toInt ≤ 10 → 10 - r.toInt < (n : Int) → ih_ σ μ2 → wX12_waterGoes_2 (wX12_waterGoes_28 Q) Q n r μ2 := by
    intro n
    induction n with
    | zero => intro r μ2 h1 h2 h3; omega
    | succ n ih =>
      intro r μ2 h1 h2 h3 H2
      have b := H2.1.1.1
      refine ⟨fun _ v e => ⟨20, ?_⟩, fun c => ?_⟩
      · have := ki_dec2 (a := km_i μ2 3) (by omega)
        rw [e]
        exact L2 20 _ μ2 (by omega) (by omega) (by omega) H2
      · rw [ki_le] at c
        have hr : vp_in r 10 := by rw [ki_in]; omega
        refine ⟨hr, hr, fun μ5 e5 v e => ?_⟩
        have := ki_inc (a := r) (by omega) (by omega)
        rw [e, e5]
        exact ih _ _ (by omega) (by omega) (by omega) (ih_sa20 H2)
  exact ⟨20, L1 20 0 μ (by decide) (by decide) (by decide) H⟩
end
section
/-! a log lifted out of its cell, a log laid into one -/
def kk_ (μ : km_S) (F A : Nat → Int32) : km_S := (μ.1, fun j => if j = 32 then F else if j = 31 then A else μ.2.1 j, μ.2.2)
theorem kk_32 {μ : km_S} {F A : Nat → Int32} {p : Nat} {v : Int32} : km_sa (kk_ μ F A) 32 p v = kk_ μ (upd F p v) A := by
  refine Prod.ext rfl (Prod.ext ?_ rfl)
  funext j
  show (if j = 32 then _ else if j = 32 then F else if j = 31 then A else μ.2.1 j) = (if j = 32 then _ else if j = 31 then A else μ.2.1 j)
  by_cases a : j = 32
  · rw [if_pos a, if_pos a]; rfl
  · rw [if_neg a, if_neg a, if_neg a]
theorem kk_31 {μ : km_S} {F A : Nat → Int32} {p : Nat} {v : Int32} : km_sa (kk_ μ F A) 31 p v = kk_ μ F (upd A p v) := by
  refine Prod.ext rfl (Prod.ext ?_ rfl)
  funext j
  show (if j = 31 then _ else if j = 32 then F else if j = 31 then A else μ.2.1 j) = (if j = 32 then F else if j = 31 then _ else μ.2.1 j)
  by_cases a : j = 31
  · rw [if_pos a, a]; rfl
  · rw [if_neg a]
    by_cases b : j = 32
    · rw [if_pos b, if_pos b]
    · rw [if_neg b, if_neg b, if_neg a, if_neg a]
theorem kk_id (μ : km_S) : kk_ μ (km_a μ 32) (km_a μ 31) = μ := by
  refine Prod.ext rfl (Prod.ext ?_ rfl)
  funext j
  show (if j = 32 then _ else if j = 31 then _ else _) = _
  by_cases a : j = 32
  · rw [if_pos a, a]; rfl
  · rw [if_neg a]
    by_cases b : j = 31
    · rw [if_pos b, b]; rfl
    · rw [if_neg b]
/-- a log lies in no cell -/
def im_free (g : Int32) (μ : km_S) : Prop := ∀ k : Nat, k < 120 → ∀ i : Nat, (i : Int) < (km_a μ 31 k).toInt → km_a μ 32 (20 * k + i) ≠ g
theorem ki_20 {k i : Int32} (h1 : 0 ≤ k.toInt) (h2 : k.toInt < 120) (h3 : 0 ≤ i.toInt) (h4 : i.toInt ≤ 20) : (20 * k + i).toInt = 20 * k.toInt + i.toInt := by
  have z : (20 : Int32).toInt = 20 := by decide
  have h : (20 * k).toInt = 20 * k.toInt := by rw [ki_mul (by rw [z]; omega) (by rw [z]; omega), z]
  rw [ki_add (by rw [h]; omega) (by rw [h]; omega), h]
theorem rz_lift {σ : sz_T × Int32} {g : Int32} {μ : km_S} {Q : km_S → Prop} (H : ih_ σ μ) (hg : vp_in g 400) (hp : km_a μ 38 g.toNatClampNeg = 1)
    (kk : ∀ F A : Nat → Int32, ih_ σ (kk_ μ F A) → im_free g (kk_ μ F A) → (∀ q : Nat, q < 120 → (A q).toInt ≤ (km_a μ 31 q).toInt) → Q (kk_ μ F A)) : wX12_lift g μ Q := by
  obtain ⟨⟨n1, n2, n3, n4, n5, n6, n7, n8⟩, hs⟩ := H
  have hg4 := ki_in.1 hg
  obtain ⟨gn, egn⟩ : ∃ gn, gn = g.toNatClampNeg := ⟨_, rfl⟩
  have hgn : (gn : Int) = g.toInt := by rw [egn, ki_nat]; omega
  rw [← egn] at hp
  have hrc := (n5 gn (by omega)).2.2.1 hp
  refine ⟨hg, hg, ⟨30, ?_⟩⟩
  rw [← egn]
  have hat := im_at hrc.1.1 hrc.1.2 hrc.2.1 hrc.2.2
  obtain ⟨K, eK⟩ : ∃ K, K = 12 * km_a μ 39 gn + km_a μ 40 gn := ⟨_, rfl⟩
  rw [← eK] at hat
  rw [← eK]
  have hK : vp_in K 120 := by rw [ki_in]; omega
  obtain ⟨k, ek⟩ : ∃ k, k = K.toNatClampNeg := ⟨_, rfl⟩
  have hk : (k : Int) = K.toInt := by rw [ek, ki_nat]; omega
  have hk120 : k < 120 := by omega
  have hh := (n3 k hk120).1
  have L : ∀ (n : Nat) (to i : Int32) (F : Nat → Int32), 0 ≤ to.toInt → to.toInt ≤ i.toInt → i.toInt ≤ (km_a μ 31 k).toInt → (km_a μ 31 k).toInt - i.toInt < (n : Int) →
      (∀ p : Nat, (p : Int) < 20 * k ∨ 20 * (k : Int) + to.toInt ≤ p → F p = km_a μ 32 p) →
      (∀ a : Nat, (a : Int) < to.toInt → ∃ b : Nat, (b : Int) < i.toInt ∧ F (20 * k + a) = km_a μ 32 (20 * k + b) ∧ km_a μ 32 (20 * k + b) ≠ g) →
      (∀ a c : Nat, (a : Int) < to.toInt → (c : Int) < to.toInt → F (20 * k + c) = F (20 * k + a) → c = a) →
      (∀ b : Nat, (b : Int) < i.toInt → True) →
      wX12_lift_21 (wX12_lift_77 Q) Q n g K to i (kk_ μ F (km_a μ 31)) := by
    intro n
    induction n with
    | zero => intro to i F h1 h2 h3 h4; omega
    | succ n ih =>
      intro to i F h1 h2 h3 h4 f1 f2 f3 _
      refine ⟨hK, fun c => ⟨hK, fun μ3 e3 => ?_⟩, fun c => ?_⟩
      · rw [e3, kk_31, ← ek]
        have c' : (km_a μ 31 k).toInt ≤ i.toInt := by
          have := ki_le.1 c
          rw [← ek] at this
          exact this
        have A0 : ∀ q : Nat, q ≠ k → upd (km_a μ 31) k to q = km_a μ 31 q := fun q hq => ku_ne hq
        have A1 : upd (km_a μ 31) k to k = to := ku_self
        refine kk _ _ ⟨⟨n1, n2, ?_, n4, n5, n6, n7, n8⟩, hs⟩ ?_ ?_
        · intro q hq
          show (0 ≤ (upd (km_a μ 31) k to q).toInt ∧ (upd (km_a μ 31) k to q).toInt ≤ 20) ∧ ∀ i : Nat, (i : Int) < (upd (km_a μ 31) k to q).toInt → (0 ≤ (F (20 * q + i)).toInt ∧ (F (20 * q + i)).toInt < 400) ∧ km_a μ 38 (F (20 * q + i)).toNatClampNeg = 1 ∧ 12 * (km_a μ 39 (F (20 * q + i)).toNatClampNeg).toInt + (km_a μ 40 (F (20 * q + i)).toNatClampNeg).toInt = (q : Int) ∧ ∀ j : Nat, (j : Int) < (upd (km_a μ 31) k to q).toInt → F (20 * q + j) = F (20 * q + i) → j = i
          by_cases e : q = k
          · subst e
            rw [A1]
            refine ⟨by omega, fun x hx => ?_⟩
            obtain ⟨b, hb, eb, _⟩ := f2 x hx
            have o := (n3 q hq).2 b (by omega)
            rw [← eb] at o
            exact ⟨o.1, o.2.1, o.2.2.1, fun j hj ej => f3 x j hx hj ej⟩
          · rw [A0 q e]
            have o := n3 q hq
            have same : ∀ x : Nat, (x : Int) < (km_a μ 31 q).toInt → F (20 * q + x) = km_a μ 32 (20 * q + x) := by
              intro x hx
              refine f1 _ ?_
              have : q < k ∨ k < q := by omega
              rcases this with t | t
              · left; omega
              · right; omega
            refine ⟨o.1, fun x hx => ?_⟩
            have o2 := o.2 x hx
            rw [same x hx]
            refine ⟨o2.1, o2.2.1, o2.2.2.1, fun j hj ej => ?_⟩
            rw [same j hj] at ej
            exact o2.2.2.2 j hj ej
        · intro q hq x hx
          by_cases e : q = k
          · subst e
            have hx' : (x : Int) < to.toInt := by
              have : (x : Int) < (upd (km_a μ 31) q to q).toInt := hx
              rw [A1] at this; exact this
            obtain ⟨b, hb, eb, nb⟩ := f2 x hx'
            show F (20 * q + x) ≠ g
            rw [eb]; exact nb
          · have hx' : (x : Int) < (km_a μ 31 q).toInt := by
              have : (x : Int) < (upd (km_a μ 31) k to q).toInt := hx
              rw [A0 q e] at this; exact this
            have o := n3 q hq
            have same : F (20 * q + x) = km_a μ 32 (20 * q + x) := by
              refine f1 _ ?_
              have : q < k ∨ k < q := by omega
              rcases this with t | t
              · left; omega
              · right; omega
            show F (20 * q + x) ≠ g
            rw [same]
            intro eg
            have o2 := (o.2 x hx').2.2.1
            rw [eg, ← egn, ← hat] at o2
            omega
        · intro q hq
          by_cases e : q = k
          · subst e; rw [A1]; omega
          · rw [A0 q e]; omega
      · have c' : i.toInt < (km_a μ 31 k).toInt := by
          have := fun h => c (ki_le.2 h)
          rw [← ek] at this
          have t : ¬ (km_a μ 31 k).toInt ≤ i.toInt := this
          omega
        have hi20 := ki_20 (k := K) (i := i) (by omega) (by omega) (by omega) (by omega)
        have ht20 := ki_20 (k := K) (i := to) (by omega) (by omega) (by omega) (by omega)
        have ii := ki_inc (a := i) (by omega) (by omega)
        have it := ki_inc (a := to) (by omega) (by omega)
        obtain ⟨x, ex⟩ : ∃ x, x = i.toNatClampNeg := ⟨_, rfl⟩
        have hx : (x : Int) = i.toInt := by rw [ex, ki_nat]; omega
        obtain ⟨y, ey⟩ : ∃ y, y = to.toNatClampNeg := ⟨_, rfl⟩
        have hy : (y : Int) = to.toInt := by rw [ey, ki_nat]; omega
        have pi : (20 * K + i).toNatClampNeg = 20 * k + x := by rw [ki_nat, hi20]; omega
        have pt : (20 * K + to).toNatClampNeg = 20 * k + y := by rw [ki_nat, ht20]; omega
        refine ⟨by rw [ki_in]; omega, fun v7 e7 => ?_⟩
        have e7' : v7 = km_a μ 32 (20 * k + x) := by
          rw [e7, pi]
          exact f1 _ (.inr (by omega))
        refine ⟨fun d => ⟨by rw [ki_in]; omega, fun μ10 e10 v11 e11 v12 e12 => ?_⟩, fun d v12 e12 => ?_⟩
        · rw [e10, kk_32, e11, e12, pt]
          refine ih (to + 1) (i + 1) _ (by omega) (by omega) (by omega) (by omega) ?_ ?_ ?_ (fun _ _ => trivial)
          · intro p hp
            rw [ku_ne (by omega)]
            exact f1 p (by omega)
          · intro a ha
            by_cases e : a = y
            · refine ⟨x, by omega, ?_, ?_⟩
              · rw [e, ku_self, e7']
              · rw [← e7']; exact d
            · obtain ⟨b, hb, eb, nb⟩ := f2 a (by omega)
              refine ⟨b, by omega, ?_, nb⟩
              rw [ku_ne (by omega)]; exact eb
          · have dist : ∀ a : Nat, (a : Int) < to.toInt → F (20 * k + a) ≠ v7 := by
              intro a ha ea
              obtain ⟨b, hb, eb, nb⟩ := f2 a ha
              rw [eb, e7'] at ea
              have := ((n3 k hk120).2 x (by omega)).2.2.2 b (by omega) ea
              omega
            intro a c2 ha hc2 ee
            by_cases e : a = y
            · by_cases f : c2 = y
              · omega
              · rw [e, ku_self, ku_ne (by omega)] at ee
                exact absurd ee (dist c2 (by omega))
            · by_cases f : c2 = y
              · rw [f, ku_self, ku_ne (by omega)] at ee
                exact absurd ee.symm (dist a (by omega))
              · rw [ku_ne (by omega), ku_ne (by omega)] at ee
                exact f3 a c2 (by omega) (by omega) ee
        · rw [e12]
          refine ih to (i + 1) F (by omega) (by omega) (by omega) (by omega) f1 ?_ f3 (fun _ _ => trivial)
          intro a ha
          obtain ⟨b, hb, eb, nb⟩ := f2 a ha
          exact ⟨b, by omega, eb, nb⟩
  have := L 30 0 0 (km_a μ 32) (by decide) (by decide) (by rw [ki_z0]; omega) (by rw [ki_z0]; omega) (fun _ _ => rfl) (fun a ha => by rw [ki_z0] at ha; omega) (fun a c ha => by rw [ki_z0] at ha; omega) (fun _ _ => trivial)
  rw [kk_id] at this
  exact this
end
section
/-- what a state asks for before a log is laid: all but the log's own reach and cell -/
def il_ (σ : sz_T × Int32) (gn : Nat) (μ : km_S) : Prop := (im_n μ ∧ im_r μ ∧ im_c μ ∧ im_h μ ∧ (∀ g : Nat, g < 400 → (0 ≤ (km_a μ 35 g).toInt ∧ (km_a μ 35 g).toInt ≤ 15) ∧ (0 ≤ (km_a μ 36 g).toInt ∧ (km_a μ 36 g).toInt ≤ 9) ∧ (g ≠ gn → km_a μ 38 g = 1 → (0 ≤ (km_a μ 39 g).toInt ∧ (km_a μ 39 g).toInt < 10) ∧ (0 ≤ (km_a μ 40 g).toInt ∧ (km_a μ 40 g).toInt < 12)) ∧ ((km_i μ 4).toInt ≤ (g : Int) → km_a μ 38 g = 0)) ∧ im_s μ ∧ im_w μ ∧ im_l μ) ∧ (sm_ μ, km_i μ 1) = σ
theorem il_of {σ : sz_T × Int32} {gn : Nat} {μ : km_S} (h : ih_ σ μ) : il_ σ gn μ := ⟨⟨h.1.1, h.1.2.1, h.1.2.2.1, h.1.2.2.2.1, fun g hg => ⟨(h.1.2.2.2.2.1 g hg).1, (h.1.2.2.2.2.1 g hg).2.1, fun _ => (h.1.2.2.2.2.1 g hg).2.2.1, (h.1.2.2.2.2.1 g hg).2.2.2⟩, h.1.2.2.2.2.2⟩, h.2⟩
theorem rz_lay {σ : sz_T × Int32} {g r c : Int32} {μ : km_S} {Q : km_S → Prop} (hg : vp_in g 400) (H : il_ σ g.toNatClampNeg μ) (hp : km_a μ 38 g.toNatClampNeg = 1) (hf : im_free g μ) (hr : 0 ≤ r.toInt ∧ r.toInt < 10) (hc : 0 ≤ c.toInt ∧ c.toInt < 12) (hh : (km_a μ 31 (12 * r + c).toNatClampNeg).toInt < 20)
    (kk : ∀ F A : Nat → Int32, ih_ σ (km_sa (km_sa (kk_ μ F A) 39 g.toNatClampNeg r) 40 g.toNatClampNeg c) → Q (km_sa (km_sa (kk_ μ F A) 39 g.toNatClampNeg r) 40 g.toNatClampNeg c)) : wX12_lay g r c μ Q := by
  obtain ⟨⟨n1, n2, n3, n4, n5, n6, n7, n8⟩, hs⟩ := H
  have hg4 := ki_in.1 hg
  obtain ⟨gn, egn⟩ : ∃ gn, gn = g.toNatClampNeg := ⟨_, rfl⟩
  have hgn : (gn : Int) = g.toInt := by rw [egn, ki_nat]; omega
  rw [← egn] at hp n5 kk
  have hat := im_at hr.1 hr.2 hc.1 hc.2
  unfold wX12_lay wX12_at0
  obtain ⟨K, eK⟩ : ∃ K, K = 12 * r + c := ⟨_, rfl⟩
  rw [← eK] at hat hh
  rw [← eK, ← egn]
  have hK : vp_in K 120 := by rw [ki_in]; omega
  obtain ⟨k, ek⟩ : ∃ k, k = K.toNatClampNeg := ⟨_, rfl⟩
  have hk : (k : Int) = K.toInt := by rw [ek, ki_nat]; omega
  have hk120 : k < 120 := by omega
  rw [← ek] at hh
  dsimp only
  rw [← ek]
  have h0 := (n3 k hk120).1
  have h20 := ki_20 (k := K) (i := km_a μ 31 k) (by omega) (by omega) (by omega) (by omega)
  obtain ⟨y, ey⟩ : ∃ y, y = (km_a μ 31 k).toNatClampNeg := ⟨_, rfl⟩
  have hy : (y : Int) = (km_a μ 31 k).toInt := by rw [ey, ki_nat]; omega
  have pt : (20 * K + km_a μ 31 k).toNatClampNeg = 20 * k + y := by rw [ki_nat, h20]; omega
  have ih1 := ki_inc (a := km_a μ 31 k) (by omega) (by omega)
  refine ⟨hK, by rw [ki_in]; omega, fun μ5 e5 => ⟨hK, hK, fun μ8 e8 => ⟨hg, fun μ10 e10 => ⟨hg, fun μ12 e12 => ?_⟩⟩⟩⟩
  have e8' : μ8 = kk_ μ (upd (km_a μ 32) (20 * k + y) g) (upd (km_a μ 31) k (km_a μ 31 k + 1)) := by
    rw [e8, e5, pt]
    show km_sa (km_sa μ 32 (20 * k + y) g) 31 k (km_a μ 31 k + 1) = _
    rw [← kk_31, ← kk_32, kk_id]
  rw [e12, e10, e8']
  obtain ⟨F, eF⟩ : ∃ F, F = upd (km_a μ 32) (20 * k + y) g := ⟨_, rfl⟩
  obtain ⟨A, eA⟩ : ∃ A, A = upd (km_a μ 31) k (km_a μ 31 k + 1) := ⟨_, rfl⟩
  rw [← eF, ← eA]
  have A0 : ∀ q : Nat, q ≠ k → A q = km_a μ 31 q := fun q hq => by rw [eA, ku_ne hq]
  have A1 : (A k).toInt = (km_a μ 31 k).toInt + 1 := by rw [eA, ku_self, ih1]
  have F1 : F (20 * k + y) = g := by rw [eF, ku_self]
  have F0 : ∀ p : Nat, p ≠ 20 * k + y → F p = km_a μ 32 p := fun p hq => by rw [eF, ku_ne hq]
  have nn : ∀ v : Int32, v ≠ g → 0 ≤ v.toInt → v.toNatClampNeg ≠ gn := by
    intro v hv h1 h2
    rw [ki_nat] at h2
    exact hv (ki_eq.2 (by omega))
  refine kk F A ⟨⟨n1, n2, ?_, ?_, ?_, n6, n7, n8⟩, hs⟩
  · intro q hq
    show (0 ≤ (A q).toInt ∧ (A q).toInt ≤ 20) ∧ ∀ i : Nat, (i : Int) < (A q).toInt → (0 ≤ (F (20 * q + i)).toInt ∧ (F (20 * q + i)).toInt < 400) ∧ km_a μ 38 (F (20 * q + i)).toNatClampNeg = 1 ∧ 12 * (upd (km_a μ 39) gn r (F (20 * q + i)).toNatClampNeg).toInt + (upd (km_a μ 40) gn c (F (20 * q + i)).toNatClampNeg).toInt = (q : Int) ∧ ∀ j : Nat, (j : Int) < (A q).toInt → F (20 * q + j) = F (20 * q + i) → j = i
    have o := n3 q hq
    by_cases e : q = k
    · subst e
      rw [A1]
      refine ⟨by omega, fun x hx => ?_⟩
      by_cases ex : x = y
      · rw [ex, F1, ← egn, ku_self, ku_self]
        refine ⟨by omega, hp, by omega, fun j hj ej => ?_⟩
        by_cases ejy : j = y
        · exact ejy
        · rw [F0 _ (by omega)] at ej
          exact absurd ej (hf q hq j (by omega))
      · have o2 := o.2 x (by omega)
        have ne := nn _ (hf q hq x (by omega)) o2.1.1
        rw [F0 _ (by omega), ku_ne ne, ku_ne ne]
        refine ⟨o2.1, o2.2.1, o2.2.2.1, fun j hj ej => ?_⟩
        by_cases ejy : j = y
        · rw [ejy, F1] at ej
          exact absurd ej.symm (hf q hq x (by omega))
        · rw [F0 _ (by omega)] at ej
          exact o2.2.2.2 j (by omega) ej
    · rw [A0 q e]
      refine ⟨o.1, fun x hx => ?_⟩
      have o2 := o.2 x hx
      have same : ∀ z : Nat, (z : Int) < (km_a μ 31 q).toInt → F (20 * q + z) = km_a μ 32 (20 * q + z) := fun z hz => F0 _ (by omega)
      have ne := nn _ (hf q hq x hx) o2.1.1
      rw [same x hx, ku_ne ne, ku_ne ne]
      refine ⟨o2.1, o2.2.1, o2.2.2.1, fun j hj ej => ?_⟩
      rw [same j hj] at ej
      exact o2.2.2.2 j hj ej
  · intro q hq
    refine ⟨(n4 q hq).1, fun x hx => ?_⟩
    have o := (n4 q hq).2 x hx
    have ne : (km_a μ 30 (100 * q + x)).toNatClampNeg ≠ gn := by
      intro e
      have := o.2.1
      rw [e, hp] at this
      exact absurd this (by decide)
    refine ⟨o.1, o.2.1, ?_, o.2.2.2⟩
    show (upd (km_a μ 39) gn r (km_a μ 30 (100 * q + x)).toNatClampNeg).toInt = (q : Int)
    rw [ku_ne ne]; exact o.2.2.1
  · intro q hq
    have o := n5 q hq
    refine ⟨o.1, o.2.1, ?_, o.2.2.2⟩
    show km_a μ 38 q = 1 → (0 ≤ (upd (km_a μ 39) gn r q).toInt ∧ (upd (km_a μ 39) gn r q).toInt < 10) ∧ (0 ≤ (upd (km_a μ 40) gn c q).toInt ∧ (upd (km_a μ 40) gn c q).toInt < 12)
    intro h
    by_cases e : q = gn
    · rw [e, ku_self, ku_self]; exact ⟨hr, hc⟩
    · rw [ku_ne e, ku_ne e]; exact o.2.2.1 e h
theorem rz_isOpen {r c : Int32} {μ : km_S} {Q : Int32 → km_S → Prop} (I : im_r μ) (hr : 0 ≤ r.toInt ∧ r.toInt < 10) (hc : 0 ≤ c.toInt ∧ c.toInt < 12) (h0 : Q 0 μ) (h1 : (km_a μ 31 (12 * r + c).toNatClampNeg).toInt < 20 → Q 1 μ) : wX12_isOpen r c μ Q := by
  have hat := im_at hr.1 hr.2 hc.1 hc.2
  have hK : vp_in (12 * r + c) 120 := by rw [ki_in]; omega
  have hr10 : vp_in r 10 := by rw [ki_in]; omega
  have := (I r.toNatClampNeg (by rw [ki_nat]; omega)).2.2.1
  refine ⟨hK, hr10, fun _ => h0, fun d => ⟨hK, fun _ => h0, fun _ => h1 ?_⟩⟩
  rw [ki_le] at d
  omega
end
section
/-! a law's rule told: only the stack and its top change -/
def kv_ (μ : km_S) (S : Nat → Int32) (t : Int32) : km_S := (upd μ.1 68 t, fun j => if j = 57 then S else μ.2.1 j, μ.2.2)
theorem kv_57 {μ : km_S} {S : Nat → Int32} {t v : Int32} {p : Nat} : km_sa (kv_ μ S t) 57 p v = kv_ μ (upd S p v) t := by
  refine Prod.ext rfl (Prod.ext ?_ rfl)
  funext j
  show (if j = 57 then _ else if j = 57 then S else μ.2.1 j) = (if j = 57 then _ else μ.2.1 j)
  by_cases a : j = 57
  · rw [if_pos a, if_pos a]; rfl
  · rw [if_neg a, if_neg a, if_neg a]
theorem kv_68 {μ : km_S} {S : Nat → Int32} {t v : Int32} : km_si (kv_ μ S t) 68 v = kv_ μ S v := by
  refine Prod.ext ?_ rfl
  funext j
  show upd (upd μ.1 68 t) 68 v j = upd μ.1 68 v j
  by_cases a : j = 68
  · rw [a, ku_self, ku_self]
  · rw [ku_ne a, ku_ne a, ku_ne a]
theorem kv_id {μ : km_S} {v : Int32} : km_si μ 68 v = kv_ μ (km_a μ 57) v := by
  refine Prod.ext rfl (Prod.ext ?_ rfl)
  funext j
  show _ = (if j = 57 then _ else _)
  by_cases a : j = 57
  · rw [if_pos a, a]; rfl
  · rw [if_neg a]; rfl
theorem ih_kv {σ : sz_T × Int32} {μ : km_S} {S : Nat → Int32} {t : Int32} (h : ih_ σ μ) : ih_ σ (kv_ μ S t) := h
theorem rz_value {a g r : Int32} {μ : km_S} {Q : Int32 → km_S → Prop} (hg : vp_in g 400) (h : ∀ v, Q v μ) : wX12_value a g r μ Q :=
  fun v _ => ⟨fun _ => ⟨hg, h _⟩, fun _ => ⟨hg, h _⟩, fun _ => ⟨hg, h _⟩, fun _ => h _, fun _ => h _, fun _ => h _, fun _ _ _ _ _ _ => ⟨hg, h _⟩⟩
theorem rz_two {c x y : Int32} {μ : km_S} {Q : Int32 → km_S → Prop} (h : ∀ v, Q v μ) : wX12_two c x y μ Q :=
  fun v _ => ⟨fun _ => h _, fun _ => h _, fun _ => h _, fun _ => ⟨fun q => ⟨fun _ => ⟨q, h _⟩, fun _ => h _⟩, fun _ => h _⟩, fun _ => ⟨fun _ => h _, fun _ => h _⟩, fun _ => ⟨fun _ => h _, fun _ => h _⟩, fun _ => ⟨fun _ => h _, fun _ => ⟨fun _ => h _, fun _ => h _⟩⟩, fun _ _ _ _ _ _ _ => ⟨fun _ => h _, fun _ => ⟨fun _ => h _, fun _ => h _⟩⟩⟩
theorem rz_told {f t g r : Int32} {μ : km_S} {Q : Int32 → km_S → Prop} {B k e : Nat} (hg : vp_in g 400) (hf : f.toInt = (B : Int) + k) (ht : t.toInt = (B : Int) + e) (hB : B + e ≤ 5400) (hrun : im_run (fun i => km_a μ 56 (B + i)) 901 k e 0) (h : ∀ v S u, Q v (kv_ μ S u)) : wX12_told f t g r μ Q := by
  intro μ1 e1
  refine ⟨901, ?_⟩
  rw [e1, kv_id]
  have L : ∀ (n k d : Nat) (i u : Int32) (S : Nat → Int32), i.toInt = (B : Int) + k → u.toInt = (d : Int) → d ≤ 190 → im_run (fun i => km_a μ 56 (B + i)) n k e d → wX12_told_8 (wX12_told_193 Q) Q n t g r i (kv_ μ S u) := by
    intro n
    induction n with
    | zero => intro k d i u S h1 h2 h3 h4; unfold im_run at h4; exact h4.elim
    | succ n ih =>
      intro k d i u S h1 h2 h3 h4
      refine ⟨fun _ => h _ _ _, fun c => ?_⟩
      rw [ki_le] at c
      unfold im_run at h4
      rw [if_neg (by omega)] at h4
      have z20 : (20 : Int32).toInt = 20 := by decide
      have pi : i.toNatClampNeg = B + k := by rw [ki_nat]; omega
      have ii := ki_inc (a := i) (by omega) (by omega)
      have ui := ki_inc (a := u) (by omega) (by omega)
      have ud := ki_dec2 (a := u) (by omega)
      have N : ∀ (k' d' : Nat) (j w : Int32) (S' : Nat → Int32), j.toInt + 1 = (B : Int) + k' → (k' : Int) ≤ e + 1 → w.toInt = (d' : Int) → d' ≤ 190 → im_run (fun i => km_a μ 56 (B + i)) n k' e d' → wX12_told_187 (wX12_told_8 (wX12_told_193 Q) Q n) Q t g r j (kv_ μ S' w) := by
        intro k' d' j w S' g1 g2 g3 g4 g5 v ev
        have := ki_inc (a := j) (by omega) (by omega)
        rw [ev]
        exact ih k' d' _ w S' (by omega) g3 g4 g5
      refine ⟨by rw [ki_in]; omega, fun v6 e6 => ⟨fun q => ⟨fun q2 => ⟨fun q3 => ?_, fun q3 => ?_⟩, fun q2 => ?_⟩, fun q v24 e24 => ?_⟩⟩
      all_goals (have e6' : v6 = km_a μ 56 (B + k) := by rw [e6, pi]; rfl)
      all_goals (rw [← e6'] at h4)
      · rw [if_neg q, if_neg (fun x => by rw [ki_lt] at q2; rw [ki_le] at x; omega), if_neg q3] at h4
        intro μ10 e10
        rw [kv_68] at e10
        have e10' : μ10 = kv_ μ S (u - 1) := e10
        subst e10'
        have ud2 := ki_dec2 (a := u - 1) (by omega)
        have a1 : vp_in (u - 1 - 1) 200 := by rw [ki_in]; omega
        refine ⟨a1, (by show vp_in (u - 1) 200; rw [ki_in]; omega), rz_two (fun v => ⟨a1, fun μ16 e16 => ?_⟩)⟩
        rw [e16, kv_57]
        exact N (k + 1) (d - 1) i _ _ (by omega) (by omega) (by omega) (by omega) h4.2
      · rw [if_neg q, if_neg (fun x => by rw [ki_lt] at q2; rw [ki_le] at x; omega), if_pos q3] at h4
        have a1 : vp_in (u - 1) 200 := by rw [ki_in]; omega
        refine ⟨a1, fun _ => ⟨a1, fun μ3 e3 => ?_⟩, fun _ => ⟨a1, fun μ3 e3 => ?_⟩⟩
        · rw [e3, kv_57]
          exact N (k + 1) d i _ _ (by omega) (by omega) h2 h3 h4.2
        · rw [e3, kv_57]
          exact N (k + 1) d i _ _ (by omega) (by omega) h2 h3 h4.2
      · rw [if_neg q, if_pos (by rw [ki_lt] at q2; rw [ki_le]; omega)] at h4
        refine rz_value hg (fun v => ⟨(by show vp_in u 200; rw [ki_in]; omega), fun μ22 e22 μ23 e23 => ?_⟩)
        rw [e23, e22, kv_57, kv_68]
        exact N (k + 1) (d + 1) i _ _ (by omega) (by omega) (by show (u + 1).toInt = _; omega) (by omega) h4.2.2
      · rw [if_pos q] at h4
        refine ⟨by rw [e24, ki_in]; omega, (by show vp_in u 200; rw [ki_in]; omega), fun μ27 e27 μ28 e28 => ?_⟩
        rw [e28, e27, kv_57, kv_68]
        exact N (k + 2) (d + 1) v24 _ _ (by rw [e24]; omega) (by omega) (by show (u + 1).toInt = _; omega) (by omega) h4.2.2
  exact L 901 k 0 f 0 _ hf (by decide) (by decide) hrun
end
section
theorem kv_self (μ : km_S) : kv_ μ (km_a μ 57) (km_i μ 68) = μ := by
  refine Prod.ext (ku_same rfl) (Prod.ext ?_ rfl)
  funext j
  show (if j = 57 then _ else _) = _
  by_cases a : j = 57
  · rw [if_pos a, a]; rfl
  · rw [if_neg a]
theorem kv_kv {μ : km_S} {S S' : Nat → Int32} {t t' : Int32} : kv_ (kv_ μ S t) S' t' = kv_ μ S' t' := by
  refine Prod.ext ?_ (Prod.ext ?_ rfl)
  · funext j
    show upd (upd μ.1 68 t) 68 t' j = upd μ.1 68 t' j
    by_cases a : j = 68
    · rw [a, ku_self, ku_self]
    · rw [ku_ne a, ku_ne a, ku_ne a]
  · funext j
    show (if j = 57 then S' else if j = 57 then S else μ.2.1 j) = (if j = 57 then S' else μ.2.1 j)
    by_cases a : j = 57
    · rw [if_pos a, if_pos a]
    · rw [if_neg a, if_neg a, if_neg a]
theorem ki_mk {m a b : Int32} {M : Int} (hm : m.toInt = M) (h0 : 0 ≤ M ∧ M ≤ 900) (ha : 0 ≤ a.toInt ∧ a.toInt ≤ 10) (hb : -1 ≤ b.toInt ∧ b.toInt ≤ 100000) (hM : M * a.toInt ≤ 9000) (hM0 : 0 ≤ M * a.toInt) : (m * a + b).toInt = M * a.toInt + b.toInt := by
  have h : (m * a).toInt = M * a.toInt := by rw [ki_mul (by rw [hm]; omega) (by rw [hm]; omega), hm]
  rw [ki_add (by rw [h]; omega) (by rw [h]; omega), h]
theorem rz_ruled {w g r : Int32} {μ : km_S} {Q : Int32 → km_S → Prop} (I : im_ μ) (hg : vp_in g 400) (h : ∀ v S u, Q v (kv_ μ S u)) : wX12_ruled w g r μ Q := by
  obtain ⟨n1, n2, n3, n4, n5, n6, n7, n8⟩ := I
  have b5 := n1.2.2.1
  have z12 : (12 : Int32).toInt = 12 := by decide
  have z13 : (13 : Int32).toInt = 13 := by decide
  have z900 : (900 : Int32).toInt = 900 := by decide
  have L2 : ∀ (n : Nat) (l s k : Int32) (S : Nat → Int32) (u : Int32), -1 ≤ l.toInt → l.toInt < (km_i μ 5).toInt → 0 ≤ k.toInt → k.toInt ≤ 12 → 12 - k.toInt < (n : Int) → wX12_ruled_71 Q n w g r l s k (kv_ μ S u) := by
    intro n
    induction n with
    | zero => intro l s k S u h1 h2 h3 h4 h5; omega
    | succ n ih =>
      intro l s k S u h1 h2 h3 h4 h5
      refine ⟨fun _ => h _ _ _, fun c => ?_⟩
      have c' : l.toInt ≠ -1 := fun x => c (ki_eq.2 (x.trans ki_zm.symm))
      have hl : vp_in l 6 := by rw [ki_in]; omega
      obtain ⟨ln, el⟩ : ∃ ln, ln = l.toNatClampNeg := ⟨_, rfl⟩
      have hln : (ln : Int) = l.toInt := by rw [el, ki_nat]; omega
      have o := n8 ln (by omega)
      refine ⟨hl, fun _ => h _ _ _, fun d => ?_⟩
      have d' : k.toInt < (km_a μ 54 ln).toInt := by
        have := fun x => d (ki_le.2 x)
        rw [← el] at this
        have t : ¬ (km_a μ 54 ln).toInt ≤ k.toInt := this
        omega
      obtain ⟨kn, ekn⟩ : ∃ kn, kn = k.toNatClampNeg := ⟨_, rfl⟩
      have hkn : (kn : Int) = k.toInt := by rw [ekn, ki_nat]; omega
      have o2 := o.2 kn (by omega)
      have m12 := ki_mk (m := 12) (a := l) (b := k) z12 (by omega) (by omega) (by omega) (by omega) (by omega)
      have m13 := ki_mk (m := 13) (a := l) (b := k) z13 (by omega) (by omega) (by omega) (by omega) (by omega)
      have ik := ki_inc (a := k) (by omega) (by omega)
      have N : ∀ (s' : Int32) (S' : Nat → Int32) (u' : Int32), wX12_ruled_182 (wX12_ruled_71 Q n) Q w g r l s' k (kv_ μ S' u') := by
        intro s' S' u' v ev
        rw [ev]
        exact ih l s' (k + 1) S' u' h1 h2 (by omega) (by omega) (by omega)
      refine ⟨by rw [ki_in]; omega, fun _ v15 e15 => ?_, fun _ => N _ _ _⟩
      have h15 : v15.toInt = 13 * l.toInt + k.toInt := by rw [e15, m13]
      have i15 := ki_inc (a := v15) (by omega) (by omega)
      have p15 : v15.toNatClampNeg = 13 * ln + kn := by rw [ki_nat]; omega
      have p16 : (v15 + 1).toNatClampNeg = 13 * ln + kn + 1 := by rw [ki_nat]; omega
      refine ⟨by rw [ki_in]; omega, by rw [ki_in]; omega, ?_⟩
      rw [p15, p16]
      have q0 := o2.1
      have q1 := o2.2.1
      have run := o2.2.2
      have fromB : 0 ≤ (km_a μ 55 (13 * ln + kn)).toInt ∧ (km_a μ 55 (13 * ln + kn)).toInt ≤ 100000 := by
        refine ⟨q0, ?_⟩
        by_cases x : (km_a μ 55 (13 * ln + kn)).toInt ≤ 900
        · omega
        · exfalso
          unfold im_run at run
          rw [if_pos (by rw [ki_nat, ki_nat]; omega)] at run
          exact absurd run.2 (by decide)
      have toB : -1 ≤ (km_a μ 55 (13 * ln + kn + 1)).toInt := by
        by_cases x : -1 ≤ (km_a μ 55 (13 * ln + kn + 1)).toInt
        · exact x
        · exfalso
          unfold im_run at run
          rw [if_pos (by rw [ki_nat, ki_nat]; omega)] at run
          exact absurd run.2 (by decide)
      have toC : 0 ≤ (km_a μ 55 (13 * ln + kn + 1)).toInt := by
        by_cases x : 0 ≤ (km_a μ 55 (13 * ln + kn + 1)).toInt
        · exact x
        · exfalso
          unfold im_run at run
          rw [if_pos (by rw [ki_nat, ki_nat]; omega)] at run
          exact absurd run.2 (by decide)
      have m9 := ki_mk (m := 900) (a := l) (b := km_a μ 55 (13 * ln + kn)) z900 (by omega) (by omega) (by omega) (by omega) (by omega)
      have m9' := ki_mk (m := 900) (a := l) (b := km_a μ 55 (13 * ln + kn + 1)) z900 (by omega) (by omega) (by omega) (by omega) (by omega)
      refine rz_told (μ := kv_ μ S u) (B := 900 * ln) (k := (km_a μ 55 (13 * ln + kn)).toNatClampNeg) (e := (km_a μ 55 (13 * ln + kn + 1)).toNatClampNeg) hg ?_ ?_ ?_ run (fun v S' u' => ?_)
      · show (900 * l + km_a μ 55 (13 * ln + kn)).toInt = _
        rw [m9, ki_nat]; omega
      · show (900 * l + km_a μ 55 (13 * ln + kn + 1)).toInt = _
        rw [m9', ki_nat]; omega
      · rw [ki_nat]; omega
      · rw [kv_kv]
        exact ⟨fun _ => ⟨fun _ => N _ _ _, fun _ => N _ _ _⟩, fun _ => N _ _ _⟩
  have L1 : ∀ (n : Nat) (l k : Int32), -1 ≤ l.toInt → l.toInt < (km_i μ 5).toInt → 0 ≤ k.toInt → k.toInt ≤ 6 → 6 - k.toInt < (n : Int) → wX12_ruled_6 (wX12_ruled_65 Q) Q n w g r l k μ := by
    intro n
    induction n with
    | zero => intro l k h1 h2 h3 h4 h5; omega
    | succ n ih =>
      intro l k h1 h2 h3 h4 h5
      refine ⟨fun _ => ⟨20, ?_⟩, fun c => ?_⟩
      · have := L2 20 l 0 0 (km_a μ 57) (km_i μ 68) h1 h2 (by decide) (by decide) (by decide)
        rw [kv_self] at this
        exact this
      · rw [ki_le] at c
        have hk : vp_in k 6 := by rw [ki_in]; omega
        have ik := ki_inc (a := k) (by omega) (by omega)
        have N : ∀ l' : Int32, -1 ≤ l'.toInt → l'.toInt < (km_i μ 5).toInt → wX12_ruled_59 (wX12_ruled_6 (wX12_ruled_65 Q) Q n) Q w g r l' k μ := by
          intro l' g1 g2 v ev
          rw [ev]
          exact ih l' (k + 1) g1 g2 (by omega) (by omega) (by omega)
        refine ⟨hk, fun _ => N _ h1 h2, fun _ => ⟨fun _ => N _ (by omega) (by omega), fun d => ?_⟩⟩
        have d' : l.toInt ≠ -1 := fun x => d (ki_eq.2 (x.trans ki_zm.symm))
        exact ⟨hk, by rw [ki_in]; omega, fun _ => N _ h1 h2, fun _ => N _ (by omega) (by omega)⟩
  exact ⟨10, L1 10 (-1) 0 (by decide) (by rw [ki_zm]; omega) (by decide) (by decide) (by decide)⟩
end
section
/-- a log on the bank is marked as afloat: ready to be laid -/
theorem il_bank {σ : sz_T × Int32} {g : Int32} {μ : km_S} (H : ih_ σ μ) (h0 : 0 ≤ g.toInt) (h1 : g.toInt < (km_i μ 4).toInt) (hp : km_a μ 38 g.toNatClampNeg = 0) : il_ σ g.toNatClampNeg (km_sa μ 38 g.toNatClampNeg 1) ∧ im_free g (km_sa μ 38 g.toNatClampNeg 1) := by
  obtain ⟨⟨n1, n2, n3, n4, n5, n6, n7, n8⟩, hs⟩ := H
  obtain ⟨gn, egn⟩ : ∃ gn, gn = g.toNatClampNeg := ⟨_, rfl⟩
  have hgn : (gn : Int) = g.toInt := by rw [egn, ki_nat]; omega
  rw [← egn] at hp
  rw [← egn]
  refine ⟨⟨⟨n1, n2, ?_, ?_, ?_, ?_, n7, n8⟩, hs⟩, ?_⟩
  · intro q hq
    refine ⟨(n3 q hq).1, fun x hx => ?_⟩
    have o := (n3 q hq).2 x hx
    refine ⟨o.1, ?_, o.2.2.1, o.2.2.2⟩
    exact ku_r (P := fun y => y = 1) rfl o.2.1
  · intro q hq
    refine ⟨(n4 q hq).1, fun x hx => ?_⟩
    have o := (n4 q hq).2 x hx
    refine ⟨o.1, ?_, o.2.2.1, o.2.2.2⟩
    show upd (km_a μ 38) gn 1 (km_a μ 30 (100 * q + x)).toNatClampNeg = 2
    rw [ku_ne (fun e => ?_)]
    · exact o.2.1
    · have := o.2.1
      rw [e, hp] at this
      exact absurd this (by decide)
  · intro q hq
    have o := n5 q hq
    refine ⟨o.1, o.2.1, ?_, ?_⟩
    · show q ≠ gn → upd (km_a μ 38) gn 1 q = 1 → (0 ≤ (km_a μ 39 q).toInt ∧ (km_a μ 39 q).toInt < 10) ∧ (0 ≤ (km_a μ 40 q).toInt ∧ (km_a μ 40 q).toInt < 12)
      intro ne
      rw [ku_ne ne]
      exact o.2.2.1
    · show (km_i μ 4).toInt ≤ (q : Int) → upd (km_a μ 38) gn 1 q = 0
      intro hq2
      rw [ku_ne (by omega)]
      exact o.2.2.2 hq2
  · refine ⟨n6.1, ?_⟩
    show (km_i μ 6).toInt + 9 * (im_un (upd (km_a μ 38) gn 1) 400 : Int) ≤ 3600
    rw [im_un_eq (f := km_a μ 38) 400]
    · exact n6.2
    · intro x _
      by_cases e : x = gn
      · rw [e, ku_self, hp]
        exact ⟨fun h => absurd h (by decide), fun h => absurd h (by decide)⟩
      · rw [ku_ne e]
  · intro q hq x hx eg
    have o := ((n3 q hq).2 x hx).2.1
    have eg' : km_a μ 32 (20 * q + x) = g := eg
    rw [eg', ← egn, hp] at o
    exact absurd o (by decide)
theorem rz_let {g r c : Int32} {μ : km_S} (I : im_ μ) : wX12_let g r c μ (pu_ (sm_ μ)) := by
  intro μ1 e1
  have H : ih_ (sm_ μ, 0) μ1 := by rw [e1]; exact ⟨im_code 0 I, rfl⟩
  refine rz_isLog (fun _ => ⟨fun _ => rz_fail (ih_u H), fun n => absurd rfl n⟩) (fun a b => ⟨fun n => absurd n (by decide), fun _ => ?_⟩)
  have hg : vp_in g 400 := by have := H.1.1.2.1; rw [ki_in]; omega
  refine rz_isCell H.1 ⟨fun n => absurd rfl n, fun _ => rz_fail (ih_u H)⟩ (fun a2 b2 a3 b3 => ⟨fun _ => ⟨hg, fun hp => ?_, fun _ => ih_u H⟩, fun n => absurd n (by decide)⟩)
  have b10 := H.1.1.1
  refine rz_ruled H.1 hg (fun v S u => ⟨fun _ => ?_, fun _ => ih_u (ih_kv H)⟩)
  have H2 : ih_ (sm_ μ, 0) (kv_ μ1 S u) := ih_kv H
  have hp2 : km_a (kv_ μ1 S u) 38 g.toNatClampNeg = 0 := hp
  have b2' : g.toInt < (km_i (kv_ μ1 S u) 4).toInt := b
  generalize kv_ μ1 S u = μ2 at H2 hp2 b2'
  refine rz_isOpen H2.1.2.1 ⟨a2, by omega⟩ ⟨a3, b3⟩ ⟨fun n => absurd rfl n, fun _ => ih_u H2⟩ (fun hh => ⟨fun _ => ⟨hg, fun μ19 e19 => ?_⟩, fun n => absurd n (by decide)⟩)
  subst e19
  have B := il_bank H2 a b2' hp2
  exact rz_lay hg B.1 ku_self B.2 ⟨a2, by omega⟩ ⟨a3, b3⟩ hh (fun F A h => ih_u h)
end
section
/-- three arrays of the logs in others' place -/
def kd_ (μ : km_S) (P X Y : Nat → Int32) : km_S := (μ.1, fun j => if j = 38 then P else if j = 39 then X else if j = 40 then Y else μ.2.1 j, μ.2.2)
/-- a log that lies in no cell and no heap goes elsewhere -/
theorem ih_drop {σ : sz_T × Int32} {g : Int32} {μ : km_S} {P X Y : Nat → Int32} (hg : vp_in g 400) (H : ih_ σ μ) (hf : im_free g μ) (hp : km_a μ 38 g.toNatClampNeg = 1) (h1 : P g.toNatClampNeg ≠ 1) (h3 : P g.toNatClampNeg ≠ 3)
    (eP : ∀ q : Nat, q ≠ g.toNatClampNeg → P q = km_a μ 38 q) (eX : ∀ q : Nat, q ≠ g.toNatClampNeg → X q = km_a μ 39 q) (eY : ∀ q : Nat, q ≠ g.toNatClampNeg → Y q = km_a μ 40 q) : ih_ σ (kd_ μ P X Y) := by
  obtain ⟨⟨n1, n2, n3, n4, n5, n6, n7, n8⟩, hs⟩ := H
  have hg4 := ki_in.1 hg
  obtain ⟨gn, egn⟩ : ∃ gn, gn = g.toNatClampNeg := ⟨_, rfl⟩
  have hgn : (gn : Int) = g.toInt := by rw [egn, ki_nat]; omega
  rw [← egn] at hp h1 h3 eP eX eY
  have nn : ∀ v : Int32, v ≠ g → 0 ≤ v.toInt → v.toNatClampNeg ≠ gn := by
    intro v hv h1 h2
    rw [ki_nat] at h2
    exact hv (ki_eq.2 (by omega))
  refine ⟨⟨n1, n2, ?_, ?_, ?_, ?_, n7, n8⟩, hs⟩
  · intro q hq
    refine ⟨(n3 q hq).1, fun x hx => ?_⟩
    have o := (n3 q hq).2 x hx
    have ne := nn _ (hf q hq x hx) o.1.1
    refine ⟨o.1, (eP _ ne).trans o.2.1, ?_, o.2.2.2⟩
    show 12 * (X (km_a μ 32 (20 * q + x)).toNatClampNeg).toInt + (Y (km_a μ 32 (20 * q + x)).toNatClampNeg).toInt = (q : Int)
    rw [eX _ ne, eY _ ne]; exact o.2.2.1
  · intro q hq
    refine ⟨(n4 q hq).1, fun x hx => ?_⟩
    have o := (n4 q hq).2 x hx
    have ne : (km_a μ 30 (100 * q + x)).toNatClampNeg ≠ gn := by
      intro e
      have := o.2.1
      rw [e, hp] at this
      exact absurd this (by decide)
    refine ⟨o.1, (eP _ ne).trans o.2.1, ?_, o.2.2.2⟩
    show (X (km_a μ 30 (100 * q + x)).toNatClampNeg).toInt = (q : Int)
    rw [eX _ ne]; exact o.2.2.1
  · intro q hq
    have o := n5 q hq
    refine ⟨o.1, o.2.1, ?_, ?_⟩
    · show P q = 1 → (0 ≤ (X q).toInt ∧ (X q).toInt < 10) ∧ (0 ≤ (Y q).toInt ∧ (Y q).toInt < 12)
      by_cases e : q = gn
      · rw [e]; exact fun h => absurd h h1
      · rw [eP q e, eX q e, eY q e]; exact o.2.2.1
    · show (km_i μ 4).toInt ≤ (q : Int) → P q = 0
      intro hq2
      have z := o.2.2.2 hq2
      rw [eP q (fun e => ?_)]
      · exact z
      · rw [e, hp] at z
        exact absurd z (by decide)
  · refine ⟨n6.1, ?_⟩
    show (km_i μ 6).toInt + 9 * (im_un P 400 : Int) ≤ 3600
    rw [im_un_eq (f := km_a μ 38) 400]
    · exact n6.2
    · intro x _
      by_cases e : x = gn
      · rw [e, hp]
        exact ⟨fun h => absurd h h3, fun h => absurd h (by decide)⟩
      · rw [eP x e]
/-- what a log's going leaves of the others: their places, and the row at hand -/
def gf_ (σ : sz_T × Int32) (g : Nat) (μ μ' : km_S) : Prop := ih_ σ μ' ∧ (∀ q : Nat, q ≠ g → km_a μ' 38 q = km_a μ 38 q) ∧ km_a μ' 69 = km_a μ 69
theorem rz_leave134 {σ : sz_T × Int32} {g r : Int32} {μ : km_S} {Q : km_S → Prop} (H : ih_ σ μ) (hg : vp_in g 400) (hp : km_a μ 38 g.toNatClampNeg = 1) (hr : vp_in r 10) (kk : ∀ μ', gf_ σ g.toNatClampNeg μ μ' → Q μ') : wX12_leave_134 Q g r μ := by
  have hr4 := ki_in.1 hr
  have nx := (H.1.2.1 r.toNatClampNeg (by rw [ki_nat]; omega)).1
  refine ⟨hr, fun c => ⟨hr, ?_⟩, fun c => ?_⟩
  · have c' : (km_a μ 13 r.toNatClampNeg).toInt ≠ -1 := fun x => c (ki_eq.2 (x.trans ki_zm.symm))
    refine rz_isOpen H.1.2.1 ⟨by omega, by omega⟩ (by decide) ⟨fun _ => kk _ ⟨H, fun _ _ => rfl, rfl⟩, fun n => absurd rfl n⟩ (fun hh => ⟨fun n => absurd n (by decide), fun _ => ?_⟩)
    refine rz_lift H hg hp (fun F A H2 hf hA => ⟨hr, ?_⟩)
    have hat := im_at (r := km_a μ 13 r.toNatClampNeg) (c := 0) (by omega) (by omega) (by decide) (by decide)
    rw [ki_z0] at hat
    refine rz_lay hg (il_of H2) hp hf ⟨(by show 0 ≤ (km_a μ 13 r.toNatClampNeg).toInt; omega), (by show (km_a μ 13 r.toNatClampNeg).toInt < 10; omega)⟩ (by decide) ?_ (fun F' A' H3 => kk _ ⟨H3, fun _ _ => rfl, rfl⟩)
    show (A (12 * km_a μ 13 r.toNatClampNeg + 0).toNatClampNeg).toInt < 20
    have := hA (12 * km_a μ 13 r.toNatClampNeg + 0).toNatClampNeg (by rw [ki_nat]; omega)
    omega
  · refine rz_lift H hg hp (fun F A H2 hf hA => ⟨hg, fun μ12 e12 => ⟨hg, fun μ14 e14 => ⟨hg, fun μ16 e16 => ?_⟩⟩⟩)
    subst e16; subst e14; subst e12
    have D := ih_drop (P := upd (km_a μ 38) g.toNatClampNeg 4) (X := upd (km_a μ 39) g.toNatClampNeg (-1)) (Y := upd (km_a μ 40) g.toNatClampNeg (-1)) hg H2 hf hp (by rw [ku_self]; decide) (by rw [ku_self]; decide) (fun q hq => ku_ne hq) (fun q hq => ku_ne hq) (fun q hq => ku_ne hq)
    exact kk _ ⟨D, fun q hq => ku_ne hq, rfl⟩
end
section
/-! a part of what always holds, from one state to another that reads alike -/
theorem im_c_of {μ μ' : km_S} (a : km_a μ' 31 = km_a μ 31) (b : km_a μ' 32 = km_a μ 32) (c : km_a μ' 38 = km_a μ 38) (d : km_a μ' 39 = km_a μ 39) (e : km_a μ' 40 = km_a μ 40) (h : im_c μ) : im_c μ' := by
  unfold im_c
  rw [a, b, c, d, e]
  exact h
theorem im_g_of {μ μ' : km_S} (z : km_i μ' 4 = km_i μ 4) (a : km_a μ' 35 = km_a μ 35) (b : km_a μ' 36 = km_a μ 36) (c : km_a μ' 38 = km_a μ 38) (d : km_a μ' 39 = km_a μ 39) (e : km_a μ' 40 = km_a μ 40) (h : im_g μ) : im_g μ' := by
  unfold im_g
  rw [z, a, b, c, d, e]
  exact h
theorem im_s_of {μ μ' : km_S} (z : km_i μ' 6 = km_i μ 6) (c : km_a μ' 38 = km_a μ 38) (h : im_s μ) : im_s μ' := by
  unfold im_s
  rw [z, c]
  exact h
theorem ki_100 {r i : Int32} (h1 : 0 ≤ r.toInt) (h2 : r.toInt < 10) (h3 : 0 ≤ i.toInt) (h4 : i.toInt ≤ 100) : (100 * r + i).toInt = 100 * r.toInt + i.toInt := by
  have z : (100 : Int32).toInt = 100 := by decide
  have h : (100 * r).toInt = 100 * r.toInt := by rw [ki_mul (by rw [z]; omega) (by rw [z]; omega), z]
  rw [ki_add (by rw [h]; omega) (by rw [h]; omega), h]
/-- a log that lies in no cell comes onto its reach's heap -/
theorem ih_heap {σ : sz_T × Int32} {g r : Int32} {μ : km_S} (hg : vp_in g 400) (hr : vp_in r 10) (H : ih_ σ μ) (hf : im_free g μ) (hp : km_a μ 38 g.toNatClampNeg = 1) (hrr : km_a μ 39 g.toNatClampNeg = r) (hh : (km_a μ 29 r.toNatClampNeg).toInt < 100) :
    ih_ σ (km_sa (km_sa (km_sa (km_sa μ 30 (100 * r + km_a μ 29 r.toNatClampNeg).toNatClampNeg g) 29 r.toNatClampNeg (km_a μ 29 r.toNatClampNeg + 1)) 38 g.toNatClampNeg 2) 40 g.toNatClampNeg (-1)) := by
  have D := ih_drop (P := upd (km_a μ 38) g.toNatClampNeg 2) (X := km_a μ 39) (Y := upd (km_a μ 40) g.toNatClampNeg (-1)) hg H hf hp (by rw [ku_self]; decide) (by rw [ku_self]; decide) (fun q hq => ku_ne hq) (fun q _ => rfl) (fun q hq => ku_ne hq)
  obtain ⟨M, eM⟩ : ∃ M, M = km_sa (km_sa (km_sa (km_sa μ 30 (100 * r + km_a μ 29 r.toNatClampNeg).toNatClampNeg g) 29 r.toNatClampNeg (km_a μ 29 r.toNatClampNeg + 1)) 38 g.toNatClampNeg 2) 40 g.toNatClampNeg (-1) := ⟨_, rfl⟩
  have e29 : km_a M 29 = upd (km_a μ 29) r.toNatClampNeg (km_a μ 29 r.toNatClampNeg + 1) := by rw [eM]; rfl
  have e30 : km_a M 30 = upd (km_a μ 30) (100 * r + km_a μ 29 r.toNatClampNeg).toNatClampNeg g := by rw [eM]; rfl
  have e38 : km_a M 38 = upd (km_a μ 38) g.toNatClampNeg 2 := by rw [eM]; rfl
  have e39 : km_a M 39 = km_a μ 39 := by rw [eM]; rfl
  have e40 : km_a M 40 = upd (km_a μ 40) g.toNatClampNeg (-1) := by rw [eM]; rfl
  have r1 : im_n M ∧ im_r M ∧ im_w M ∧ im_l M ∧ (sm_ M, km_i M 1) = σ := by rw [eM]; exact ⟨H.1.1, H.1.2.1, H.1.2.2.2.2.2.2.1, H.1.2.2.2.2.2.2.2, H.2⟩
  have e31 : km_a M 31 = km_a μ 31 := by rw [eM]; rfl
  have e32 : km_a M 32 = km_a μ 32 := by rw [eM]; rfl
  have e35 : km_a M 35 = km_a μ 35 := by rw [eM]; rfl
  have e36 : km_a M 36 = km_a μ 36 := by rw [eM]; rfl
  have i4 : km_i M 4 = km_i μ 4 := by rw [eM]; rfl
  have i6 : km_i M 6 = km_i μ 6 := by rw [eM]; rfl
  rw [← eM]
  clear eM
  refine ⟨⟨r1.1, r1.2.1, im_c_of (μ := kd_ μ (upd (km_a μ 38) g.toNatClampNeg 2) (km_a μ 39) (upd (km_a μ 40) g.toNatClampNeg (-1))) e31 e32 e38 e39 e40 D.1.2.2.1, ?_, im_g_of (μ := kd_ μ (upd (km_a μ 38) g.toNatClampNeg 2) (km_a μ 39) (upd (km_a μ 40) g.toNatClampNeg (-1))) i4 e35 e36 e38 e39 e40 D.1.2.2.2.2.1, im_s_of (μ := kd_ μ (upd (km_a μ 38) g.toNatClampNeg 2) (km_a μ 39) (upd (km_a μ 40) g.toNatClampNeg (-1))) i6 e38 D.1.2.2.2.2.2.1, r1.2.2.1, r1.2.2.2.1⟩, r1.2.2.2.2⟩
  unfold im_h
  rw [e29, e30, e38, e39]
  have n4 := H.1.2.2.2.1
  have hr4 := ki_in.1 hr
  have hg4 := ki_in.1 hg
  obtain ⟨gn, egn⟩ : ∃ gn, gn = g.toNatClampNeg := ⟨_, rfl⟩
  have hgn : (gn : Int) = g.toInt := by rw [egn, ki_nat]; omega
  obtain ⟨rn, ern⟩ : ∃ rn, rn = r.toNatClampNeg := ⟨_, rfl⟩
  have hrn : (rn : Int) = r.toInt := by rw [ern, ki_nat]; omega
  rw [← egn] at hp hrr
  rw [← ern] at hh
  rw [← egn, ← ern]
  have b := (n4 rn (by omega)).1
  have h100 := ki_100 (r := r) (i := km_a μ 29 rn) (by omega) (by omega) (by omega) (by omega)
  obtain ⟨y, ey⟩ : ∃ y, y = (km_a μ 29 rn).toNatClampNeg := ⟨_, rfl⟩
  have hy : (y : Int) = (km_a μ 29 rn).toInt := by rw [ey, ki_nat]; omega
  have pt : (100 * r + km_a μ 29 rn).toNatClampNeg = 100 * rn + y := by rw [ki_nat, h100]; omega
  have inc := ki_inc (a := km_a μ 29 rn) (by omega) (by omega)
  rw [pt]
  obtain ⟨F, eF⟩ : ∃ F, F = upd (km_a μ 30) (100 * rn + y) g := ⟨_, rfl⟩
  obtain ⟨A, eA⟩ : ∃ A, A = upd (km_a μ 29) rn (km_a μ 29 rn + 1) := ⟨_, rfl⟩
  have A0 : ∀ q : Nat, q ≠ rn → A q = km_a μ 29 q := fun q hq => by rw [eA, ku_ne hq]
  have A1 : (A rn).toInt = (km_a μ 29 rn).toInt + 1 := by rw [eA, ku_self, inc]
  have F1 : F (100 * rn + y) = g := by rw [eF, ku_self]
  have F0 : ∀ p : Nat, p ≠ 100 * rn + y → F p = km_a μ 30 p := fun p hq => by rw [eF, ku_ne hq]
  intro q hq
  rw [← eF, ← eA]
  have o := n4 q hq
  have old : ∀ x : Nat, (x : Int) < (km_a μ 29 q).toInt → km_a μ 30 (100 * q + x) ≠ g := by
    intro x hx e
    have := (o.2 x hx).2.1
    rw [e, ← egn, hp] at this
    exact absurd this (by decide)
  by_cases e : q = rn
  · subst e
    rw [A1]
    refine ⟨by omega, fun x hx => ?_⟩
    by_cases ex : x = y
    · rw [ex, F1, ← egn, ku_self, hrr]
      refine ⟨by omega, rfl, by omega, fun j hj ej => ?_⟩
      by_cases ejy : j = y
      · exact ejy
      · rw [F0 _ (by omega)] at ej
        exact absurd ej (old j (by omega))
    · have o2 := o.2 x (by omega)
      rw [F0 _ (by omega)]
      refine ⟨o2.1, ku_r (P := fun z => z = 2) rfl o2.2.1, o2.2.2.1, fun j hj ej => ?_⟩
      by_cases ejy : j = y
      · rw [ejy, F1] at ej
        exact absurd ej.symm (old x (by omega))
      · rw [F0 _ (by omega)] at ej
        exact o2.2.2.2 j (by omega) ej
  · rw [A0 q e]
    refine ⟨o.1, fun x hx => ?_⟩
    have o2 := o.2 x hx
    have same : ∀ z : Nat, (z : Int) < (km_a μ 29 q).toInt → F (100 * q + z) = km_a μ 30 (100 * q + z) := fun z hz => F0 _ (by omega)
    rw [same x hx]
    refine ⟨o2.1, ku_r (P := fun z => z = 2) rfl o2.2.1, o2.2.2.1, fun j hj ej => ?_⟩
    rw [same j hj] at ej
    exact o2.2.2.2 j hj ej
theorem rz_leave113 {σ : sz_T × Int32} {g r : Int32} {μ : km_S} {Q : km_S → Prop} (H : ih_ σ μ) (hg : vp_in g 400) (hp : km_a μ 38 g.toNatClampNeg = 1) (hr : vp_in r 10) (kk : ∀ μ', gf_ σ g.toNatClampNeg μ μ' → Q μ') : wX12_leave_113 Q g r μ :=
  ⟨hr, fun _ => rz_leave134 H hg hp hr kk, fun _ => ⟨hr, fun _ => rz_leave134 H hg hp hr kk, fun _ => kk _ ⟨H, fun _ _ => rfl, rfl⟩⟩⟩
theorem rz_leave {σ : sz_T × Int32} {g r : Int32} {μ : km_S} {Q : km_S → Prop} (H : ih_ σ μ) (hg : vp_in g 400) (hp : km_a μ 38 g.toNatClampNeg = 1) (hrr : km_a μ 39 g.toNatClampNeg = r) (hr : vp_in r 10) (kk : ∀ μ', gf_ σ g.toNatClampNeg μ μ' → Q μ') : wX12_leave g r μ Q := by
  have hr4 := ki_in.1 hr
  have hg4 := ki_in.1 hg
  have hm := (H.1.2.2.2.2.1 g.toNatClampNeg (by rw [ki_nat]; omega)).1
  have hm16 : vp_in (km_a μ 35 g.toNatClampNeg) 16 := by rw [ki_in]; omega
  have hbr := (H.1.2.1 r.toNatClampNeg (by rw [ki_nat]; omega)).2.2.2.1
  have hhp := (H.1.2.2.2.1 r.toNatClampNeg (by rw [ki_nat]; omega)).1
  refine ⟨hr, fun _ => rz_leave113 H hg hp hr kk, fun _ => ⟨hr, hg, fun _ => rz_leave113 H hg hp hr kk, fun _ => ⟨hr, hr, fun c => ?_, fun _ => kk _ ⟨H, fun _ _ => rfl, rfl⟩⟩⟩⟩
  rw [ki_lt] at c
  have h100 := ki_100 (r := r) (i := km_a μ 29 r.toNatClampNeg) (by omega) (by omega) (by omega) (by omega)
  refine rz_lift H hg hp (fun F A H2 hf hA => ⟨hr, (by show vp_in (100 * r + km_a μ 29 r.toNatClampNeg) 1000; rw [ki_in]; omega), fun μ32 e32 => ⟨hr, hr, fun μ35 e35 => ⟨hg, fun μ37 e37 => ⟨hg, fun μ39 e39 => ?_⟩⟩⟩⟩)
  have D := ih_heap hg hr H2 hf hp hrr (by show (km_a μ 29 r.toNatClampNeg).toInt < 100; omega)
  subst e39; subst e37; subst e35; subst e32
  refine ⟨hg, hm16, rz_ruled D.1 hg (fun v S u => ⟨hm16, fun μ45 e45 => ?_⟩)⟩
  rw [e45]
  exact kk _ ⟨ih_sp (ih_kv D), fun q hq => ku_ne hq, rfl⟩
end
section
theorem gf_trans {σ : sz_T × Int32} {g : Nat} {a b c : km_S} (h1 : gf_ σ g a b) (h2 : gf_ σ g b c) : gf_ σ g a c := ⟨h2.1, fun q hq => (h2.2.1 q hq).trans (h1.2.1 q hq), h2.2.2.trans h1.2.2⟩
theorem rz_go {σ : sz_T × Int32} {g : Int32} {μ : km_S} {Q : km_S → Prop} (H : ih_ σ μ) (hg : vp_in g 400) (hp : km_a μ 38 g.toNatClampNeg = 1) (kk : ∀ μ', gf_ σ g.toNatClampNeg μ μ' → Q μ') : wX12_go g μ Q := by
  have hg4 := ki_in.1 hg
  have hgn : g.toNatClampNeg < 400 := by rw [ki_nat]; omega
  have z6 : (6 : Int32).toInt = 6 := by decide
  refine ⟨hg, fun r er => ?_⟩
  have hr0 := ((H.1.2.2.2.2.1 g.toNatClampNeg hgn).2.2.1 hp).1
  rw [← er] at hr0
  have hr : vp_in r 10 := by rw [ki_in]; omega
  refine ⟨hr, fun v ev => ⟨10, ?_⟩⟩
  have hv : v.toInt ≤ 6 := by
    rw [ev]
    split
    · rename_i q
      rw [ki_lt, z6] at q; omega
    · rw [z6]; omega
  have L : ∀ (n : Nat) (k : Int32) (μ2 : km_S), 0 ≤ k.toInt → k.toInt ≤ 6 → 6 - k.toInt < (n : Int) → gf_ σ g.toNatClampNeg μ μ2 → km_a μ2 38 g.toNatClampNeg = 1 → km_a μ2 39 g.toNatClampNeg = r → wX12_go_25 (wX12_go_98 Q) Q n g r v k μ2 := by
    intro n
    induction n with
    | zero => intro k μ2 h1 h2 h3; omega
    | succ n ih =>
      intro k μ2 h1 h2 h3 G hp2 hr2
      refine ⟨fun _ => kk _ G, fun c => ⟨hg, fun w ew => ?_⟩⟩
      rw [ki_le] at c
      have hc := ((G.1.1.2.2.2.2.1 g.toNatClampNeg hgn).2.2.1 hp2).2
      rw [← ew] at hc
      have hat := im_at hr0.1 hr0.2 hc.1 hc.2
      have hK : vp_in (12 * r + w) 120 := by rw [ki_in]; omega
      have wi := ki_inc (a := w) (by omega) (by omega)
      have ki := ki_inc (a := k) (by omega) (by omega)
      have hl := (G.1.1.2.1 r.toNatClampNeg (by have := ki_in.1 hr; rw [ki_nat]; omega)).2.1
      refine ⟨hK, fun _ => ⟨hr, fun _ => ?_, fun d => ?_⟩, fun _ => kk _ G⟩
      · exact rz_leave G.1 hg hp2 hr2 hr (fun μ' G' => kk _ (gf_trans G G'))
      · rw [ki_le] at d
        have hat1 := im_at (c := w + 1) hr0.1 hr0.2 (by omega) (by omega)
        refine rz_isOpen G.1.1.2.1 hr0 ⟨by omega, by omega⟩ ⟨fun n => absurd rfl n, fun _ => kk _ G⟩ (fun hh => ⟨fun _ => ?_, fun n => absurd n (by decide)⟩)
        refine rz_lift G.1 hg hp2 (fun F A H2 hf hA => ?_)
        refine rz_lay hg (il_of H2) hp2 hf hr0 ⟨by omega, by omega⟩ ?_ (fun F' A' H3 x ex => ?_)
        · show (A (12 * r + (w + 1)).toNatClampNeg).toInt < 20
          have := hA (12 * r + (w + 1)).toNatClampNeg (by rw [ki_nat]; omega)
          omega
        · rw [ex]
          exact ih (k + 1) _ (by omega) (by omega) (by omega) (gf_trans G ⟨H3, fun _ _ => rfl, rfl⟩) hp2 ku_self
  exact L 10 0 μ (by decide) (by decide) (by decide) ⟨H, fun _ _ => rfl, rfl⟩ hp er.symm
theorem ih_sa41 {σ : sz_T × Int32} {μ : km_S} {i : Nat} {v : Int32} (h : ih_ σ μ) : ih_ σ (km_sa μ 41 i v) := h
theorem rz_older {σ : sz_T × Int32} {μ : km_S} {Q : km_S → Prop} (H : ih_ σ μ) (kk : ∀ μ', ih_ σ μ' → Q μ') : wX12_older μ Q := by
  have L : ∀ (n : Nat) (g : Int32) (μ2 : km_S), 0 ≤ g.toInt → g.toInt ≤ 400 → 400 - g.toInt < (n : Int) → ih_ σ μ2 → wX12_older_2 Q n g μ2 := by
    intro n
    induction n with
    | zero => intro g μ2 h1 h2 h3; omega
    | succ n ih =>
      intro g μ2 h1 h2 h3 H2
      have b := H2.1.1.2.1
      refine ⟨fun _ => kk _ H2, fun c => ?_⟩
      rw [ki_le] at c
      have hg : vp_in g 400 := by rw [ki_in]; omega
      have gi := ki_inc (a := g) (by omega) (by omega)
      have N : ∀ μ', ih_ σ μ' → wX12_older_66 (wX12_older_2 Q n) Q g μ' := by
        intro μ' H' v ev
        rw [ev]
        exact ih (g + 1) μ' (by omega) (by omega) (by omega) H'
      refine ⟨hg, fun hp => ⟨hg, hg, fun μ7 e7 => ⟨hg, hg, fun _ => ?_, fun _ => N _ (by rw [e7]; exact ih_sa41 H2)⟩⟩, fun _ => N _ H2⟩
      have H7 : ih_ σ μ7 := by rw [e7]; exact ih_sa41 H2
      have hp7 : km_a μ7 38 g.toNatClampNeg = 1 := by rw [e7]; exact hp
      clear e7
      refine rz_lift H7 hg hp7 (fun F A H3 hf hA => ⟨hg, fun μ13 e13 => N _ ?_⟩)
      have D := ih_drop (P := upd (km_a μ7 38) g.toNatClampNeg 5) (X := km_a μ7 39) (Y := km_a μ7 40) hg H3 hf hp7 (by rw [ku_self]; decide) (by rw [ku_self]; decide) (fun q hq => ku_ne hq) (fun q _ => rfl) (fun q _ => rfl)
      have e : kd_ (kk_ μ7 F A) (upd (km_a μ7 38) g.toNatClampNeg 5) (km_a μ7 39) (km_a μ7 40) = km_sa (kk_ μ7 F A) 38 g.toNatClampNeg 5 := by
        refine Prod.ext rfl (Prod.ext ?_ rfl)
        funext j
        show (if j = 38 then _ else if j = 39 then _ else if j = 40 then _ else _) = (if j = 38 then _ else _)
        by_cases a : j = 38
        · rw [if_pos a, if_pos a]; rfl
        · rw [if_neg a, if_neg a]
          by_cases b : j = 39
          · rw [if_pos b, b]; rfl
          · rw [if_neg b]
            by_cases c : j = 40
            · rw [if_pos c, c]; rfl
            · rw [if_neg c]
      rw [e13, ← e]
      exact D
  exact ⟨500, L 500 0 μ (by decide) (by decide) (by decide) H⟩
end
section
def kr_ (μ : km_S) (R : Nat → Int32) : km_S := (μ.1, fun j => if j = 69 then R else μ.2.1 j, μ.2.2)
theorem kr_69 {μ : km_S} {R : Nat → Int32} {v : Int32} {p : Nat} : km_sa (kr_ μ R) 69 p v = kr_ μ (upd R p v) := by
  refine Prod.ext rfl (Prod.ext ?_ rfl)
  funext j
  show (if j = 69 then _ else if j = 69 then R else μ.2.1 j) = (if j = 69 then _ else μ.2.1 j)
  by_cases a : j = 69
  · rw [if_pos a, if_pos a]; rfl
  · rw [if_neg a, if_neg a, if_neg a]
theorem kr_id (μ : km_S) : kr_ μ (km_a μ 69) = μ := by
  refine Prod.ext rfl (Prod.ext ?_ rfl)
  funext j
  show (if j = 69 then _ else _) = _
  by_cases a : j = 69
  · rw [if_pos a, a]; rfl
  · rw [if_neg a]
theorem ih_kr {σ : sz_T × Int32} {μ : km_S} {R : Nat → Int32} (h : ih_ σ μ) : ih_ σ (kr_ μ R) := h
theorem rz_move75 {σ : sz_T × Int32} {k99 : Int32 → Int32 → km_S → Prop} {Q : km_S → Prop} {l1 l2 h : Int32} {R : Nat → Int32} (hh : h.toInt ≤ 20) (hv : ∀ a : Nat, (a : Int) < h.toInt → 0 ≤ (R a).toInt ∧ (R a).toInt < 400) (hd : ∀ a b : Nat, (a : Int) < h.toInt → (b : Int) < h.toInt → R b = R a → b = a) (kk : ∀ μ', ih_ σ μ' → k99 l1 l2 μ') :
    ∀ (n : Nat) (i : Int32) (μ : km_S), 0 ≤ i.toInt → i.toInt ≤ 20 → 20 - i.toInt < (n : Int) → ih_ σ μ → km_a μ 69 = R → (∀ a : Nat, i.toInt ≤ (a : Int) → (a : Int) < h.toInt → km_a μ 38 (R a).toNatClampNeg = 1) → wX12_move_75 k99 Q n l1 l2 h i μ := by
  intro n
  induction n with
  | zero => intro i μ h1 h2 h3; omega
  | succ n ih =>
    intro i μ h1 h2 h3 H e hp
    refine ⟨fun _ => kk _ H, fun c => ?_⟩
    rw [ki_le] at c
    have ii := ki_inc (a := i) (by omega) (by omega)
    obtain ⟨x, ex⟩ : ∃ x, x = i.toNatClampNeg := ⟨_, rfl⟩
    have hx : (x : Int) = i.toInt := by rw [ex, ki_nat]; omega
    refine ⟨by rw [ki_in]; omega, ?_⟩
    rw [e, ← ex]
    have v := hv x (by omega)
    refine rz_go H (by rw [ki_in]; omega) (hp x (by omega) (by omega)) (fun μ' G w ew => ?_)
    rw [ew]
    refine ih (i + 1) μ' (by omega) (by omega) (by omega) G.1 (G.2.2.trans e) (fun a ha hb => ?_)
    rw [G.2.1 _ (fun q => ?_)]
    · exact hp a (by omega) hb
    · have va := hv a hb
      rw [ki_nat, ki_nat] at q
      have := hd x a (by omega) hb (ki_eq.2 (by omega))
      omega
theorem rz_move {σ : sz_T × Int32} {μ : km_S} {Q : km_S → Prop} (H : ih_ σ μ) (kk : ∀ μ', ih_ σ μ' → Q μ') : wX12_move μ Q := by
  have L19 : ∀ (K : Int32 → km_S → Prop) (r : Int32), vp_in r 10 → (∀ μ', ih_ σ μ' → K r μ') → ∀ (n : Nat) (c : Int32) (μ2 : km_S), -1 ≤ c.toInt → c.toInt < 12 → c.toInt + 1 < (n : Int) → ih_ σ μ2 → wX12_move_19 K Q n r c μ2 := by
    intro K r hr hK n
    have hr4 := ki_in.1 hr
    induction n with
    | zero => intro c μ2 h1 h2 h3; omega
    | succ n ih =>
      intro c μ2 h1 h2 h3 H2
      refine ⟨fun _ => hK _ H2, fun q => ?_⟩
      rw [ki_lt, ki_z0] at q
      have hat := im_at (r := r) (c := c) (by omega) (by omega) (by omega) (by omega)
      obtain ⟨X, eX⟩ : ∃ X, X = 12 * r + c := ⟨_, rfl⟩
      show vp_in (12 * r + c) 120 ∧ _
      rw [← eX] at hat
      rw [← eX]
      have hX : vp_in X 120 := by rw [ki_in]; omega
      refine ⟨hX, fun h eh => ⟨30, ?_⟩⟩
      obtain ⟨k, ek⟩ : ∃ k, k = X.toNatClampNeg := ⟨_, rfl⟩
      have hk : (k : Int) = X.toInt := by rw [ek, ki_nat]; omega
      have o := H2.1.2.2.1 k (by omega)
      rw [← ek] at eh
      rw [← eh] at o
      have cd := ki_dec (a := c) (by omega)
      have L40 : ∀ (m : Nat) (i : Int32) (R : Nat → Int32), 0 ≤ i.toInt → i.toInt ≤ h.toInt → h.toInt - i.toInt < (m : Int) → (∀ a : Nat, (a : Int) < i.toInt → R a = km_a μ2 32 (20 * k + a)) → wX12_move_40 (wX12_move_72 (wX12_move_19 K Q n) Q) Q m r c X h i (kr_ μ2 R) := by
        intro m
        induction m with
        | zero => intro i R g1 g2 g3; omega
        | succ m ihm =>
          intro i R g1 g2 g3 g4
          refine ⟨fun d => ⟨30, ?_⟩, fun d => ?_⟩
          · rw [ki_le] at d
            refine rz_move75 (σ := σ) (R := R) (by omega) (fun a ha => ?_) (fun a b ha hb e => ?_) (fun μ' H' v ev => ?_) 30 0 (kr_ μ2 R) (by decide) (by decide) (by decide) (ih_kr H2) rfl (fun a _ ha => ?_)
            · rw [g4 a (by omega)]; exact (o.2 a ha).1
            · rw [g4 a (by omega), g4 b (by omega)] at e
              exact (o.2 a ha).2.2.2 b hb e
            · rw [ev]
              exact ih (c + -1) μ' (by omega) (by omega) (by omega) H'
            · rw [g4 a (by omega)]; exact (o.2 a ha).2.1
          · rw [ki_le] at d
            have h20 := ki_20 (k := X) (i := i) (by omega) (by omega) (by omega) (by omega)
            obtain ⟨x, ex⟩ : ∃ x, x = i.toNatClampNeg := ⟨_, rfl⟩
            have hx : (x : Int) = i.toInt := by rw [ex, ki_nat]; omega
            have pi : (20 * X + i).toNatClampNeg = 20 * k + x := by rw [ki_nat, h20]; omega
            have ii := ki_inc (a := i) (by omega) (by omega)
            refine ⟨by rw [ki_in]; omega, by rw [ki_in]; omega, fun μ11 e11 v ev => ?_⟩
            rw [e11, ev, kr_69, pi, ← ex]
            refine ihm (i + 1) _ (by omega) (by omega) (by omega) (fun a ha => ?_)
            by_cases e : a = x
            · rw [e, ku_self]; rfl
            · rw [ku_ne e]; exact g4 a (by omega)
      have := L40 30 0 (km_a μ2 69) (by decide) (by rw [ki_z0]; omega) (by rw [ki_z0]; omega) (fun a ha => by rw [ki_z0] at ha; omega)
      rw [kr_id] at this
      exact this
  have L2 : ∀ (n : Nat) (r : Int32) (μ2 : km_S), 0 ≤ r.toInt → r.toInt ≤ 10 → 10 - r.toInt < (n : Int) → ih_ σ μ2 → wX12_move_2 Q n r μ2 := by
    intro n
    induction n with
    | zero => intro r μ2 h1 h2 h3; omega
    | succ n ih =>
      intro r μ2 h1 h2 h3 H2
      have b := H2.1.1.1
      refine ⟨fun _ => kk _ H2, fun c => ?_⟩
      rw [ki_le] at c
      have hr : vp_in r 10 := by rw [ki_in]; omega
      have ri := ki_inc (a := r) (by omega) (by omega)
      have hl := (H2.1.2.1 r.toNatClampNeg (by rw [ki_nat]; omega)).2.1
      have ld := ki_dec2 (a := km_a μ2 14 r.toNatClampNeg) (by omega)
      refine ⟨hr, fun v ev => ⟨20, ?_⟩⟩
      rw [ev]
      refine L19 _ r hr (fun μ' H' w ew => ?_) 20 _ μ2 (by omega) (by omega) (by omega) H2
      rw [ew]
      exact ih (r + 1) μ' (by omega) (by omega) (by omega) H'
  exact ⟨20, L2 20 0 μ (by decide) (by decide) (by decide) H⟩
end
section
/-! the hour's jams: only what is jammed, what is known, and when crews freed -/
theorem ih_sa33 {σ : sz_T × Int32} {μ : km_S} {i : Nat} {v : Int32} (h : ih_ σ μ) : ih_ σ (km_sa μ 33 i v) := h
theorem ih_sa34 {σ : sz_T × Int32} {μ : km_S} {i : Nat} {v : Int32} (h : ih_ σ μ) : ih_ σ (km_sa μ 34 i v) := h
theorem ih_sa46 {σ : sz_T × Int32} {μ : km_S} {i : Nat} {v : Int32} (h : ih_ σ μ) : ih_ σ (km_sa μ 46 i v) := h
theorem im_len {σ : sz_T × Int32} {μ : km_S} {r : Int32} (hr : vp_in r 10) (H : ih_ σ μ) : (km_a μ 14 r.toNatClampNeg).toInt ≤ 12 := by
  have := ki_in.1 hr
  exact (H.1.2.1 r.toNatClampNeg (by rw [ki_nat]; omega)).2.1.2
theorem im_at0 {r c : Int32} (hr : vp_in r 10) (h1 : 0 ≤ c.toInt) (h2 : c.toInt < 12) : vp_in (12 * r + c) 120 := by
  have := ki_in.1 hr
  rw [ki_in, im_at (by omega) (by omega) h1 h2]; omega
theorem rz_jams12 {σ : sz_T × Int32} {K : Int32 → km_S → Prop} {Q : km_S → Prop} {r : Int32} (hr : vp_in r 10) (kk : ∀ μ', ih_ σ μ' → K r μ') :
    ∀ (n : Nat) (c : Int32) (μ : km_S), 0 ≤ c.toInt → c.toInt ≤ 12 → 12 - c.toInt < (n : Int) → ih_ σ μ → wX12_jams_12 K Q n r c μ := by
  intro n
  induction n with
  | zero => intro c μ h1 h2 h3; omega
  | succ n ih =>
    intro c μ h1 h2 h3 H
    have hl := im_len hr H
    refine ⟨hr, fun _ => kk _ H, fun d => ?_⟩
    rw [ki_le] at d
    have hX := im_at0 hr h1 (by omega)
    have ci := ki_inc (a := c) (by omega) (by omega)
    have N : ∀ μ', ih_ σ μ' → wX12_jams_67 (wX12_jams_12 K Q n) Q r c μ' := fun μ' H' v ev => by
      rw [ev]; exact ih (c + 1) μ' (by omega) (by omega) (by omega) H'
    exact ⟨hX, hr, fun _ => N _ H, fun _ => ⟨hr, hr, fun _ => N _ H, fun _ => ⟨hX, fun μ2 e2 => N _ (by rw [e2]; exact ih_sa33 H)⟩⟩⟩
theorem rz_jams101 {σ : sz_T × Int32} {K : Int32 → Int32 → Int32 → km_S → Prop} {Q : km_S → Prop} {l r : Int32} (hr : vp_in r 10) (kk : ∀ (w : Int32) μ', -1 ≤ w.toInt → w.toInt < 12 → ih_ σ μ' → K l r w μ') :
    ∀ (n : Nat) (w c : Int32) (μ : km_S), -1 ≤ w.toInt → w.toInt < 12 → 0 ≤ c.toInt → c.toInt ≤ 12 → 12 - c.toInt < (n : Int) → ih_ σ μ → wX12_jams_101 K Q n l r w c μ := by
  intro n
  induction n with
  | zero => intro w c μ g1 g2 h1 h2 h3; omega
  | succ n ih =>
    intro w c μ g1 g2 h1 h2 h3 H
    have hl := im_len hr H
    refine ⟨hr, fun _ => kk _ _ g1 g2 H, fun d => ?_⟩
    rw [ki_le] at d
    have hX := im_at0 hr h1 (by omega)
    have ci := ki_inc (a := c) (by omega) (by omega)
    have N : ∀ w' : Int32, -1 ≤ w'.toInt → w'.toInt < 12 → wX12_jams_129 (wX12_jams_101 K Q n) Q l r w' c μ := fun w' q1 q2 v ev => by
      rw [ev]; exact ih w' (c + 1) μ q1 q2 (by omega) (by omega) (by omega) H
    exact ⟨hX, fun _ => N _ g1 g2, fun _ => N _ (by omega) (by omega)⟩
theorem rz_jams258 {σ : sz_T × Int32} {K : Int32 → km_S → Prop} {Q : km_S → Prop} {r s : Int32} (hr : vp_in r 10) (kk : ∀ μ', ih_ σ μ' → K r μ') :
    ∀ (n : Nat) (c : Int32) (μ : km_S), 0 ≤ c.toInt → c.toInt ≤ 12 → 12 - c.toInt < (n : Int) → ih_ σ μ → wX12_jams_258 K Q n r s c μ := by
  intro n
  induction n with
  | zero => intro c μ h1 h2 h3; omega
  | succ n ih =>
    intro c μ h1 h2 h3 H
    have hl := im_len hr H
    refine ⟨hr, fun _ => kk _ H, fun d => ⟨fun _ => kk _ H, fun _ => ?_⟩⟩
    rw [ki_le] at d
    have hX := im_at0 hr h1 (by omega)
    have ci := ki_inc (a := c) (by omega) (by omega)
    have N : ∀ μ', ih_ σ μ' → wX12_jams_296 (wX12_jams_258 K Q n) Q r s c μ' := fun μ' H' v ev => by
      rw [ev]; exact ih (c + 1) μ' (by omega) (by omega) (by omega) H'
    exact ⟨hX, fun _ => N _ H, fun _ => ⟨hX, fun μ2 e2 => N _ (by rw [e2]; exact ih_sa34 H)⟩⟩
theorem rz_jams230 {σ : sz_T × Int32} {K : Int32 → Int32 → km_S → Prop} {Q : km_S → Prop} {r : Int32} {μ : km_S} (H : ih_ σ μ) (kk : ∀ s, K r s μ) :
    ∀ (n : Nat) (s k : Int32), 0 ≤ k.toInt → k.toInt ≤ 6 → 6 - k.toInt < (n : Int) → wX12_jams_230 K Q n r s k μ := by
  intro n
  induction n with
  | zero => intro s k h1 h2 h3; omega
  | succ n ih =>
    intro s k h1 h2 h3
    have b := H.1.1.2.2.2.1
    refine ⟨fun _ => kk _, fun d => ?_⟩
    rw [ki_le] at d
    have ci := ki_inc (a := k) (by omega) (by omega)
    have N : ∀ s', wX12_jams_250 (wX12_jams_230 K Q n) Q r s' k μ := fun s' v ev => by
      rw [ev]; exact ih s' (k + 1) (by omega) (by omega) (by omega)
    exact ⟨by rw [ki_in]; omega, fun _ => N _, fun _ => N _⟩
theorem rz_jams {σ : sz_T × Int32} {μ : km_S} {Q : km_S → Prop} (H : ih_ σ μ) (kk : ∀ μ', ih_ σ μ' → Q μ') : wX12_jams μ Q := by
  have L3 : ∀ (n : Nat) (r : Int32) (μ2 : km_S), 0 ≤ r.toInt → r.toInt ≤ 10 → 10 - r.toInt < (n : Int) → ih_ σ μ2 → wX12_jams_213 Q n r μ2 := by
    intro n
    induction n with
    | zero => intro r μ2 h1 h2 h3; omega
    | succ n ih =>
      intro r μ2 h1 h2 h3 H2
      have b := H2.1.1.1
      refine ⟨fun _ => kk _ H2, fun c => ?_⟩
      rw [ki_le] at c
      have hr : vp_in r 10 := by rw [ki_in]; omega
      have ri := ki_inc (a := r) (by omega) (by omega)
      refine ⟨hr, fun v ev => ⟨20, rz_jams230 H2 (fun s => ⟨20, rz_jams258 hr (fun μ' H' w ew => ?_) 20 0 μ2 (by decide) (by decide) (by decide) H2⟩) 20 v 0 (by decide) (by decide) (by decide)⟩⟩
      rw [ew]
      exact ih (r + 1) μ' (by omega) (by omega) (by omega) H'
  have L2 : ∀ (n : Nat) (k : Int32) (μ2 : km_S), 0 ≤ k.toInt → k.toInt ≤ 6 → 6 - k.toInt < (n : Int) → ih_ σ μ2 → wX12_jams_81 (wX12_jams_211 Q) Q n k μ2 := by
    intro n
    induction n with
    | zero => intro r μ2 h1 h2 h3; omega
    | succ n ih =>
      intro k μ2 h1 h2 h3 H2
      have b := H2.1.1.2.2.2.1
      refine ⟨fun _ => ⟨20, L3 20 0 μ2 (by decide) (by decide) (by decide) H2⟩, fun c => ?_⟩
      rw [ki_le] at c
      have hk : vp_in k 6 := by rw [ki_in]; omega
      have ri := ki_inc (a := k) (by omega) (by omega)
      refine ⟨hk, fun v ev => ⟨20, ?_⟩⟩
      have hw := H2.1.2.2.2.2.2.2.1 k.toNatClampNeg (by rw [ki_nat]; omega)
      rw [← ev] at hw
      have hr : vp_in v 10 := by rw [ki_in]; omega
      refine rz_jams101 hr (fun w μ' w1 w2 H' => ?_) 20 (-1) 0 μ2 (by decide) (by decide) (by decide) (by decide) (by decide) H2
      have N : ∀ μ', ih_ σ μ' → wX12_jams_205 (wX12_jams_81 (wX12_jams_211 Q) Q n) Q k μ' := fun μ' H' x ex => by
        rw [ex]; exact ih (k + 1) μ' (by omega) (by omega) (by omega) H'
      refine ⟨fun _ => N _ H', fun d => ⟨hk, fun _ => N _ H', fun _ => ⟨hk, fun _ => ?_, fun _ => N _ H'⟩⟩⟩
      have d' : w.toInt ≠ -1 := fun x => d (ki_eq.2 (x.trans ki_zm.symm))
      have hX := im_at0 (c := w) hr (by omega) w2
      refine ⟨hX, fun μ3 e3 => ⟨hX, fun μ4 e4 => ⟨hk, fun μ5 e5 => N _ ?_⟩⟩⟩
      rw [e5, e4, e3]
      exact ih_sa46 (ih_sa34 (ih_sa33 H'))
  have L1 : ∀ (n : Nat) (r : Int32) (μ2 : km_S), 0 ≤ r.toInt → r.toInt ≤ 10 → 10 - r.toInt < (n : Int) → ih_ σ μ2 → wX12_jams_2 (wX12_jams_79 Q) Q n r μ2 := by
    intro n
    induction n with
    | zero => intro r μ2 h1 h2 h3; omega
    | succ n ih =>
      intro r μ2 h1 h2 h3 H2
      have b := H2.1.1.1
      refine ⟨fun _ => ⟨20, L2 20 0 μ2 (by decide) (by decide) (by decide) H2⟩, fun c => ?_⟩
      rw [ki_le] at c
      have hr : vp_in r 10 := by rw [ki_in]; omega
      have ri := ki_inc (a := r) (by omega) (by omega)
      refine ⟨20, rz_jams12 hr (fun μ' H' w ew => ?_) 20 0 μ2 (by decide) (by decide) (by decide) H2⟩
      rw [ew]
      exact ih (r + 1) μ' (by omega) (by omega) (by omega) H'
  exact ⟨20, L1 20 0 μ (by decide) (by decide) (by decide) H⟩
end
section
/-- a log that was not sawn is: one less is left -/
theorem im_un_saw {f : Nat → Int32} {g : Nat} (hf : f g ≠ 3) : ∀ n : Nat, g < n → im_un (upd f g 3) n + 1 = im_un f n := by
  intro n
  induction n with
  | zero => intro h; omega
  | succ n ih =>
    intro h
    unfold im_un
    by_cases e : g = n
    · subst e
      rw [im_un_eq (f := f) g (fun k hk => by rw [ku_ne (by omega)]), ku_self, if_pos rfl, if_neg hf]
    · have := ih (by omega)
      rw [ku_ne (fun x => e x.symm)]
      omega
end
section
/-! two states alike but for some fields -/
def ke_ (I A : List Nat) (μ μ' : km_S) : Prop := (∀ j, j ∉ I → km_i μ' j = km_i μ j) ∧ (∀ j, j ∉ A → km_a μ' j = km_a μ j)
theorem ke_refl {I A : List Nat} {μ : km_S} : ke_ I A μ μ := ⟨fun _ _ => rfl, fun _ _ => rfl⟩
theorem ke_trans {I A : List Nat} {a b c : km_S} (h1 : ke_ I A a b) (h2 : ke_ I A b c) : ke_ I A a c := ⟨fun j hj => (h2.1 j hj).trans (h1.1 j hj), fun j hj => (h2.2 j hj).trans (h1.2 j hj)⟩
theorem ke_mono {I A I' A' : List Nat} {a b : km_S} (hI : ∀ j, j ∈ I → j ∈ I') (hA : ∀ j, j ∈ A → j ∈ A') (h : ke_ I A a b) : ke_ I' A' a b := ⟨fun j hj => h.1 j (fun q => hj (hI j q)), fun j hj => h.2 j (fun q => hj (hA j q))⟩
theorem ke_sa {I A : List Nat} {a b : km_S} {k i : Nat} {v : Int32} (hk : k ∈ A) (h : ke_ I A a b) : ke_ I A a (km_sa b k i v) := by
  refine ⟨fun j hj => h.1 j hj, fun j hj => ?_⟩
  have e : j ≠ k := fun q => hj (q ▸ hk)
  show (if j = k then upd (b.2.1 k) i v else b.2.1 j) = _
  rw [if_neg e]
  exact h.2 j hj
theorem ke_si {I A : List Nat} {a b : km_S} {k : Nat} {v : Int32} (hk : k ∈ I) (h : ke_ I A a b) : ke_ I A a (km_si b k v) := by
  refine ⟨fun j hj => ?_, fun j hj => h.2 j hj⟩
  have e : j ≠ k := fun q => hj (q ▸ hk)
  show upd b.1 k v j = _
  rw [ku_ne e]
  exact h.1 j hj
theorem im_n_ke {I A : List Nat} {μ M : km_S} (d : ∀ j ∈ [3, 4, 5, 7, 8, 9], j ∉ I) (K : ke_ I A μ M) (h : im_n μ) : im_n M := by
  unfold im_n
  rw [K.1 3 (d 3 (by decide)), K.1 4 (d 4 (by decide)), K.1 5 (d 5 (by decide)), K.1 7 (d 7 (by decide)), K.1 8 (d 8 (by decide)), K.1 9 (d 9 (by decide))]
  exact h
theorem im_r_ke {I A : List Nat} {μ M : km_S} (d : ∀ j ∈ [13, 14, 15, 28, 23], j ∉ A) (K : ke_ I A μ M) (h : im_r μ) : im_r M := by
  unfold im_r
  rw [K.2 13 (d 13 (by decide)), K.2 14 (d 14 (by decide)), K.2 15 (d 15 (by decide)), K.2 28 (d 28 (by decide)), K.2 23 (d 23 (by decide))]
  exact h
theorem im_w_ke {I A : List Nat} {μ M : km_S} (d : 44 ∉ A) (K : ke_ I A μ M) (h : im_w μ) : im_w M := by
  unfold im_w
  rw [K.2 44 d]
  exact h
theorem im_l_ke {I A : List Nat} {μ M : km_S} (d5 : 5 ∉ I) (d : ∀ j ∈ [54, 55, 56], j ∉ A) (K : ke_ I A μ M) (h : im_l μ) : im_l M := by
  unfold im_l
  rw [K.1 5 d5, K.2 54 (d 54 (by decide)), K.2 55 (d 55 (by decide)), K.2 56 (d 56 (by decide))]
  exact h
theorem sm_ke {I A : List Nat} {μ M : km_S} (d : ∀ j ∈ [3, 4, 7, 8, 9, 2, 1], j ∉ I) (d2 : ∀ j ∈ [21, 26, 17, 23, 22], j ∉ A) (K : ke_ I A μ M) : (sm_ M, km_i M 1) = (sm_ μ, km_i μ 1) := by
  unfold sm_
  rw [K.1 3 (d 3 (by decide)), K.1 4 (d 4 (by decide)), K.1 7 (d 7 (by decide)), K.1 8 (d 8 (by decide)), K.1 9 (d 9 (by decide)), K.1 2 (d 2 (by decide)), K.1 1 (d 1 (by decide)), K.2 21 (d2 21 (by decide)), K.2 26 (d2 26 (by decide)), K.2 17 (d2 17 (by decide)), K.2 23 (d2 23 (by decide)), K.2 22 (d2 22 (by decide))]
/-- a log of a heap is sawn -/
theorem ih_mill {σ : sz_T × Int32} {μ M : km_S} {r p : Nat} (H : ih_ σ μ) (hr : r < 10) (hp : (p : Int) < (km_a μ 29 r).toInt) (K : ke_ [6] [29, 30, 38, 42, 43, 50] μ M)
    (e29 : km_a M 29 = upd (km_a μ 29) r (km_a μ 29 r - 1))
    (e30a : ∀ q : Nat, q < 10 → q ≠ r → ∀ x : Nat, x < 100 → km_a M 30 (100 * q + x) = km_a μ 30 (100 * q + x))
    (e30b : ∀ x : Nat, x < p → km_a M 30 (100 * r + x) = km_a μ 30 (100 * r + x))
    (e30c : ∀ x : Nat, p ≤ x → (x : Int) + 1 < (km_a μ 29 r).toInt → km_a M 30 (100 * r + x) = km_a μ 30 (100 * r + x + 1))
    (e38 : km_a M 38 = upd (km_a μ 38) (km_a μ 30 (100 * r + p)).toNatClampNeg 3)
    (b0 : 0 ≤ (km_i M 6).toInt) (b1 : (km_i M 6).toInt ≤ (km_i μ 6).toInt + 9) : ih_ σ M := by
  obtain ⟨⟨n1, n2, n3, n4, n5, n6, n7, n8⟩, hs⟩ := H
  have hh := (n4 r hr).1
  have og := (n4 r hr).2 p hp
  obtain ⟨v, ev⟩ : ∃ v, v = km_a μ 30 (100 * r + p) := ⟨_, rfl⟩
  rw [← ev] at og e38
  obtain ⟨g, eg⟩ : ∃ g, g = v.toNatClampNeg := ⟨_, rfl⟩
  have hg : (g : Int) = v.toInt := by rw [eg, ki_nat]; omega
  rw [← eg] at og e38
  have dec := ki_dec2 (a := km_a μ 29 r) (by omega)
  refine ⟨⟨im_n_ke (by decide) K n1, im_r_ke (by decide) K n2, ?_, ?_, ?_, ?_, im_w_ke (by decide) K n7, im_l_ke (by decide) (by decide) K n8⟩, (sm_ke (by decide) (by decide) K).trans hs⟩
  · unfold im_c
    rw [K.2 31 (by decide), K.2 32 (by decide), K.2 39 (by decide), K.2 40 (by decide), e38]
    intro k hk
    refine ⟨(n3 k hk).1, fun i hi => ?_⟩
    have o := (n3 k hk).2 i hi
    refine ⟨o.1, ?_, o.2.2.1, o.2.2.2⟩
    rw [ku_ne (fun q => ?_)]
    · exact o.2.1
    · have t := o.2.1
      rw [q, og.2.1] at t
      exact absurd t (by decide)
  · unfold im_h
    rw [e29, e38, K.2 39 (by decide)]
    intro q hq
    have oq := n4 q hq
    by_cases e : q = r
    · subst e
      rw [ku_self, dec]
      have row : ∀ x : Nat, (x : Int) < (km_a μ 29 q).toInt - 1 → ∃ y : Nat, (y : Int) < (km_a μ 29 q).toInt ∧ y ≠ p ∧ (y = x ∧ x < p ∨ y = x + 1 ∧ p ≤ x) ∧ km_a M 30 (100 * q + x) = km_a μ 30 (100 * q + y) := by
        intro x hx
        by_cases c : x < p
        · exact ⟨x, by omega, by omega, .inl ⟨rfl, c⟩, e30b x c⟩
        · exact ⟨x + 1, by omega, by omega, .inr ⟨rfl, by omega⟩, e30c x (by omega) (by omega)⟩
      refine ⟨by omega, fun x hx => ?_⟩
      obtain ⟨y, hy, yp, yx, ey⟩ := row x hx
      have o := oq.2 y hy
      rw [ey]
      refine ⟨o.1, ?_, o.2.2.1, fun j hj ej => ?_⟩
      · rw [ku_ne (fun t => ?_)]
        · exact o.2.1
        · rw [eg, ki_nat, ki_nat] at t
          have t2 : km_a μ 30 (100 * q + p) = km_a μ 30 (100 * q + y) := by
            rw [← ev]
            exact ki_eq.2 (by omega)
          exact yp (o.2.2.2 p hp t2).symm
      · obtain ⟨z, hz, zp, zx, ez⟩ := row j hj
        rw [ez] at ej
        have := o.2.2.2 z hz ej
        omega
    · rw [ku_ne e]
      refine ⟨oq.1, fun x hx => ?_⟩
      have o := oq.2 x hx
      rw [e30a q hq e x (by omega)]
      refine ⟨o.1, ?_, o.2.2.1, fun j hj ej => ?_⟩
      · rw [ku_ne (fun t => ?_)]
        · exact o.2.1
        · have t2 := o.2.2.1
          rw [t] at t2
          have := og.2.2.1
          omega
      · rw [e30a q hq e j (by omega)] at ej
        exact o.2.2.2 j hj ej
  · unfold im_g
    rw [K.1 4 (by decide), K.2 35 (by decide), K.2 36 (by decide), K.2 39 (by decide), K.2 40 (by decide), e38]
    intro q hq
    have o := n5 q hq
    refine ⟨o.1, o.2.1, fun t => ?_, fun t => ?_⟩
    · by_cases e : q = g
      · rw [e, ku_self] at t
        exact absurd t (by decide)
      · rw [ku_ne e] at t
        exact o.2.2.1 t
    · by_cases e : q = g
      · have t2 := o.2.2.2 t
        rw [e, og.2.1] at t2
        exact absurd t2 (by decide)
      · rw [ku_ne e]
        exact o.2.2.2 t
  · have := im_un_saw (f := km_a μ 38) (g := g) (by rw [og.2.1]; decide) 400 (by omega)
    unfold im_s
    rw [e38]
    have n62 := n6.2
    omega
theorem rz_saw {g : Int32} {μ : km_S} {Q : km_S → Prop} (hg : vp_in g 400) (hs : (km_a μ 36 g.toNatClampNeg).toInt ≤ 9) (hb0 : 0 ≤ (km_i μ 6).toInt) (hb1 : (km_i μ 6).toInt + 9 ≤ 3600)
    (kk : ∀ M, ke_ [6] [38, 42, 43] μ M → km_a M 38 = upd (km_a μ 38) g.toNatClampNeg 3 → 0 ≤ (km_i M 6).toInt → (km_i M 6).toInt ≤ (km_i μ 6).toInt + 9 → Q M) : wX12_saw g μ Q := by
  have L : ∀ (n : Nat) (i : Int32) (M : km_S), 0 ≤ i.toInt → i.toInt ≤ 9 → 9 - i.toInt < (n : Int) → ke_ [6] [38, 42, 43] μ M → km_a M 38 = upd (km_a μ 38) g.toNatClampNeg 3 → (km_i M 6).toInt = (km_i μ 6).toInt + i.toInt → wX12_saw_19 Q n g i M := by
    intro n
    induction n with
    | zero => intro i M h1 h2 h3; omega
    | succ n ih =>
      intro i M h1 h2 h3 K e38 e6
      refine ⟨hg, fun _ => kk M K e38 (by omega) (by omega), fun c => ?_⟩
      rw [K.2 36 (by decide), ki_le] at c
      have ii := ki_inc (a := i) (by omega) (by omega)
      have bi := ki_inc (a := km_i M 6) (by omega) (by omega)
      refine ⟨by rw [ki_in]; omega, fun μ4 e4 μ5 e5 v ev => ?_⟩
      subst e4; subst e5; subst ev
      exact ih (i + 1) _ (by omega) (by omega) (by omega) (ke_si (by decide) (ke_sa (by decide) K)) e38 (by
        show (km_i M 6 + 1).toInt = _
        omega)
  refine ⟨hg, fun μ8 e8 => ⟨hg, fun μ10 e10 => ⟨10, ?_⟩⟩⟩
  subst e8; subst e10
  exact L 10 0 _ (by decide) (by decide) (by decide) (ke_sa (by decide) (ke_sa (by decide) ke_refl)) rfl (by rw [ki_z0]; show (km_i μ 6).toInt = _; omega)
end
section
theorem rz_mills {σ : sz_T × Int32} {μ : km_S} {Q : km_S → Prop} (H : ih_ σ μ) (kk : ∀ μ', ih_ σ μ' → Q μ') : wX12_mills μ Q := by
  have L38 : ∀ (K : Int32 → Int32 → Int32 → km_S → Prop) (r o : Int32), vp_in r 10 → vp_in o 60 → (∀ d μ', ih_ σ μ' → K r d o μ') → ∀ (n : Nat) (d p : Int32) (μ2 : km_S), 0 ≤ p.toInt → p.toInt ≤ 100 → (km_a μ2 29 r.toNatClampNeg).toInt - p.toInt < (n : Int) → 0 < n → ih_ σ μ2 → wX12_mills_38 K Q n r d o p μ2 := by
    intro K r o hr ho hK n
    have hr4 := ki_in.1 hr
    obtain ⟨rn, ern⟩ : ∃ rn, rn = r.toNatClampNeg := ⟨_, rfl⟩
    have hrn : (rn : Int) = r.toInt := by rw [ern, ki_nat]; omega
    induction n with
    | zero => intro d p μ2 h1 h2 h3 h0; omega
    | succ n ih =>
      intro d p μ2 h1 h2 h3 h0 H2
      rw [← ern] at h3
      have oh := H2.1.2.2.2.1 rn (by omega)
      refine ⟨hr, fun _ => hK _ _ H2, fun c => ⟨ho, fun _ => hK _ _ H2, fun _ => ⟨fun _ => hK _ _ H2, fun _ => ?_⟩⟩⟩
      rw [ki_le, ← ern] at c
      have pi := ki_inc (a := p) (by omega) (by omega)
      have h100 := ki_100 (r := r) (i := p) (by omega) (by omega) (by omega) (by omega)
      obtain ⟨x, ex⟩ : ∃ x, x = p.toNatClampNeg := ⟨_, rfl⟩
      have hx : (x : Int) = p.toInt := by rw [ex, ki_nat]; omega
      have pt : (100 * r + p).toNatClampNeg = 100 * rn + x := by rw [ki_nat, h100]; omega
      refine ⟨by rw [ki_in]; omega, fun v ev => ?_⟩
      rw [pt] at ev
      have og := oh.2 x (by omega)
      rw [← ev] at og
      have hv : vp_in v 400 := by rw [ki_in]; omega
      have next : ∀ d', wX12_mills_109 (wX12_mills_38 K Q n) Q r d' o p μ2 := fun d' w ew => by
        rw [ew]
        exact ih d' (p + 1) μ2 (by omega) (by omega) (by rw [← ern]; omega) (by omega) H2
      refine ⟨hv, ho, fun _ => next d, fun _ => ⟨hv, ho, fun _ => ⟨101, ?_⟩, fun _ => next d⟩⟩
      have hlog := H2.1.2.2.2.2.1 v.toNatClampNeg (by rw [ki_nat]; omega)
      have L119 : ∀ (m : Nat) (q : Int32) (M : km_S), p.toInt ≤ q.toInt → q.toInt + 1 ≤ (km_a μ2 29 rn).toInt → (km_a μ2 29 rn).toInt - q.toInt ≤ (m : Int) → ke_ [] [30] μ2 M →
          (∀ y : Nat, (y : Int) < 100 * r.toInt + p.toInt ∨ 100 * r.toInt + q.toInt ≤ (y : Int) → km_a M 30 y = km_a μ2 30 y) → (∀ y : Nat, 100 * r.toInt + p.toInt ≤ (y : Int) → (y : Int) < 100 * r.toInt + q.toInt → km_a M 30 y = km_a μ2 30 (y + 1)) →
          wX12_mills_119 (wX12_mills_164 (wX12_mills_38 K Q n) Q) Q m r d o p v q M := by
        intro m
        induction m with
        | zero => intro q M g1 g2 g3; omega
        | succ m ihm =>
          intro q M g1 g2 g3 KM f1 f2
          have qi := ki_inc (a := q) (by omega) (by omega)
          have e29 : km_a M 29 = km_a μ2 29 := KM.2 29 (by decide)
          refine ⟨hr, fun cc => ?_, fun cc => ?_⟩
          · rw [← ern, e29, ki_le, qi] at cc
            refine ⟨hr, hr, fun μ6 e6 => ?_⟩
            rw [← ern] at e6
            have hun := im_un_saw (f := km_a μ2 38) (g := v.toNatClampNeg) (by rw [og.2.1]; decide) 400 (by rw [ki_nat]; omega)
            have hs := H2.1.2.2.2.2.2.1
            have i6 : km_i μ6 6 = km_i μ2 6 := by rw [e6]; exact KM.1 6 (by decide)
            have a36 : km_a μ6 36 = km_a μ2 36 := by rw [e6]; exact KM.2 36 (by decide)
            have hs1 := hs.1
            have hs2 := hs.2
            refine rz_saw hv (by rw [a36]; omega) (by rw [i6]; omega) (by rw [i6]; omega) (fun M2 K2 e38 b0 b1 => ⟨ho, ho, fun μ10 e10 w ew => ?_⟩)
            have K6 : ke_ [6] [29, 30, 38, 42, 43, 50] μ2 μ6 := by rw [e6]; exact ke_sa (by decide) (ke_mono (by simp) (by simp) KM)
            have K10 : ke_ [6] [29, 30, 38, 42, 43, 50] μ2 μ10 := by rw [e10]; exact ke_sa (by decide) (ke_trans K6 (ke_mono (by simp) (by simp) K2))
            have m29 : km_a μ10 29 = upd (km_a μ2 29) rn (km_a μ2 29 rn - 1) := by
              rw [e10]
              refine Eq.trans (K2.2 29 (by decide)) ?_
              rw [e6, ← e29]
              rfl
            have m30 : km_a μ10 30 = km_a M 30 := by
              rw [e10]
              refine Eq.trans (K2.2 30 (by decide)) ?_
              rw [e6]
              rfl
            have m38 : km_a μ10 38 = upd (km_a μ2 38) v.toNatClampNeg 3 := by
              rw [e10]
              refine Eq.trans e38 ?_
              rw [e6]
              exact congrArg (fun f => upd f v.toNatClampNeg 3) (KM.2 38 (by decide))
            have m6 : km_i μ10 6 = km_i M2 6 := by rw [e10]; rfl
            have H10 : ih_ σ μ10 := by
              refine ih_mill (r := rn) (p := x) H2 (by omega) (by omega) K10 m29 ?_ ?_ ?_ ?_ (by rw [m6]; omega) (by rw [m6, ← i6]; omega)
              · intro t ht tr y hy
                rw [m30]
                refine f1 _ ?_
                rcases Nat.lt_or_gt_of_ne tr with u | u
                · left; omega
                · right; omega
              · intro y hy
                rw [m30]
                exact f1 _ (.inl (by omega))
              · intro y hy1 hy2
                rw [m30]
                exact f2 _ (by omega) (by omega)
              · rw [← ev]; exact m38
            have h29 := congrFun m29 rn
            rw [ku_self] at h29
            have dec := ki_dec2 (a := km_a μ2 29 rn) (by omega)
            have hh := H10.1.2.2.2.1 rn (by omega)
            exact ih w p μ10 (by omega) (by omega) (by rw [← ern, h29]; omega) (by omega) H10
          · rw [← ern, e29, ki_le, qi] at cc
            have q100 := ki_100 (r := r) (i := q) (by omega) (by omega) (by omega) (by omega)
            have q101 := ki_inc (a := 100 * r + q) (by omega) (by omega)
            refine ⟨by rw [ki_in]; omega, by rw [ki_in]; omega, fun μ16 e16 w ew => ?_⟩
            rw [ew]
            have m30 : km_a μ16 30 = upd (km_a M 30) (100 * r + q).toNatClampNeg (km_a M 30 (100 * r + q + 1).toNatClampNeg) := by rw [e16]; rfl
            refine ihm (q + 1) μ16 (by omega) (by omega) (by omega) (by rw [e16]; exact ke_sa (by decide) KM) ?_ ?_
            · intro y hy
              rw [m30, ku_ne (by rw [ki_nat]; omega)]
              exact f1 y (by omega)
            · intro y hy1 hy2
              by_cases e : y = (100 * r + q).toNatClampNeg
              · rw [m30, e, ku_self]
                rw [ki_nat] at e
                have u : (100 * r + q + 1).toNatClampNeg = (100 * r + q).toNatClampNeg + 1 := by rw [ki_nat, ki_nat]; omega
                rw [u]
                exact f1 _ (.inr (by rw [ki_nat]; omega))
              · rw [m30, ku_ne e]
                rw [ki_nat] at e
                exact f2 y hy1 (by omega)
      exact L119 101 p μ2 (by omega) (by omega) (by omega) ke_refl (fun _ _ => rfl) (fun y a b => by omega)
  have L14 : ∀ (K : Int32 → km_S → Prop) (r : Int32), vp_in r 10 → (∀ μ', ih_ σ μ' → K r μ') → ∀ (n : Nat) (d o : Int32) (μ2 : km_S), 0 ≤ o.toInt → o.toInt ≤ 60 → 60 - o.toInt < (n : Int) → ih_ σ μ2 → wX12_mills_14 K Q n r d o μ2 := by
    intro K r hr hK n
    induction n with
    | zero => intro d o μ2 h1 h2 h3; omega
    | succ n ih =>
      intro d o μ2 h1 h2 h3 H2
      have b := H2.1.1.2.2.2.2.1
      refine ⟨fun _ => hK _ H2, fun c => ?_⟩
      rw [ki_le] at c
      have ho : vp_in o 60 := by rw [ki_in]; omega
      have oi := ki_inc (a := o) (by omega) (by omega)
      have next : ∀ d' μ', ih_ σ μ' → wX12_mills_196 (wX12_mills_14 K Q n) Q r d' o μ' := fun d' μ' H' w ew => by
        rw [ew]
        exact ih d' (o + 1) μ' (by omega) (by omega) (by omega) H'
      have hh := (H2.1.2.2.2.1 r.toNatClampNeg (by have := ki_in.1 hr; rw [ki_nat]; omega)).1
      refine ⟨ho, fun _ => ⟨101, ?_⟩, fun _ => next _ _ H2⟩
      exact L38 _ r o hr ho next 101 d 0 μ2 (by decide) (by decide) (by rw [ki_z0]; omega) (by decide) H2
  have L2 : ∀ (n : Nat) (r : Int32) (μ2 : km_S), 0 ≤ r.toInt → r.toInt ≤ 10 → 10 - r.toInt < (n : Int) → ih_ σ μ2 → wX12_mills_2 Q n r μ2 := by
    intro n
    induction n with
    | zero => intro r μ2 h1 h2 h3; omega
    | succ n ih =>
      intro r μ2 h1 h2 h3 H2
      have b := H2.1.1.1
      refine ⟨fun _ => kk _ H2, fun c => ⟨61, ?_⟩⟩
      rw [ki_le] at c
      have ri := ki_inc (a := r) (by omega) (by omega)
      refine L14 _ r (by rw [ki_in]; omega) (fun μ' H' w ew => ?_) 61 0 0 μ2 (by decide) (by decide) (by decide) H2
      rw [ew]
      exact ih (r + 1) μ' (by omega) (by omega) (by omega) H'
  exact ⟨20, L2 20 0 μ (by decide) (by decide) (by decide) H⟩
/-! hours -/
def z_hours (n : Int32) (σ : sz_T) : Int32 × Int32 × sz_T := if n < 0 ∨ 200 < n ∨ ¬ (σ.1.2.2.2.2.2 + n ≤ 20000) then (1, 0, σ) else (0, σ.1.2.2.2.2.2 + n, ((σ.1.1, σ.1.2.1, σ.1.2.2.1, σ.1.2.2.2.1, σ.1.2.2.2.2.1, σ.1.2.2.2.2.2 + n), σ.2))
abbrev zn_ (σ : sz_T) (v : Int32) : sz_T := ((σ.1.1, σ.1.2.1, σ.1.2.2.1, σ.1.2.2.2.1, σ.1.2.2.2.2.1, v), σ.2)
theorem rz_hours {n : Int32} {μ : km_S} (I : im_ μ) : wX12_hours n μ (pz_ (z_hours n (sm_ μ))) := by
  intro μ1 e1
  have I1 : im_ μ1 := by rw [e1]; exact im_code 0 I
  have s1 : sm_ μ1 = sm_ μ := by rw [e1]; rfl
  have k1 : km_i μ1 1 = 0 := by rw [e1]; rfl
  rw [← s1]
  have no : (n < 0 ∨ 200 < n ∨ ¬ (km_i μ1 2 + n ≤ 20000)) → wX12_hours_28 (pz_ (z_hours n (sm_ μ1))) μ1 := fun c μ2 e2 => by
    subst e2
    refine ⟨im_code 1 I1, ?_⟩
    unfold z_hours
    rw [if_pos (show n < 0 ∨ 200 < n ∨ ¬ ((sm_ μ1).1.2.2.2.2.2 + n ≤ 20000) from c)]
    rfl
  refine ⟨fun c => no (.inl c), fun c => ⟨fun d => no (.inr (.inl d)), fun d => ⟨fun e => ⟨202, ?_⟩, fun e => no (.inr (.inr e))⟩⟩⟩
  rw [show z_hours n (sm_ μ1) = (0, km_i μ1 2 + n, zn_ (sm_ μ1) (km_i μ1 2 + n)) from if_neg (show ¬ (n < 0 ∨ 200 < n ∨ ¬ (km_i μ1 2 + n ≤ 20000)) from fun h => h.elim c (fun h => h.elim d (fun h => h e)))]
  rw [ki_lt, ki_z0] at c
  have z200 : (200 : Int32).toInt = 200 := by decide
  rw [ki_lt, z200] at d
  have L : ∀ (k : Nat) (i : Int32) (M : km_S), 0 ≤ i.toInt → i.toInt ≤ n.toInt → n.toInt - i.toInt < (k : Int) → ih_ (zn_ (sm_ μ1) (km_i μ1 2 + i), 0) M → wX12_hours_35 (wX12_hours_76 (pz_ (0, km_i μ1 2 + n, zn_ (sm_ μ1) (km_i μ1 2 + n)))) (pz_ (0, km_i μ1 2 + n, zn_ (sm_ μ1) (km_i μ1 2 + n))) k n i M := by
    intro k
    induction k with
    | zero => intro i M h1 h2 h3; omega
    | succ k ih =>
      intro i M h1 h2 h3 H
      refine ⟨fun q => ?_, fun q => ?_⟩
      · rw [ki_le] at q
        have en : i = n := ki_eq.2 (by omega)
        rw [en] at H
        refine ⟨H.1, ?_⟩
        have h1 := congrArg Prod.fst H.2
        have h2 := congrArg Prod.snd H.2
        have h3 : km_i M 2 = km_i μ1 2 + n := congrArg (fun s : sz_T => s.1.2.2.2.2.2) h1
        exact Prod.ext h2 (Prod.ext h3 h1)
      · rw [ki_le] at q
        have ii := ki_inc (a := i) (by omega) (by omega)
        refine rz_waterGoes H (fun μ4 H4 => rz_move H4 (fun μ5 H5 => rz_jams H5 (fun μ6 H6 => rz_older H6 (fun μ7 H7 => rz_mills H7 (fun μ8 H8 μ9 e9 w ew => ?_)))))
        rw [ew]
        refine ih (i + 1) μ9 (by omega) (by omega) (by omega) ?_
        rw [e9]
        refine ⟨H8.1, ?_⟩
        have h1 := congrArg Prod.fst H8.2
        have h2 := congrArg Prod.snd H8.2
        have h3 : km_i μ8 2 = km_i μ1 2 + i := congrArg (fun s : sz_T => s.1.2.2.2.2.2) h1
        refine Prod.ext ?_ h2
        show zn_ (sm_ μ8) (km_i μ8 2 + 1) = _
        rw [h3, Int32.add_assoc]
        have h4 : sm_ μ8 = zn_ (sm_ μ1) (km_i μ1 2 + i) := h1
        exact Eq.trans (congrArg (fun s : sz_T => zn_ s (km_i μ1 2 + (i + 1))) h4) rfl
  refine L 202 0 μ1 (by decide) (by rw [ki_z0]; omega) (by rw [ki_z0]; omega) ⟨I1, Prod.ext ?_ k1⟩
  show sm_ μ1 = zn_ (sm_ μ1) (km_i μ1 2 + 0)
  rw [Int32.add_zero]
  rfl
end
section
/-! the reader's tokens -/
theorem rz_byteAt {a : Int32} {μ : km_S} {Q : Int32 → km_S → Prop} (h0 : 0 ≤ a.toInt) (h1 : (km_i μ 61).toInt ≤ 500) (ke : (km_i μ 61).toInt ≤ a.toInt → Q (-1) μ) (kk : a.toInt < (km_i μ 61).toInt → ∀ v, Q v μ) : wX12_byteAt a μ Q := by
  refine ⟨fun c => ke (ki_le.1 c), fun c => ?_⟩
  rw [ki_le] at c
  exact ⟨by rw [ki_in]; omega, kk (by omega) _⟩
theorem rz_isLetter {a : Int32} {μ : km_S} {Q : Int32 → km_S → Prop} (k0 : ¬ (97 ≤ a.toInt ∧ a.toInt ≤ 122) → Q 0 μ) (k1 : 97 ≤ a.toInt → a.toInt ≤ 122 → Q 1 μ) : wX12_isLetter a μ Q := by
  have z1 : (97 : Int32).toInt = 97 := by decide
  have z2 : (122 : Int32).toInt = 122 := by decide
  refine ⟨fun c => k0 ?_, fun c => ⟨fun d => k0 ?_, fun d => k1 ?_ ?_⟩⟩
  all_goals (simp only [ki_lt, z1, z2] at *; omega)
theorem rz_isDigit {a : Int32} {μ : km_S} {Q : Int32 → km_S → Prop} (k0 : ¬ (48 ≤ a.toInt ∧ a.toInt ≤ 57) → Q 0 μ) (k1 : 48 ≤ a.toInt → a.toInt ≤ 57 → Q 1 μ) : wX12_isDigit a μ Q := by
  have z1 : (48 : Int32).toInt = 48 := by decide
  have z2 : (57 : Int32).toInt = 57 := by decide
  refine ⟨fun c => k0 ?_, fun c => ⟨fun d => k0 ?_, fun d => k1 ?_ ?_⟩⟩
  all_goals (simp only [ki_lt, z1, z2] at *; omega)
/-- the byte at a place, and whether it is there -/
theorem rz_byteAt2 {a : Int32} {μ : km_S} {Q : Int32 → km_S → Prop} (h0 : 0 ≤ a.toInt) (h1 : (km_i μ 61).toInt ≤ 500) (kk : Q (if km_i μ 61 ≤ a then -1 else km_a μ 52 a.toNatClampNeg) μ) : wX12_byteAt a μ Q := by
  refine ⟨fun c => ?_, fun c => ?_⟩
  · rw [if_pos c] at kk; exact kk
  · rw [if_neg c] at kk
    rw [ki_le] at c
    exact ⟨by rw [ki_in]; omega, kk⟩
theorem ki_here {a b v : Int32} {w : Int32} (h : (if b ≤ a then -1 else v) = w) (hw : w ≠ -1) : a.toInt < b.toInt := by
  by_cases c : b ≤ a
  · rw [if_pos c] at h; exact absurd h.symm hw
  · rw [ki_le] at c; omega
/-- what a step leaves: the token looked at -/
def is_ (M M' : km_S) : Prop := ke_ [60, 62, 63, 64, 65] [] M M' ∧ (km_i M 60).toInt ≤ (km_i M' 64).toInt ∧ (km_i M' 64).toInt ≤ (km_i M' 65).toInt ∧ km_i M' 60 = km_i M' 65 ∧ (km_i M' 65).toInt ≤ (km_i M 61).toInt ∧ (km_i M' 62 ≠ 0 → (km_i M' 64).toInt < (km_i M' 65).toInt)
theorem rz_step {M : km_S} {Q : km_S → Prop} (h0 : 0 ≤ (km_i M 60).toInt) (h1 : (km_i M 60).toInt ≤ (km_i M 61).toInt) (h2 : (km_i M 61).toInt ≤ 500) (kk : ∀ M', is_ M M' → Q M') : wX12_step M Q := by
  have E246 : ∀ M2, ke_ [60, 62, 63, 64, 65] [] M M2 → (km_i M 60).toInt ≤ (km_i M2 64).toInt → (km_i M2 64).toInt ≤ (km_i M2 60).toInt → (km_i M2 60).toInt ≤ (km_i M 61).toInt → (km_i M2 62 ≠ 0 → (km_i M2 64).toInt < (km_i M2 60).toInt) → wX12_step_246 Q M2 := by
    intro M2 K a b c d M3 e3
    rw [e3]
    exact kk _ ⟨ke_si (by decide) K, a, b, rfl, c, d⟩
  have L123 : ∀ (n : Nat) (M2 : km_S), ke_ [60, 62, 63, 64, 65] [] M M2 → (km_i M 60).toInt ≤ (km_i M2 64).toInt → (km_i M2 64).toInt ≤ (km_i M2 60).toInt → (km_i M2 60).toInt ≤ (km_i M 61).toInt → (km_i M 61).toInt - (km_i M2 60).toInt < (n : Int) →
      ((km_i M2 64).toInt = (km_i M2 60).toInt → ∃ v : Int32, (if km_i M2 61 ≤ km_i M2 60 then -1 else km_a M2 52 (km_i M2 60).toNatClampNeg) = v ∧ 48 ≤ v.toInt ∧ v.toInt ≤ 57) → wX12_step_123 (wX12_step_150 (wX12_step_246 Q) Q) Q n M2 := by
    intro n
    induction n with
    | zero => intro M2 K a b c d; omega
    | succ n ih =>
      intro M2 K a b c d f
      have e61 : km_i M2 61 = km_i M 61 := K.1 61 (by decide)
      refine rz_byteAt2 (by omega) (by rw [e61]; omega) ?_
      obtain ⟨w, ew⟩ : ∃ w, (if km_i M2 61 ≤ km_i M2 60 then -1 else km_a M2 52 (km_i M2 60).toNatClampNeg) = w := ⟨_, rfl⟩
      rw [ew]
      refine rz_isDigit (fun g => ⟨fun _ M3 e3 => ?_, fun x => absurd rfl x⟩) (fun g1 g2 => ⟨fun x => absurd x (by decide), fun _ M3 e3 => ?_⟩)
      · rw [e3]
        refine E246 _ (ke_si (by decide) K) a b c (fun _ => ?_)
        show (km_i M2 64).toInt < (km_i M2 60).toInt
        rcases Int.lt_or_eq_of_le b with q | q
        · exact q
        · obtain ⟨v, ev, v1, v2⟩ := f q
          rw [ew] at ev
          rw [ev] at g
          exact absurd ⟨v1, v2⟩ g
      · have hh := ki_here ew (fun x => by rw [x, ki_zm] at g1; omega)
        rw [e61] at hh
        have ii := ki_inc (a := km_i M2 60) (by omega) (by omega)
        rw [e3]
        exact ih _ (ke_si (by decide) K) a (by show _ ≤ (km_i M2 60 + 1).toInt; rw [ii]; show (km_i M2 64).toInt ≤ _; omega) (by show (km_i M2 60 + 1).toInt ≤ _; omega) (by show _ - (km_i M2 60 + 1).toInt < _; omega) (fun x => by
          have : (km_i M2 64).toInt = (km_i M2 60 + 1).toInt := x
          omega)
  have L81 : ∀ (n : Nat) (M2 : km_S), ke_ [60, 62, 63, 64, 65] [] M M2 → (km_i M 60).toInt ≤ (km_i M2 64).toInt → (km_i M2 64).toInt ≤ (km_i M2 60).toInt → (km_i M2 60).toInt ≤ (km_i M 61).toInt → (km_i M 61).toInt - (km_i M2 60).toInt < (n : Int) →
      ((km_i M2 64).toInt = (km_i M2 60).toInt → ∃ v : Int32, (if km_i M2 61 ≤ km_i M2 60 then -1 else km_a M2 52 (km_i M2 60).toNatClampNeg) = v ∧ 97 ≤ v.toInt ∧ v.toInt ≤ 122) → wX12_step_81 (wX12_step_108 (wX12_step_246 Q) Q) Q n M2 := by
    intro n
    induction n with
    | zero => intro M2 K a b c d; omega
    | succ n ih =>
      intro M2 K a b c d f
      have e61 : km_i M2 61 = km_i M 61 := K.1 61 (by decide)
      refine rz_byteAt2 (by omega) (by rw [e61]; omega) ?_
      obtain ⟨w, ew⟩ : ∃ w, (if km_i M2 61 ≤ km_i M2 60 then -1 else km_a M2 52 (km_i M2 60).toNatClampNeg) = w := ⟨_, rfl⟩
      rw [ew]
      refine rz_isLetter (fun g => ⟨fun _ M3 e3 => ?_, fun x => absurd rfl x⟩) (fun g1 g2 => ⟨fun x => absurd x (by decide), fun _ M3 e3 => ?_⟩)
      · rw [e3]
        refine E246 _ (ke_si (by decide) K) a b c (fun _ => ?_)
        show (km_i M2 64).toInt < (km_i M2 60).toInt
        rcases Int.lt_or_eq_of_le b with q | q
        · exact q
        · obtain ⟨v, ev, v1, v2⟩ := f q
          rw [ew] at ev
          rw [ev] at g
          exact absurd ⟨v1, v2⟩ g
      · have hh := ki_here ew (fun x => by rw [x, ki_zm] at g1; omega)
        rw [e61] at hh
        have ii := ki_inc (a := km_i M2 60) (by omega) (by omega)
        rw [e3]
        exact ih _ (ke_si (by decide) K) a (by show _ ≤ (km_i M2 60 + 1).toInt; rw [ii]; show (km_i M2 64).toInt ≤ _; omega) (by show (km_i M2 60 + 1).toInt ≤ _; omega) (by show _ - (km_i M2 60 + 1).toInt < _; omega) (fun x => by
          have : (km_i M2 64).toInt = (km_i M2 60 + 1).toInt := x
          omega)
  have L0 : ∀ (n : Nat) (M2 : km_S), ke_ [60, 62, 63, 64, 65] [] M M2 → (km_i M 60).toInt ≤ (km_i M2 60).toInt → (km_i M2 60).toInt ≤ (km_i M 61).toInt → (km_i M 61).toInt - (km_i M2 60).toInt < (n : Int) → wX12_step_0 (wX12_step_39 Q) Q n M2 := by
    intro n
    induction n with
    | zero => intro M2 K a b d; omega
    | succ n ih =>
      intro M2 K a b d
      have e61 : km_i M2 61 = km_i M 61 := K.1 61 (by decide)
      have skip : (km_i M2 60).toInt < (km_i M2 61).toInt → wX12_step_26 (wX12_step_0 (wX12_step_39 Q) Q n) Q M2 := by
        intro hh M3 e3
        rw [e61] at hh
        have ii := ki_inc (a := km_i M2 60) (by omega) (by omega)
        rw [e3]
        exact ih _ (ke_si (by decide) K) (by show _ ≤ (km_i M2 60 + 1).toInt; omega) (by show (km_i M2 60 + 1).toInt ≤ _; omega) (by show _ - (km_i M2 60 + 1).toInt < _; omega)
      refine rz_byteAt2 (by omega) (by rw [e61]; omega) ⟨fun c => skip (ki_here c (by decide)), fun _ => rz_byteAt2 (by omega) (by rw [e61]; omega) ⟨fun _ => ?_, fun c => skip (ki_here c (by decide))⟩⟩
      intro M3 e3 M4 e4
      have K4 : ke_ [60, 62, 63, 64, 65] [] M M4 := by rw [e4, e3]; exact ke_si (by decide) (ke_si (by decide) K)
      have f61 : km_i M4 61 = km_i M 61 := K4.1 61 (by decide)
      have f60 : km_i M4 60 = km_i M2 60 := by rw [e4, e3]; rfl
      have f64 : km_i M4 64 = km_i M2 60 := by rw [e4, e3]; rfl
      clear e3 e4
      refine rz_byteAt2 (by rw [f60]; omega) (by rw [f61]; omega) ?_
      obtain ⟨w, ew⟩ : ∃ w, (if km_i M4 61 ≤ km_i M4 60 then -1 else km_a M4 52 (km_i M4 60).toNatClampNeg) = w := ⟨_, rfl⟩
      rw [ew]
      refine ⟨fun g => ?_, fun g M5 e5 => ?_⟩
      · have hh := ki_here ew g
        rw [f60, f61] at hh
        have ii := ki_inc (a := km_i M2 60) (by omega) (by omega)
        refine rz_isLetter (fun q => ⟨fun _ => ?_, fun x => absurd rfl x⟩) (fun q1 q2 => ⟨fun x => absurd x (by decide), fun _ => ⟨501, L81 501 M4 K4 (by rw [f64]; omega) (by rw [f64, f60]; omega) (by rw [f60]; omega) (by rw [f60]; omega) (fun _ => ⟨w, ew, q1, q2⟩)⟩⟩)
        refine rz_isDigit (fun q => ⟨fun _ M5 e5 => ?_, fun x => absurd rfl x⟩) (fun q1 q2 => ⟨fun x => absurd x (by decide), fun _ => ⟨501, L123 501 M4 K4 (by rw [f64]; omega) (by rw [f64, f60]; omega) (by rw [f60]; omega) (by rw [f60]; omega) (fun _ => ⟨w, ew, q1, q2⟩)⟩⟩)
        rw [f60] at e5
        have K5 : ke_ [60, 62, 63, 64, 65] [] M M5 := by rw [e5]; exact ke_si (by decide) K4
        have g60 : km_i M5 60 = km_i M2 60 + 1 := by rw [e5]; rfl
        have g64 : km_i M5 64 = km_i M2 60 := by rw [e5]; exact f64
        clear e5
        have S : ∀ s0 : Int32, wX12_step_238 (wX12_step_246 Q) Q w s0 M5 := by
          intro s0 M6 e6 M7 e7
          rw [e7, e6]
          refine E246 _ (ke_si (by decide) (ke_si (by decide) K5)) ?_ ?_ ?_ (fun _ => ?_)
          · show _ ≤ (km_i M5 64).toInt
            rw [g64]; omega
          · show (km_i M5 64).toInt ≤ (km_i M5 60).toInt
            rw [g64, g60]; omega
          · show (km_i M5 60).toInt ≤ _
            rw [g60]; omega
          · show (km_i M5 64).toInt < (km_i M5 60).toInt
            rw [g64, g60]; omega
        have S2 : ∀ s : Int32, wX12_step_227 (wX12_step_246 Q) Q w s M5 := fun s => ⟨fun _ => S 4, fun _ => S 3⟩
        exact ⟨fun _ => S2 1, fun _ => ⟨fun _ => S2 1, fun _ => ⟨fun _ => S2 1, fun _ => ⟨fun _ => S2 1, fun _ => ⟨fun _ => S2 1, fun _ => ⟨fun _ => S2 1, fun _ => ⟨fun _ => S2 1, fun _ => ⟨fun _ => S2 1, fun _ => ⟨fun _ => S2 0, fun _ => S2 1⟩⟩⟩⟩⟩⟩⟩⟩⟩
      · rw [e5]
        refine E246 _ (ke_si (by decide) K4) ?_ ?_ ?_ (fun x => absurd rfl x)
        · show _ ≤ (km_i M4 64).toInt
          rw [f64]; omega
        · show (km_i M4 64).toInt ≤ (km_i M4 60).toInt
          rw [f64, f60]; omega
        · show (km_i M4 60).toInt ≤ _
          rw [f60]; omega
  exact ⟨501, L0 501 M ke_refl (by omega) h1 (by omega)⟩
theorem ks_lens : ∀ l : Nat, l < 12 → (nI (ks_len.getD l 0)).toInt = ((ks_len.getD l 0 : Nat) : Int) ∧ ks_len.getD l 0 ≤ 5 := by decide
theorem rz_isWord {l : Nat} {M : km_S} {Q : Int32 → km_S → Prop} (hl : l < 12) (h0 : 0 ≤ (km_i M 64).toInt) (h1 : (km_i M 64).toInt ≤ (km_i M 65).toInt) (h2 : (km_i M 65).toInt ≤ 500) (k0 : Q 0 M) (k1 : km_i M 62 = 1 → Q 1 M) : wX12_isWord l M Q := by
  have L := ks_lens l hl
  have N0 : wX12_isWord_29 Q l 0 M := ⟨1, ⟨fun _ => ⟨rfl, k0⟩, fun x => absurd rfl x⟩⟩
  refine ⟨fun _ => N0, fun c => ⟨hl, fun _ => N0, fun e => ⟨7, ?_⟩⟩⟩
  have d := ki_sub (a := km_i M 65) (b := km_i M 64) (by omega) (by omega)
  have ee := ki_eq.1 e
  rw [L.1, d] at ee
  have Lp : ∀ (n : Nat) (s i : Int32), (s = 0 ∨ s = 1) → 0 ≤ i.toInt → i.toInt ≤ ((ks_len.getD l 0 : Nat) : Int) → ((ks_len.getD l 0 : Nat) : Int) - i.toInt < (n : Int) → wX12_isWord_32 Q n l s i M := by
    intro n
    induction n with
    | zero => intro s i hs g1 g2 g3; omega
    | succ n ih =>
      intro s i hs g1 g2 g3
      refine ⟨fun x => ?_, fun x => ⟨hl, fun _ => ?_, fun q => ?_⟩⟩
      · rw [x]; exact ⟨rfl, k0⟩
      · rcases hs with y | y
        · exact absurd y x
        · rw [y]; exact ⟨rfl, k1 c⟩
      · rw [ki_le, L.1] at q
        have ii := ki_inc (a := i) (by omega) (by omega)
        have ia := ki_add (a := km_i M 64) (b := i) (by omega) (by omega)
        refine ⟨hl, by rw [ki_in]; omega, by rw [ki_in]; omega, fun _ v ev => ?_, fun _ v ev => ?_⟩
        · rw [ev]; exact ih 0 (i + 1) (.inl rfl) (by omega) (by omega) (by omega)
        · rw [ev]; exact ih 1 (i + 1) (.inr rfl) (by omega) (by omega) (by omega)
  exact Lp 7 1 0 (.inr rfl) (by decide) (by rw [ki_z0]; omega) (by rw [ki_z0]; omega)
end
section
/-! codes of a piece of law: run from any height they leave one more -/
theorem im_run_mono {f : Nat → Int32} : ∀ (n m k e d : Nat), n ≤ m → im_run f n k e d → im_run f m k e d := by
  intro n
  induction n with
  | zero => intro m k e d _ h; exact False.elim h
  | succ n ih =>
    intro m k e d hm h
    cases m with
    | zero => omega
    | succ m =>
      unfold im_run at h ⊢
      split
      · rename_i c; rw [if_pos c] at h; exact h
      · rename_i c; rw [if_neg c] at h
        split
        · rename_i c; rw [if_pos c] at h; exact ⟨h.1, h.2.1, ih m _ _ _ (by omega) h.2.2⟩
        · rename_i c; rw [if_neg c] at h
          split
          · rename_i c; rw [if_pos c] at h; exact ⟨h.1, h.2.1, ih m _ _ _ (by omega) h.2.2⟩
          · rename_i c; rw [if_neg c] at h
            split
            · rename_i c; rw [if_pos c] at h; exact ⟨h.1, ih m _ _ _ (by omega) h.2⟩
            · rename_i c; rw [if_neg c] at h; exact ⟨h.1, ih m _ _ _ (by omega) h.2⟩
def ip_ (f : Nat → Int32) (a e h : Nat) : Prop := a ≤ e ∧ ∀ f' : Nat → Int32, (∀ i, a ≤ i → i < e → f' i = f i) → ∀ (E d n : Nat), e ≤ E → d + h ≤ 190 → im_run f' n e E (d + 1) → ∃ m, m ≤ n + (e - a) ∧ im_run f' m a E d
theorem ip_of {f g : Nat → Int32} {a e h : Nat} (H : ip_ f a e h) (hg : ∀ i, a ≤ i → i < e → g i = f i) : ip_ g a e h := ⟨H.1, fun f' hf => H.2 f' (fun i x y => (hf i x y).trans (hg i x y))⟩
theorem ip_le {f : Nat → Int32} {a e h h' : Nat} (H : ip_ f a e h) (q : h ≤ h') : ip_ f a e h' := ⟨H.1, fun f' hf E d n hE hd R => H.2 f' hf E d n hE (by omega) R⟩
theorem ip_num {f : Nat → Int32} {a : Nat} (h0 : f a = 0) : ip_ f a (a + 2) 1 := by
  refine ⟨by omega, fun f' hf E d n hE hd R => ⟨n + 1, by omega, ?_⟩⟩
  unfold im_run
  rw [if_neg (by omega), if_pos ((hf a (by omega) (by omega)).trans h0)]
  exact ⟨by omega, by omega, R⟩
theorem ip_name {f : Nat → Int32} {a : Nat} (h1 : 20 ≤ f a) (h2 : f a < 27) : ip_ f a (a + 1) 1 := by
  refine ⟨by omega, fun f' hf E d n hE hd R => ⟨n + 1, by omega, ?_⟩⟩
  have e := hf a (by omega) (by omega)
  unfold im_run
  rw [e, if_neg (by omega), if_neg (fun x => by rw [x] at h1; exact absurd h1 (by decide)), if_pos h1]
  exact ⟨h2, by omega, R⟩
theorem ip_bin {f : Nat → Int32} {a m e h1 h2 h : Nat} (A : ip_ f a m h1) (B : ip_ f m e h2) (q1 : h1 ≤ h) (q2 : h2 + 1 ≤ h) (n0 : f e ≠ 0) (n20 : ¬ 20 ≤ f e) (n9 : f e ≠ 9) : ip_ f a (e + 1) h := by
  have la := A.1
  have lb := B.1
  refine ⟨by omega, fun f' hf E d n hE hd R => ?_⟩
  have ee := hf e (by omega) (by omega)
  have R1 : im_run f' (n + 1) e E (d + 1 + 1) := by
    unfold im_run
    rw [ee, if_neg (by omega), if_neg n0, if_neg n20, if_neg n9]
    exact ⟨by omega, R⟩
  obtain ⟨m2, q3, R2⟩ := B.2 f' (fun i x y => hf i (by omega) (by omega)) E (d + 1) (n + 1) (by omega) (by omega) R1
  obtain ⟨m1, q4, R3⟩ := A.2 f' (fun i x y => hf i x (by omega)) E d m2 (by omega) (by omega) R2
  exact ⟨m1, by omega, R3⟩
theorem ip_not {f : Nat → Int32} {a e h : Nat} (A : ip_ f a e h) (n9 : f e = 9) : ip_ f a (e + 1) h := by
  have la := A.1
  refine ⟨by omega, fun f' hf E d n hE hd R => ?_⟩
  have ee := (hf e (by omega) (by omega)).trans n9
  have R1 : im_run f' (n + 1) e E (d + 1) := by
    unfold im_run
    rw [ee, if_neg (by omega), if_neg (by decide), if_neg (by decide), if_pos rfl]
    exact ⟨by omega, R⟩
  obtain ⟨m1, q4, R3⟩ := A.2 f' (fun i x y => hf i x (by omega)) E d (n + 1) (by omega) (by omega) R1
  exact ⟨m1, by omega, R3⟩
theorem ip_end {f : Nat → Int32} {a e h : Nat} (A : ip_ f a e h) (q : h ≤ 190) (l : e ≤ 900) : im_run f 901 a e 0 := by
  obtain ⟨m, hm, R⟩ := A.2 f (fun _ _ _ => rfl) e 0 1 (by omega) (by omega) (by unfold im_run; rw [if_pos (by omega)]; exact ⟨rfl, rfl⟩)
  exact im_run_mono m 901 _ _ _ (by omega) R
/-! the reader's state -/
def it_ (M : km_S) : Prop := 0 ≤ (km_i M 64).toInt ∧ (km_i M 64).toInt ≤ (km_i M 65).toInt ∧ km_i M 60 = km_i M 65 ∧ (km_i M 65).toInt ≤ (km_i M 61).toInt ∧ (km_i M 61).toInt ≤ 500 ∧ (km_i M 62 ≠ 0 → (km_i M 64).toInt < (km_i M 65).toInt) ∧ 0 ≤ (km_i M 5).toInt ∧ (km_i M 5).toInt < 6
theorem it_ke {I A : List Nat} {M M' : km_S} (d : ∀ j ∈ [5, 60, 61, 62, 64, 65], j ∉ I) (K : ke_ I A M M') (h : it_ M) : it_ M' := by
  unfold it_
  rw [K.1 5 (d 5 (by decide)), K.1 60 (d 60 (by decide)), K.1 61 (d 61 (by decide)), K.1 62 (d 62 (by decide)), K.1 64 (d 64 (by decide)), K.1 65 (d 65 (by decide))]
  exact h
abbrev ir_ (M : km_S) : Nat → Int32 := fun i => km_a M 56 (900 * (km_i M 5).toNatClampNeg + i)
theorem rz_step2 {M : km_S} {Q : km_S → Prop} (T : it_ M) (kk : ∀ M', ke_ [60, 62, 63, 64, 65] [] M M' → it_ M' → (km_i M 65).toInt ≤ (km_i M' 64).toInt → Q M') : wX12_step M Q := by
  obtain ⟨t1, t2, t3, t4, t5, t6, t7⟩ := T
  refine rz_step (by rw [t3]; omega) (by rw [t3]; omega) t5 (fun M' S => kk M' S.1 ?_ (by have := S.2.1; rw [t3] at this; exact this))
  obtain ⟨K, s1, s2, s3, s4, s5⟩ := S
  rw [t3] at s1
  unfold it_
  rw [K.1 61 (by decide), K.1 5 (by decide)]
  exact ⟨by omega, s2, s3, s4, t5, s5, t7⟩
theorem rz_wrong2 {c : Int32} {M : km_S} {Q : km_S → Prop} (hc : c ≠ 0) (kk : ∀ M', ke_ [66, 67] [] M M' → km_i M' 66 ≠ 0 → Q M') : wX12_wrong c M Q := by
  refine ⟨fun _ M2 e2 M3 e3 => ?_, fun h => kk M ke_refl h⟩
  rw [e3, e2]
  exact kk _ (ke_si (by decide) (ke_si (by decide) ke_refl)) hc
theorem rz_emit2 {c : Int32} {M : km_S} {Q : km_S → Prop} (T : it_ M) (hc : km_i M 66 = 0 → 0 ≤ (km_i M 59).toInt ∧ (km_i M 59).toInt < 900) (k0 : km_i M 66 ≠ 0 → Q M)
    (k1 : km_i M 66 = 0 → ∀ M', ke_ [59] [56] M M' → km_i M' 59 = km_i M 59 + 1 → km_a M' 56 = upd (km_a M 56) (900 * (km_i M 5).toNatClampNeg + (km_i M 59).toNatClampNeg) c → Q M') : wX12_emit c M Q := by
  refine ⟨fun b => ?_, k0⟩
  have h := hc b
  have h5 := T.2.2.2.2.2.2
  have z : (900 : Int32).toInt = 900 := by decide
  have m : (900 * km_i M 5).toInt = 900 * (km_i M 5).toInt := by rw [ki_mul (by rw [z]; omega) (by rw [z]; omega), z]
  have a : (900 * km_i M 5 + km_i M 59).toInt = 900 * (km_i M 5).toInt + (km_i M 59).toInt := by rw [ki_add (by rw [m]; omega) (by rw [m]; omega), m]
  have p : (900 * km_i M 5 + km_i M 59).toNatClampNeg = 900 * (km_i M 5).toNatClampNeg + (km_i M 59).toNatClampNeg := by rw [ki_nat, ki_nat, ki_nat, a]; omega
  refine ⟨by rw [ki_in]; omega, fun M2 e2 M3 e3 => ?_⟩
  rw [p] at e2
  rw [e3, e2]
  exact k1 b _ (ke_si (by decide) (ke_sa (by decide) ke_refl)) rfl rfl
abbrev iI : List Nat := [59, 60, 62, 63, 64, 65, 66, 67]
/-- before: room for codes -/
def ic_ (M : km_S) : Prop := km_i M 66 = 0 → 0 ≤ (km_i M 59).toInt ∧ 2 * (km_i M 59).toInt ≤ 3 * (km_i M 64).toInt
/-- a piece read: from M to M' -/
def iq_ (p h : Nat) (M M' : km_S) : Prop := ke_ iI [56] M M' ∧ it_ M' ∧ (km_i M 64).toInt ≤ (km_i M' 64).toInt ∧ (∀ y : Nat, y < 900 * (km_i M 5).toNatClampNeg → km_a M' 56 y = km_a M 56 y) ∧
  (km_i M' 66 = 0 → km_i M 66 = 0 ∧ (km_i M 59).toInt ≤ (km_i M' 59).toInt ∧ 2 * (km_i M' 59).toInt - 2 * (km_i M 59).toInt ≤ 3 * (km_i M' p).toInt - 3 * (km_i M 64).toInt + 1 ∧ (∀ i : Nat, (i : Int) < (km_i M 59).toInt → ir_ M' i = ir_ M i) ∧ ip_ (ir_ M') (km_i M 59).toNatClampNeg (km_i M' 59).toNatClampNeg h)
theorem iq_bad {p h p' h' : Nat} {M M' : km_S} (R : iq_ p h M M') (b : km_i M' 66 ≠ 0) : iq_ p' h' M M' := ⟨R.1, R.2.1, R.2.2.1, R.2.2.2.1, fun x => absurd x b⟩
theorem iq_le {p h h' : Nat} {M M' : km_S} (R : iq_ p h M M') (q : h ≤ h') : iq_ p h' M M' := ⟨R.1, R.2.1, R.2.2.1, R.2.2.2.1, fun x => have o := R.2.2.2.2 x; ⟨o.1, o.2.1, o.2.2.1, o.2.2.2.1, ip_le o.2.2.2.2 q⟩⟩
theorem iq_self {p h : Nat} {M : km_S} (T : it_ M) (b : km_i M 66 ≠ 0) : iq_ p h M M := ⟨ke_refl, T, Int.le_refl _, fun _ _ => rfl, fun x => absurd x b⟩
/-- wrong, and so done -/
theorem iq_wrong {p h : Nat} {M M' : km_S} {A : List Nat} (K : ke_ [66, 67] A M M') (hA : A = []) (T : it_ M) (b : km_i M' 66 ≠ 0) : iq_ p h M M' := by
  subst hA
  exact ⟨ke_mono (by decide) (by decide) K, it_ke (by decide) K T, by rw [K.1 64 (by decide)]; exact Int.le_refl _, fun y _ => by rw [K.2 56 (by decide)], fun x => absurd x b⟩
theorem iq_then {p h p' h' : Nat} {A B C : km_S} (R : ke_ iI [56] A B) (l : (km_i A 64).toInt ≤ (km_i B 64).toInt) (s : ∀ y : Nat, y < 900 * (km_i A 5).toNatClampNeg → km_a B 56 y = km_a A 56 y) (S : iq_ p h B C) (b : km_i C 66 ≠ 0) : iq_ p' h' A C := by
  refine ⟨ke_trans R S.1, S.2.1, by have := S.2.2.1; omega, fun y hy => ?_, fun x => absurd x b⟩
  rw [S.2.2.2.1 y (by rw [R.1 5 (by decide)]; exact hy)]
  exact s y hy
/-- the next token after a piece -/
theorem rz_next {h : Nat} {M M2 : km_S} {Q : km_S → Prop} (R : iq_ 65 h M M2) (kk : ∀ M3, iq_ 64 h M M3 → Q M3) : wX12_step M2 Q := by
  refine rz_step2 R.2.1 (fun M3 K T l => kk M3 ?_)
  obtain ⟨r1, r2, r3, r4, r5⟩ := R
  have t2 := r2.2.1
  refine ⟨ke_trans r1 (ke_mono (by decide) (by decide) K), T, by omega, fun y hy => by rw [K.2 56 (by decide)]; exact r4 y hy, fun x => ?_⟩
  rw [K.1 66 (by decide)] at x
  have o := r5 x
  have er : ir_ M3 = ir_ M2 := by unfold ir_; rw [K.1 5 (by decide), K.2 56 (by decide)]
  rw [er, K.1 59 (by decide)]
  exact ⟨o.1, o.2.1, by omega, o.2.2.2.1, o.2.2.2.2⟩
def rs_ (h : Nat) (w : km_S → (km_S → Prop) → Prop) : Prop := ∀ (M : km_S) (Q : km_S → Prop), it_ M → ic_ M → (∀ M', iq_ 64 h M M' → Q M') → w M Q
/-- an operator's step, its second piece, its code -/
theorem rz_op {h1 h2 h : Nat} {c : Int32} {w : km_S → (km_S → Prop) → Prop} {M M2 : km_S} {Q : km_S → Prop} (hw : rs_ h2 w) (hh1 : h1 ≤ h) (hh2 : h2 + 1 ≤ h) (c0 : c ≠ 0) (c20 : ¬ 20 ≤ c) (c9 : c ≠ 9) (IC : ic_ M) (R : iq_ 64 h1 M M2) (b2 : km_i M2 66 = 0) (k2 : km_i M2 62 ≠ 0)
    (kk : ∀ M5, iq_ 64 h M M5 → (km_i M2 64).toInt < (km_i M5 64).toInt → Q M5) : wX12_step M2 (fun μ1 => w μ1 (fun μ2 => wX12_emit c μ2 Q)) := by
  obtain ⟨r1, r2, r3, r4, r5⟩ := R
  have o2 := r5 b2
  have ic := IC o2.1
  have tl := r2.2.2.2.2.2.1 k2
  refine rz_step2 r2 (fun M3 K3 T3 l3 => ?_)
  have e59 : km_i M3 59 = km_i M2 59 := K3.1 59 (by decide)
  have K3' : ke_ iI [56] M2 M3 := ke_mono (by decide) (by decide) K3
  have s3 : ir_ M3 = ir_ M2 := by unfold ir_; rw [K3.1 5 (by decide), K3.2 56 (by decide)]
  refine hw M3 _ T3 (fun _ => by rw [e59]; omega) (fun M4 R4 => ?_)
  have l4 := R4.2.2.1
  have s43 : ∀ y : Nat, y < 900 * (km_i M 5).toNatClampNeg → km_a M3 56 y = km_a M 56 y := fun y hy => by rw [K3.2 56 (by decide)]; exact r4 y hy
  refine rz_emit2 R4.2.1 (fun b4 => ?_) (fun b4 => kk M4 (iq_then (ke_trans r1 K3') (by omega) s43 R4 b4) (by omega)) (fun b4 M5 K5 i5 a5 => ?_)
  · have o4 := R4.2.2.2.2 b4
    have t4 := R4.2.1
    have := t4.2.1
    have := t4.2.2.2.1
    have := t4.2.2.2.2.1
    rw [e59] at o4
    omega
  · obtain ⟨q1, q2, q3, q4, q5⟩ := R4
    have o4 := q5 b4
    rw [e59] at o4
    have := q2.2.1
    have := q2.2.2.2.1
    have := q2.2.2.2.2.1
    have ii := ki_inc (a := km_i M4 59) (by omega) (by omega)
    have f5 : km_i M4 5 = km_i M 5 := (q1.1 5 (by decide)).trans ((K3.1 5 (by decide)).trans (r1.1 5 (by decide)))
    have g5 : km_i M5 5 = km_i M 5 := (K5.1 5 (by decide)).trans f5
    have e2 : km_i M2 5 = km_i M 5 := r1.1 5 (by decide)
    obtain ⟨n4, en4⟩ : ∃ n, n = (km_i M4 59).toNatClampNeg := ⟨_, rfl⟩
    have hn4 : (n4 : Int) = (km_i M4 59).toInt := by rw [en4, ki_nat]; omega
    obtain ⟨n2, en2⟩ : ∃ n, n = (km_i M2 59).toNatClampNeg := ⟨_, rfl⟩
    have hn2 : (n2 : Int) = (km_i M2 59).toInt := by rw [en2, ki_nat]; omega
    obtain ⟨n0, en0⟩ : ∃ n, n = (km_i M 59).toNatClampNeg := ⟨_, rfl⟩
    have hn0 : (n0 : Int) = (km_i M 59).toInt := by rw [en0, ki_nat]; omega
    have x5 : ∀ i : Nat, ir_ M5 i = if i = n4 then c else ir_ M4 i := by
      intro i
      show km_a M5 56 _ = if i = n4 then c else km_a M4 56 _
      rw [a5, g5, f5, ← en4]
      by_cases q : i = n4
      · rw [q, if_pos rfl, ku_self]
      · rw [if_neg q, ku_ne (by omega)]
    have row4 : ∀ i : Nat, i < n2 → ir_ M4 i = ir_ M2 i := fun i hi => by rw [o4.2.2.2.1 i (by omega), s3]
    refine kk M5 ⟨ke_trans (ke_trans r1 K3') (ke_trans q1 (ke_mono (by decide) (by decide) K5)), it_ke (by decide) K5 q2, by rw [K5.1 64 (by decide)]; omega, fun y hy => ?_, fun b5 => ⟨o2.1, ?_, ?_, fun i hi => ?_, ?_⟩⟩ (by rw [K5.1 64 (by decide)]; omega)
    · rw [a5, ku_ne (by rw [f5]; omega), q4 y (by rw [K3.1 5 (by decide), e2]; exact hy)]
      exact s43 y hy
    · rw [i5]; omega
    · rw [i5, K5.1 64 (by decide)]; omega
    · rw [x5 i, if_neg (by omega), row4 i (by omega)]
      exact o2.2.2.2.1 i hi
    · have i5n : (km_i M5 59).toNatClampNeg = n4 + 1 := by rw [i5, ki_nat]; omega
      have A := o2.2.2.2.2
      have B := o4.2.2.2.2
      rw [← en0, ← en2] at A
      rw [← en2, ← en4] at B
      have lb := B.1
      rw [i5n, ← en0]
      exact ip_bin (ip_of A (fun i _ hi => by rw [x5 i, if_neg (by omega), row4 i hi])) (ip_of B (fun i _ hi => by rw [x5 i, if_neg (by omega)])) hh1 hh2 (by rw [x5, if_pos rfl]; exact c0) (by rw [x5, if_pos rfl]; exact c20) (by rw [x5, if_pos rfl]; exact c9)
theorem rz_isSign {s : Int32} {M : km_S} {Q : Int32 → km_S → Prop} (k0 : Q 0 M) (k1 : km_i M 62 = 3 → Q 1 M) : wX12_isSign s M Q := ⟨fun _ => k0, fun c => ⟨fun _ => k0, fun _ => k1 c⟩⟩
theorem rz_isWord2 {l : Nat} {M : km_S} {Q : Int32 → km_S → Prop} (hl : l < 12) (T : it_ M) (k0 : Q 0 M) (k1 : km_i M 62 = 1 → Q 1 M) : wX12_isWord l M Q := by
  obtain ⟨t1, t2, t3, t4, t5, t6, t7⟩ := T
  exact rz_isWord hl t1 t2 (by omega) k0 k1
end
section
/-! the reader, level by level -/
abbrev rt_ : Type := Int32 → km_S → (km_S → Prop) → Prop
theorem rs_part {re : rt_} {l : Int32} {h : Nat} (h1 : 1 ≤ h) (hre : rs_ h (re (l + 1))) : rs_ h (wX12_readPart re l) := by
  intro M Q T IC kk
  have R200 : ∀ M2, iq_ 65 h M M2 → wX12_readPart_200 re Q M2 := fun M2 R => ⟨fun b => kk M2 (iq_bad R b), fun _ => rz_next R kk⟩
  have B200 : ∀ M2, ke_ [66, 67] [] M M2 → km_i M2 66 ≠ 0 → wX12_readPart_200 re Q M2 := fun M2 K b => R200 M2 (iq_wrong K rfl T b)
  obtain ⟨t1, t2, t3, t4, t5, t6, t7⟩ := id T
  refine ⟨fun b0 => ⟨fun k2 => ⟨fun k1 => ?_, fun k1 => ?_⟩, fun k2 => ?_⟩, fun b0 => kk M (iq_self T b0)⟩
  · have W : ∀ M2, it_ M2 → ke_ iI [56] M M2 → (km_i M 64).toInt ≤ (km_i M2 64).toInt → (∀ y : Nat, y < 900 * (km_i M 5).toNatClampNeg → km_a M2 56 y = km_a M 56 y) → wX12_wrong 1 M2 (fun μ27 => wX12_readPart_200 re Q μ27) := fun M2 T2 K2 l2 s2 => rz_wrong2 (by decide) (fun M3 K3 b3 => R200 M3 (iq_then (p := 65) (h := 0) K2 l2 s2 (iq_wrong K3 rfl T2 b3) b3))
    refine rz_isSign ⟨fun _ => W M T ke_refl (Int.le_refl _) (fun _ _ => rfl), fun x => absurd rfl x⟩ (fun k3 => ⟨fun x => absurd x (by decide), fun _ => ?_⟩)
    refine rz_step2 T (fun M1 K1 T1 l1 => ?_)
    have K1' : ke_ iI [56] M M1 := ke_mono (by decide) (by decide) K1
    have e59 : km_i M1 59 = km_i M 59 := K1.1 59 (by decide)
    have tl := t6 (by rw [k3]; decide)
    have s1 : ir_ M1 = ir_ M := by unfold ir_; rw [K1.1 5 (by decide), K1.2 56 (by decide)]
    have s2 : ∀ y : Nat, y < 900 * (km_i M 5).toNatClampNeg → km_a M1 56 y = km_a M 56 y := fun y _ => by rw [K1.2 56 (by decide)]
    refine hre M1 _ T1 (fun _ => by rw [e59]; have := IC b0; omega) (fun M2 R2 => ?_)
    have l2 := R2.2.2.1
    have u2 := R2.2.1.2.1
    have s3 : ∀ y : Nat, y < 900 * (km_i M 5).toNatClampNeg → km_a M2 56 y = km_a M 56 y := fun y hy => by rw [R2.2.2.2.1 y (by rw [K1.1 5 (by decide)]; exact hy)]; exact s2 y hy
    have G : iq_ 65 h M M2 := ⟨ke_trans K1' R2.1, R2.2.1, by omega, s3, fun b => by
      have o := R2.2.2.2.2 b
      rw [e59, s1] at o
      exact ⟨b0, o.2.1, by omega, o.2.2.2.1, o.2.2.2.2⟩⟩
    refine ⟨fun _ => R200 M2 G, fun b2 => rz_isSign ⟨fun x => absurd rfl x, fun _ => W M2 G.2.1 G.1 G.2.2.1 G.2.2.2.1⟩ (fun _ => ⟨fun _ => R200 M2 G, fun x => absurd x (by decide)⟩)⟩
  · have L : ∀ (n : Nat) (v i : Int32), (v = -1 ∨ (0 ≤ v.toInt ∧ v.toInt < 7)) → 0 ≤ i.toInt → i.toInt ≤ 7 → 7 - i.toInt < (n : Int) → wX12_readPart_103 re (wX12_readPart_130 re (wX12_readPart_200 re Q) Q) Q n v i M := by
      intro n
      induction n with
      | zero => intro v i hv g1 g2 g3; omega
      | succ n ih =>
        intro v i hv g1 g2 g3
        have z7 : (7 : Int32).toInt = 7 := by decide
        have z20 : (20 : Int32).toInt = 20 := by decide
        refine ⟨fun c => ⟨fun d => ?_, fun d => ?_⟩, fun c => ?_⟩
        · have hv7 : 0 ≤ v.toInt ∧ v.toInt < 7 := hv.elim (fun x => absurd x d) id
          have ic := IC b0
          have tl := t6 (by rw [k1]; decide)
          have va := ki_add (a := 20) (b := v) (by omega) (by omega)
          refine rz_emit2 T (fun _ => by omega) (fun b => absurd b0 b) (fun _ M2 K2 i2 a2 => R200 M2 ?_)
          have ii := ki_inc (a := km_i M 59) (by omega) (by omega)
          obtain ⟨n0, en0⟩ : ∃ n, n = (km_i M 59).toNatClampNeg := ⟨_, rfl⟩
          have hn0 : (n0 : Int) = (km_i M 59).toInt := by rw [en0, ki_nat]; omega
          have x2 : ∀ i : Nat, ir_ M2 i = if i = n0 then 20 + v else ir_ M i := by
            intro i
            show km_a M2 56 _ = if i = n0 then 20 + v else km_a M 56 _
            rw [a2, K2.1 5 (by decide), ← en0]
            by_cases q : i = n0
            · rw [q, if_pos rfl, ku_self]
            · rw [if_neg q, ku_ne (by omega)]
          refine ⟨ke_mono (by decide) (by decide) K2, it_ke (by decide) K2 T, by rw [K2.1 64 (by decide)]; omega, fun y hy => by rw [a2, ku_ne (by omega)], fun b => ⟨b0, by rw [i2]; omega, by rw [i2, K2.1 65 (by decide)]; omega, fun i hi => by rw [x2 i, if_neg (by omega)], ?_⟩⟩
          have i2n : (km_i M2 59).toNatClampNeg = n0 + 1 := by rw [i2, ki_nat]; omega
          have z27 : (27 : Int32).toInt = 27 := by decide
          rw [i2n, ← en0]
          exact ip_le (ip_name (by rw [x2, if_pos rfl, ki_le]; omega) (by rw [x2, if_pos rfl, ki_lt]; omega)) h1
        · exact rz_wrong2 (by decide) (fun M2 K2 b2 => rz_emit2 (it_ke (by decide) K2 T) (fun x => absurd x b2) (fun _ => B200 M2 K2 b2) (fun x => absurd x b2))
        · rw [ki_le, z7] at c
          have ii := ki_inc (a := i) (by omega) (by omega)
          refine ⟨by rw [ki_in]; omega, rz_isWord2 (by rw [ki_nat]; omega) T ⟨fun _ w ew => ?_, fun x => absurd rfl x⟩ (fun _ => ⟨fun x => absurd x (by decide), fun _ w ew => ?_⟩)⟩
          · rw [ew]; exact ih v (i + 1) hv (by omega) (by omega) (by omega)
          · rw [ew]; exact ih i (i + 1) (.inr ⟨by omega, by omega⟩) (by omega) (by omega) (by omega)
    exact ⟨8, L 8 (-1) 0 (.inl rfl) (by decide) (by decide) (by decide)⟩
  · have tl := t6 (by rw [k2]; decide)
    refine ⟨fun _ v ev => ⟨501, ?_⟩, fun _ => rz_wrong2 (by decide) (fun M2 K2 b2 v ev => ⟨1, ?_⟩)⟩
    · have ic := IC b0
      have L : ∀ (n : Nat) (w i : Int32), 0 ≤ i.toInt → i.toInt ≤ 500 → 500 - i.toInt < (n : Int) → wX12_readPart_42 re (wX12_readPart_78 re (wX12_readPart_200 re Q) Q) Q n w i M := by
        intro n
        induction n with
        | zero => intro w i g1 g2 g3; omega
        | succ n ih =>
          intro w i g1 g2 g3
          have E : wX12_readPart_78 re (wX12_readPart_200 re Q) Q w M := by
            refine rz_emit2 T (fun _ => by omega) (fun b => absurd b0 b) (fun _ M2 K2 i2 a2 => ?_)
            have ii := ki_inc (a := km_i M 59) (by omega) (by omega)
            have b2 : km_i M2 66 = 0 := (K2.1 66 (by decide)).trans b0
            have T2 := it_ke (by decide) K2 T
            refine rz_emit2 T2 (fun _ => by rw [i2]; omega) (fun b => absurd b2 b) (fun _ M3 K3 i3 a3 => R200 M3 ?_)
            have ii2 := ki_inc (a := km_i M2 59) (by rw [i2]; omega) (by rw [i2]; omega)
            obtain ⟨n0, en0⟩ : ∃ n, n = (km_i M 59).toNatClampNeg := ⟨_, rfl⟩
            have hn0 : (n0 : Int) = (km_i M 59).toInt := by rw [en0, ki_nat]; omega
            have i2n : (km_i M2 59).toNatClampNeg = n0 + 1 := by rw [i2, ki_nat]; omega
            have i3n : (km_i M3 59).toNatClampNeg = n0 + 2 := by rw [i3, ki_nat, ii2, i2]; omega
            rw [K2.1 5 (by decide), i2n] at a3
            rw [← en0] at a2
            have x3 : ∀ i : Nat, ir_ M3 i = if i = n0 + 1 then w else if i = n0 then 0 else ir_ M i := by
              intro i
              show km_a M3 56 _ = if i = n0 + 1 then w else if i = n0 then 0 else km_a M 56 _
              rw [a3, K3.1 5 (by decide), K2.1 5 (by decide)]
              by_cases q : i = n0 + 1
              · rw [q, if_pos rfl, ku_self]
              · rw [if_neg q, ku_ne (by omega), a2]
                by_cases q2 : i = n0
                · rw [q2, if_pos rfl, ku_self]
                · rw [if_neg q2, ku_ne (by omega)]
            refine ⟨ke_trans (ke_mono (by decide) (by decide) K2) (ke_mono (by decide) (by decide) K3), it_ke (by decide) K3 T2, by rw [K3.1 64 (by decide), K2.1 64 (by decide)]; omega, fun y hy => by rw [a3, ku_ne (by omega), a2, ku_ne (by omega)], fun b => ⟨b0, by rw [i3, ii2, i2]; omega, by rw [i3, ii2, i2, K3.1 65 (by decide), K2.1 65 (by decide)]; omega, fun i hi => by rw [x3 i, if_neg (by omega), if_neg (by omega)], ?_⟩⟩
            rw [i3n, ← en0]
            exact ip_le (ip_num (by rw [x3, if_neg (by omega), if_pos rfl])) h1
          refine ⟨fun _ => E, fun c => ⟨fun b => absurd b0 b, fun _ => ?_⟩⟩
          rw [ki_le] at c
          have ii := ki_inc (a := i) (by omega) (by omega)
          refine ⟨by rw [ki_in]; omega, fun v17 _ v18 e18 => ?_⟩
          rw [e18]
          exact ih v17 (i + 1) (by omega) (by omega) (by omega)
      rw [ev]
      exact L 501 0 (km_i M 64) (by omega) (by omega) (by omega)
    · have T2 := it_ke (by decide) K2 T
      have E : wX12_readPart_78 re (wX12_readPart_200 re Q) Q 0 M2 := rz_emit2 T2 (fun x => absurd x b2) (fun _ => rz_emit2 T2 (fun x => absurd x b2) (fun _ => B200 M2 K2 b2) (fun x => absurd x b2)) (fun x => absurd x b2)
      exact ⟨fun _ => E, fun _ => ⟨fun _ => E, fun x => absurd x b2⟩⟩
theorem rs_readTerm {re : rt_} {l : Int32} {h : Nat} (hp : rs_ h (wX12_readPart re l)) : rs_ (h + 1) (wX12_readTerm re l) := by
  intro M Q T IC kk
  refine hp M _ T IC (fun M1 R1 => ⟨502, ?_⟩)
  have L : ∀ (n : Nat) (M2 : km_S), iq_ 64 (h + 1) M M2 → 500 - (km_i M2 64).toInt < (n : Int) → wX12_readTerm_5 re Q n l M2 := by
    intro n
    induction n with
    | zero =>
      intro M2 R g
      obtain ⟨t1, t2, t3, t4, t5, t6, t7⟩ := R.2.1
      omega
    | succ n ih =>
      intro M2 R g
      refine ⟨fun _ => kk M2 R, fun b => ?_⟩
      have O : ∀ c : Int32, c ≠ 0 → ¬ 20 ≤ c → c ≠ 9 → km_i M2 62 = 3 → wX12_readTerm_44 re (wX12_readTerm_5 re Q n) Q l c M2 := fun c c1 c2 c3 k => rz_op hp (Nat.le_refl _) (Nat.le_refl _) c1 c2 c3 IC R b (by rw [k]; decide) (fun M5 R5 g5 => ih M5 R5 (by omega))
      have P : km_i M2 62 = 3 → wX12_readTerm_30 re (wX12_readTerm_5 re Q n) Q l M2 := fun k => rz_isSign ⟨fun _ => O 4 (by decide) (by decide) (by decide) k, fun x => absurd rfl x⟩ (fun k' => ⟨fun x => absurd x (by decide), fun _ => O 3 (by decide) (by decide) (by decide) k'⟩)
      exact rz_isSign ⟨fun x => absurd rfl x, fun _ => rz_isSign ⟨fun _ => kk M2 R, fun x => absurd rfl x⟩ (fun k => ⟨fun x => absurd x (by decide), fun _ => P k⟩)⟩ (fun k => ⟨fun _ => P k, fun x => absurd x (by decide)⟩)
  have t1 := R1.2.1.1
  exact L 502 M1 (iq_le R1 (by omega)) (by omega)
theorem rs_readSum {re : rt_} {l : Int32} {h : Nat} (hp : rs_ h (wX12_readTerm re l)) : rs_ (h + 1) (wX12_readSum re l) := by
  intro M Q T IC kk
  refine hp M _ T IC (fun M1 R1 => ⟨502, ?_⟩)
  have L : ∀ (n : Nat) (M2 : km_S), iq_ 64 (h + 1) M M2 → 500 - (km_i M2 64).toInt < (n : Int) → wX12_readSum_5 re Q n l M2 := by
    intro n
    induction n with
    | zero =>
      intro M2 R g
      obtain ⟨t1, t2, t3, t4, t5, t6, t7⟩ := R.2.1
      omega
    | succ n ih =>
      intro M2 R g
      refine ⟨fun _ => kk M2 R, fun b => ?_⟩
      have O : ∀ c : Int32, c ≠ 0 → ¬ 20 ≤ c → c ≠ 9 → km_i M2 62 = 3 → wX12_readSum_44 re (wX12_readSum_5 re Q n) Q l c M2 := fun c c1 c2 c3 k => rz_op hp (Nat.le_refl _) (Nat.le_refl _) c1 c2 c3 IC R b (by rw [k]; decide) (fun M5 R5 g5 => ih M5 R5 (by omega))
      have P : km_i M2 62 = 3 → wX12_readSum_30 re (wX12_readSum_5 re Q n) Q l M2 := fun k => rz_isSign ⟨fun _ => O 2 (by decide) (by decide) (by decide) k, fun x => absurd rfl x⟩ (fun k' => ⟨fun x => absurd x (by decide), fun _ => O 1 (by decide) (by decide) (by decide) k'⟩)
      exact rz_isSign ⟨fun x => absurd rfl x, fun _ => rz_isSign ⟨fun _ => kk M2 R, fun x => absurd rfl x⟩ (fun k => ⟨fun x => absurd x (by decide), fun _ => P k⟩)⟩ (fun k => ⟨fun _ => P k, fun x => absurd x (by decide)⟩)
  have t1 := R1.2.1.1
  exact L 502 M1 (iq_le R1 (by omega)) (by omega)
theorem rs_test {re : rt_} {l : Int32} {h : Nat} (hp : rs_ h (wX12_readSum re l)) : rs_ (h + 1) (wX12_readTest re l) := by
  intro M Q T IC kk
  have S : ∀ (N : Int32) (M1 : km_S), it_ M1 → ic_ M1 → (∀ M2, iq_ 64 (h + 1) M1 M2 → wX12_readTest_76 re Q N M2) → wX12_readTest_16 re Q l N M1 := by
    intro N M1 T1 IC1 k76
    refine hp M1 _ T1 IC1 (fun M9 R9 => ⟨fun b => k76 M9 (iq_le R9 (by omega)), fun b => ?_⟩)
    have O : ∀ c : Int32, c ≠ 0 → ¬ 20 ≤ c → c ≠ 9 → km_i M9 62 = 3 → wX12_readTest_61 re (wX12_readTest_76 re Q) Q l N c M9 := fun c c1 c2 c3 k => rz_op hp (Nat.le_succ _) (Nat.le_refl _) c1 c2 c3 IC1 R9 b (by rw [k]; decide) (fun M5 R5 _ => k76 M5 R5)
    have P : km_i M9 62 = 3 → wX12_readTest_46 re (wX12_readTest_76 re Q) Q l N M9 := fun k => rz_isSign ⟨fun _ => O 6 (by decide) (by decide) (by decide) k, fun x => absurd rfl x⟩ (fun k' => ⟨fun x => absurd x (by decide), fun _ => O 5 (by decide) (by decide) (by decide) k'⟩)
    exact rz_isSign ⟨fun x => absurd rfl x, fun _ => rz_isSign ⟨fun _ => k76 M9 (iq_le R9 (by omega)), fun x => absurd rfl x⟩ (fun k => ⟨fun x => absurd x (by decide), fun _ => P k⟩)⟩ (fun k => ⟨fun _ => P k, fun x => absurd x (by decide)⟩)
  refine rz_isWord2 (by decide) T ⟨fun _ => S 0 M T IC (fun M2 R2 => ⟨fun _ => kk M2 R2, fun x => absurd rfl x⟩), fun x => absurd rfl x⟩ (fun kw => ⟨fun x => absurd x (by decide), fun _ => ?_⟩)
  obtain ⟨t1, t2, t3, t4, t5, t6, t7⟩ := id T
  have tl := t6 (by rw [kw]; decide)
  refine rz_step2 T (fun M1 K1 T1 l1 => ?_)
  have e59 : km_i M1 59 = km_i M 59 := K1.1 59 (by decide)
  have e66 : km_i M1 66 = km_i M 66 := K1.1 66 (by decide)
  have s1 : ir_ M1 = ir_ M := by unfold ir_; rw [K1.1 5 (by decide), K1.2 56 (by decide)]
  have K1' : ke_ iI [56] M M1 := ke_mono (by decide) (by decide) K1
  have s2 : ∀ y : Nat, y < 900 * (km_i M 5).toNatClampNeg → km_a M1 56 y = km_a M 56 y := fun y _ => by rw [K1.2 56 (by decide)]
  refine S 1 M1 T1 (fun b => by rw [e66] at b; have := IC b; rw [e59]; omega) (fun M2 R2 => ⟨fun x => absurd x (by decide), fun _ => ?_⟩)
  have l2 := R2.2.2.1
  obtain ⟨u1, u2, u3, u4, u5, u6, u7⟩ := id R2.2.1
  refine rz_emit2 R2.2.1 (fun b => ?_) (fun b => kk M2 (iq_then K1' (by omega) s2 R2 b)) (fun b M3 K3 i3 a3 => kk M3 ?_)
  · have o := R2.2.2.2.2 b
    have ic := IC (by rw [← e66]; exact o.1)
    rw [e59] at o
    omega
  · have o := R2.2.2.2.2 b
    have b0 : km_i M 66 = 0 := by rw [← e66]; exact o.1
    have ic := IC b0
    rw [e59, s1] at o
    have ii := ki_inc (a := km_i M2 59) (by omega) (by omega)
    have f5 : km_i M2 5 = km_i M 5 := (R2.1.1 5 (by decide)).trans (K1.1 5 (by decide))
    obtain ⟨n2, en2⟩ : ∃ n, n = (km_i M2 59).toNatClampNeg := ⟨_, rfl⟩
    have hn2 : (n2 : Int) = (km_i M2 59).toInt := by rw [en2, ki_nat]; omega
    have x3 : ∀ i : Nat, ir_ M3 i = if i = n2 then 9 else ir_ M2 i := by
      intro i
      show km_a M3 56 _ = if i = n2 then 9 else km_a M2 56 _
      rw [a3, K3.1 5 (by decide), ← en2]
      by_cases q : i = n2
      · rw [q, if_pos rfl, ku_self]
      · rw [if_neg q, ku_ne (by omega)]
    have i3n : (km_i M3 59).toNatClampNeg = n2 + 1 := by rw [i3, ki_nat]; omega
    refine ⟨ke_trans K1' (ke_trans R2.1 (ke_mono (by decide) (by decide) K3)), it_ke (by decide) K3 R2.2.1, by rw [K3.1 64 (by decide)]; omega, fun y hy => ?_, fun _ => ⟨b0, by rw [i3]; omega, by rw [i3, K3.1 64 (by decide)]; omega, fun i hi => ?_, ?_⟩⟩
    · rw [a3, ku_ne (by rw [f5]; omega), R2.2.2.2.1 y (by rw [K1.1 5 (by decide)]; exact hy)]
      exact s2 y hy
    · rw [x3 i, if_neg (by omega)]
      exact o.2.2.2.1 i hi
    · rw [i3n]
      have A := o.2.2.2.2
      rw [← en2] at A
      exact ip_not (ip_of A (fun i _ hi => by rw [x3 i, if_neg (by omega)])) (by rw [x3, if_pos rfl])
theorem rs_expr {re : rt_} {l : Int32} {h : Nat} (hp : l ≠ 8 → rs_ h (wX12_readTest re l)) : rs_ (h + 1) (wX12_readExpression_b re l) := by
  intro M Q T IC kk
  have B54 : ∀ M2, ke_ [66, 67] [] M M2 → km_i M2 66 ≠ 0 → wX12_readExpression_54 re Q l M2 := fun M2 K b => ⟨fun x => absurd x b, fun _ => kk M2 (iq_wrong K rfl T b)⟩
  have G54 : l ≠ 8 → wX12_readExpression_54 re Q l M := by
    intro hl
    have hp := hp hl
    refine ⟨fun _ => hp M _ T IC (fun M1 R1 => ⟨502, ?_⟩), fun b => kk M (iq_self T b)⟩
    have L : ∀ (n : Nat) (M2 : km_S), iq_ 64 (h + 1) M M2 → 500 - (km_i M2 64).toInt < (n : Int) → wX12_readExpression_67 re Q n l M2 := by
      intro n
      induction n with
      | zero =>
        intro M2 R g
        obtain ⟨t1, t2, t3, t4, t5, t6, t7⟩ := R.2.1
        omega
      | succ n ih =>
        intro M2 R g
        refine ⟨fun _ => kk M2 R, fun b => ?_⟩
        have O : ∀ c : Int32, c ≠ 0 → ¬ 20 ≤ c → c ≠ 9 → km_i M2 62 = 1 → wX12_readExpression_111 re (wX12_readExpression_67 re Q n) Q l c M2 := fun c c1 c2 c3 k => rz_op hp (Nat.le_refl _) (Nat.le_refl _) c1 c2 c3 IC R b (by rw [k]; decide) (fun M5 R5 g5 => ih M5 R5 (by omega))
        have P : km_i M2 62 = 1 → wX12_readExpression_94 re (wX12_readExpression_67 re Q n) Q l M2 := fun k => rz_isWord2 (by decide) R.2.1 ⟨fun _ => O 8 (by decide) (by decide) (by decide) k, fun x => absurd rfl x⟩ (fun k' => ⟨fun x => absurd x (by decide), fun _ => O 7 (by decide) (by decide) (by decide) k'⟩)
        exact rz_isWord2 (by decide) R.2.1 ⟨fun x => absurd rfl x, fun _ => rz_isWord2 (by decide) R.2.1 ⟨fun _ => kk M2 R, fun x => absurd rfl x⟩ (fun k => ⟨fun x => absurd x (by decide), fun _ => P k⟩)⟩ (fun k => ⟨fun _ => P k, fun x => absurd x (by decide)⟩)
    have t1 := R1.2.1.1
    exact L 502 M1 (iq_le R1 (by omega)) (by omega)
  have G30 : wX12_readExpression_30 re Q l 1 M := ⟨fun _ => ⟨fun c => G54 c, fun _ => rz_wrong2 (by decide) B54⟩, fun x => absurd x (by decide)⟩
  have N30 : wX12_readExpression_30 re Q l 0 M := ⟨fun x => absurd rfl x, fun _ => rz_wrong2 (by decide) B54⟩
  exact ⟨fun _ => G30, fun _ => ⟨fun _ => G30, fun _ => rz_isSign ⟨fun _ => N30, fun x => absurd rfl x⟩ (fun _ => ⟨fun x => absurd x (by decide), fun _ => G30⟩)⟩⟩
theorem rs_expression : ∀ (j : Nat) (l : Int32), j ≤ 8 → l.toInt = 8 - (j : Int) → rs_ (1 + 4 * j) (wX12_readExpression (j + 2) l) := by
  intro j
  induction j with
  | zero =>
    intro l _ hl
    have e : l = 8 := ki_eq.2 (by rw [hl]; decide)
    exact rs_expr (re := wX12_readExpression 1) (h := 0) (fun n => absurd e n)
  | succ j ih =>
    intro l hj hl
    have li := ki_inc (a := l) (by omega) (by omega)
    have h1 := rs_part (re := wX12_readExpression (j + 2)) (l := l) (h := 1 + 4 * j) (by omega) (ih (l + 1) (by omega) (by omega))
    exact rs_expr (re := wX12_readExpression (j + 2)) (h := 1 + 4 * j + 3) (fun _ => rs_test (rs_readSum (rs_readTerm h1)))
end
section
/-! a law read whole -/
theorem im_run_of {f g : Nat → Int32} : ∀ (n k e d : Nat), (∀ i, i < e → g i = f i) → im_run f n k e d → im_run g n k e d := by
  intro n
  induction n with
  | zero => intro k e d _ h; exact False.elim h
  | succ n ih =>
    intro k e d hg h
    unfold im_run at h ⊢
    by_cases c : e ≤ k
    · rw [if_pos c] at h ⊢; exact h
    · rw [if_neg c] at h ⊢
      rw [hg k (by omega)]
      split
      · rename_i c; rw [if_pos c] at h; exact ⟨h.1, h.2.1, ih _ _ _ hg h.2.2⟩
      · rename_i c; rw [if_neg c] at h
        split
        · rename_i c; rw [if_pos c] at h; exact ⟨h.1, h.2.1, ih _ _ _ hg h.2.2⟩
        · rename_i c; rw [if_neg c] at h
          split
          · rename_i c; rw [if_pos c] at h; exact ⟨h.1, ih _ _ _ hg h.2⟩
          · rename_i c; rw [if_neg c] at h; exact ⟨h.1, ih _ _ _ hg h.2⟩
theorem im_c_ke {I A : List Nat} {μ M : km_S} (d : ∀ j ∈ [31, 32, 38, 39, 40], j ∉ A) (K : ke_ I A μ M) (h : im_c μ) : im_c M := im_c_of (K.2 31 (d 31 (by decide))) (K.2 32 (d 32 (by decide))) (K.2 38 (d 38 (by decide))) (K.2 39 (d 39 (by decide))) (K.2 40 (d 40 (by decide))) h
theorem im_h_ke {I A : List Nat} {μ M : km_S} (d : ∀ j ∈ [29, 30, 38, 39], j ∉ A) (K : ke_ I A μ M) (h : im_h μ) : im_h M := by
  unfold im_h
  rw [K.2 29 (d 29 (by decide)), K.2 30 (d 30 (by decide)), K.2 38 (d 38 (by decide)), K.2 39 (d 39 (by decide))]
  exact h
theorem im_g_ke {I A : List Nat} {μ M : km_S} (d4 : 4 ∉ I) (d : ∀ j ∈ [35, 36, 38, 39, 40], j ∉ A) (K : ke_ I A μ M) (h : im_g μ) : im_g M := im_g_of (K.1 4 d4) (K.2 35 (d 35 (by decide))) (K.2 36 (d 36 (by decide))) (K.2 38 (d 38 (by decide))) (K.2 39 (d 39 (by decide))) (K.2 40 (d 40 (by decide))) h
theorem im_s_ke {I A : List Nat} {μ M : km_S} (d6 : 6 ∉ I) (d : 38 ∉ A) (K : ke_ I A μ M) (h : im_s μ) : im_s M := im_s_of (K.1 6 d6) (K.2 38 d) h
/-- the rules that are read, k of them, the last one's end told by e -/
def iu_ (M : km_S) (k : Nat) (e : Int32) : Prop := ∀ i : Nat, i < k → 0 ≤ (km_a M 55 (13 * (km_i M 5).toNatClampNeg + i)).toInt ∧ (if i + 1 = k then e else km_a M 55 (13 * (km_i M 5).toNatClampNeg + i + 1)).toInt ≤ (km_i M 59).toInt ∧ ip_ (ir_ M) (km_a M 55 (13 * (km_i M 5).toNatClampNeg + i)).toNatClampNeg (if i + 1 = k then e else km_a M 55 (13 * (km_i M 5).toNatClampNeg + i + 1)).toNatClampNeg 33
def ij_ (μ M : km_S) (k : Nat) : Prop := ke_ iI [55, 56, 58] μ M ∧ it_ M ∧ k ≤ 12 ∧ (∀ y : Nat, y < 900 * (km_i μ 5).toNatClampNeg → km_a M 56 y = km_a μ 56 y) ∧ (∀ y : Nat, y < 13 * (km_i μ 5).toNatClampNeg → km_a M 55 y = km_a μ 55 y) ∧ (km_i M 66 = 0 → 0 ≤ (km_i M 59).toInt ∧ 2 * (km_i M 59).toInt ≤ 3 * (km_i M 64).toInt ∧ iu_ M k (km_i M 59))
/-- what a reading leaves -/
def ik_ (μ M : km_S) : Prop := ke_ iI [54, 55, 56, 58] μ M ∧ (∀ y : Nat, y < 900 * (km_i μ 5).toNatClampNeg → km_a M 56 y = km_a μ 56 y) ∧ (∀ y : Nat, y < 13 * (km_i μ 5).toNatClampNeg → km_a M 55 y = km_a μ 55 y) ∧ (∀ y : Nat, y < (km_i μ 5).toNatClampNeg → km_a M 54 y = km_a μ 54 y) ∧
  (km_i M 66 = 0 → (0 ≤ (km_a M 54 (km_i μ 5).toNatClampNeg).toInt ∧ (km_a M 54 (km_i μ 5).toNatClampNeg).toInt ≤ 12) ∧ ∀ i : Nat, (i : Int) < (km_a M 54 (km_i μ 5).toNatClampNeg).toInt → 0 ≤ (km_a M 55 (13 * (km_i μ 5).toNatClampNeg + i)).toInt ∧ (km_a M 55 (13 * (km_i μ 5).toNatClampNeg + i + 1)).toInt ≤ 900 ∧ im_run (fun j => km_a M 56 (900 * (km_i μ 5).toNatClampNeg + j)) 901 (km_a M 55 (13 * (km_i μ 5).toNatClampNeg + i)).toNatClampNeg (km_a M 55 (13 * (km_i μ 5).toNatClampNeg + i + 1)).toNatClampNeg 0)
theorem ki_13 {a k : Int32} (h1 : 0 ≤ a.toInt) (h2 : a.toInt < 6) (h3 : 0 ≤ k.toInt) (h4 : k.toInt ≤ 12) : vp_in (13 * a + k) 78 ∧ (13 * a + k).toNatClampNeg = 13 * a.toNatClampNeg + k.toNatClampNeg := by
  have z : (13 : Int32).toInt = 13 := by decide
  have m : (13 * a).toInt = 13 * a.toInt := by rw [ki_mul (by rw [z]; omega) (by rw [z]; omega), z]
  have p : (13 * a + k).toInt = 13 * a.toInt + k.toInt := by rw [ki_add (by rw [m]; omega) (by rw [m]; omega), m]
  refine ⟨by rw [ki_in]; omega, by rw [ki_nat, ki_nat, ki_nat, p]; omega⟩
theorem ki_12 {a k : Int32} (h1 : 0 ≤ a.toInt) (h2 : a.toInt < 6) (h3 : 0 ≤ k.toInt) (h4 : k.toInt ≤ 11) : vp_in (12 * a + k) 72 := by
  have z : (12 : Int32).toInt = 12 := by decide
  have m : (12 * a).toInt = 12 * a.toInt := by rw [ki_mul (by rw [z]; omega) (by rw [z]; omega), z]
  have p : (12 * a + k).toInt = 12 * a.toInt + k.toInt := by rw [ki_add (by rw [m]; omega) (by rw [m]; omega), m]
  rw [ki_in]; omega
/-- the end of the last rule written down -/
theorem iu_close {M : km_S} {k : Nat} (U : iu_ M k (km_i M 59)) {F : Nat → Int32} (hF : F = upd (km_a M 55) (13 * (km_i M 5).toNatClampNeg + k) (km_i M 59)) : ∀ i : Nat, i < k → 0 ≤ (F (13 * (km_i M 5).toNatClampNeg + i)).toInt ∧ (F (13 * (km_i M 5).toNatClampNeg + i + 1)).toInt ≤ (km_i M 59).toInt ∧ ip_ (ir_ M) (F (13 * (km_i M 5).toNatClampNeg + i)).toNatClampNeg (F (13 * (km_i M 5).toNatClampNeg + i + 1)).toNatClampNeg 33 := by
  intro i hi
  have o := U i hi
  have e1 : F (13 * (km_i M 5).toNatClampNeg + i) = km_a M 55 (13 * (km_i M 5).toNatClampNeg + i) := by rw [hF, ku_ne (by omega)]
  have e2 : F (13 * (km_i M 5).toNatClampNeg + i + 1) = if i + 1 = k then km_i M 59 else km_a M 55 (13 * (km_i M 5).toNatClampNeg + i + 1) := by
    by_cases c : i + 1 = k
    · rw [if_pos c, hF, Nat.add_assoc, c, ku_self]
    · rw [if_neg c, hF, ku_ne (by omega)]
  rw [e1, e2]
  exact o
theorem rz_readLaw {μ : km_S} {Q : km_S → Prop} (h5 : 0 ≤ (km_i μ 5).toInt ∧ (km_i μ 5).toInt < 6) (h60 : km_i μ 60 = 0) (h61 : 0 ≤ (km_i μ 61).toInt ∧ (km_i μ 61).toInt ≤ 500) (h59 : km_i μ 59 = 0) (kk : ∀ M, ik_ μ M → Q M) : wX12_readLaw μ Q := by
  have z12 : (12 : Int32).toInt = 12 := by decide
  have E147 : ∀ (k : Int32) (M : km_S), 0 ≤ k.toInt → ij_ μ M k.toNatClampNeg → wX12_readLaw_147 Q k M := by
    intro k M hk J
    obtain ⟨j1, j2, j3, j4, j5, j6⟩ := J
    rw [ki_nat] at j3
    have e5 : km_i M 5 = km_i μ 5 := j1.1 5 (by decide)
    have t := ki_13 (a := km_i M 5) (k := k) (by rw [e5]; omega) (by rw [e5]; omega) hk (by omega)
    refine ⟨t.1, fun M2 e2 => ?_⟩
    rw [t.2] at e2
    have f5 : km_i M2 5 = km_i μ 5 := by rw [e2]; exact e5
    refine ⟨by rw [f5, ki_in]; omega, fun M3 e3 => ?_⟩
    rw [f5] at e3
    have K3 : ke_ iI [54, 55, 56, 58] μ M3 := by rw [e3, e2]; exact ke_sa (by decide) (ke_sa (by decide) (ke_mono (by decide) (by decide) j1))
    have a54 : km_a M3 54 = upd (km_a μ 54) (km_i μ 5).toNatClampNeg k := by
      rw [← j1.2 54 (by decide), e3, e2]; rfl
    have a55 : km_a M3 55 = upd (km_a M 55) (13 * (km_i M 5).toNatClampNeg + k.toNatClampNeg) (km_i M 59) := by rw [e3, e2]; rfl
    have a56 : km_a M3 56 = km_a M 56 := by rw [e3, e2]; rfl
    have i66 : km_i M3 66 = km_i M 66 := by rw [e3, e2]; rfl
    clear e3 e2
    refine kk M3 ⟨K3, fun y hy => by rw [a56]; exact j4 y hy, fun y hy => by rw [a55, ku_ne (by rw [e5]; omega)]; exact j5 y hy, fun y hy => by rw [a54, ku_ne (by omega)], fun b => ?_⟩
    rw [i66] at b
    obtain ⟨q1, q2, q3⟩ := j6 b
    have C := iu_close q3 a55
    rw [e5] at C
    rw [a54, ku_self]
    refine ⟨⟨hk, by omega⟩, fun i hi => ?_⟩
    have o := C i (by rw [ki_nat]; omega)
    have t4 := j2.2.1
    have t5 := j2.2.2.2.1
    have t6 := j2.2.2.2.2.1
    refine ⟨o.1, by omega, ?_⟩
    have P := o.2.2
    unfold ir_ at P
    rw [e5] at P
    rw [a56]
    exact ip_end P (by decide) (by rw [ki_nat]; omega)
  have bad : ∀ (k : Nat) (M M2 : km_S), ij_ μ M k → ke_ [66, 67] [] M M2 → km_i M2 66 ≠ 0 → ij_ μ M2 k := fun k M M2 J K b => ⟨ke_trans J.1 (ke_mono (by decide) (by decide) K), it_ke (by decide) K J.2.1, J.2.2.1, fun y hy => by rw [K.2 56 (by decide)]; exact J.2.2.2.1 y hy, fun y hy => by rw [K.2 55 (by decide)]; exact J.2.2.2.2.1 y hy, fun x => absurd x b⟩
  have out : ∀ (k : Nat) (M : km_S), ij_ μ M k → km_i M 66 ≠ 0 → Q M := fun k M J b => kk M ⟨ke_mono (by decide) (by decide) J.1, J.2.2.2.1, J.2.2.2.2.1, fun y _ => by rw [J.1.2 54 (by decide)], fun x => absurd x b⟩
  have L : ∀ (n : Nat) (k : Int32) (M : km_S), 0 ≤ k.toInt → ij_ μ M k.toNatClampNeg → 13 - k.toInt < (n : Int) → wX12_readLaw_6 (wX12_readLaw_147 Q) Q n k M := by
    intro n
    induction n with
    | zero =>
      intro k M hk J g
      have := J.2.2.1
      rw [ki_nat] at this
      omega
    | succ n ih =>
      intro k M hk J g
      have k12 : k.toInt ≤ 12 := by have := J.2.2.1; rw [ki_nat] at this; omega
      have e5 : km_i M 5 = km_i μ 5 := J.1.1 5 (by decide)
      refine ⟨fun _ => E147 k M hk J, fun b => ⟨fun _ => E147 k M hk J, fun kd => ?_⟩⟩
      obtain ⟨q1, q2, q3⟩ := J.2.2.2.2.2 b
      have tl := J.2.1.2.2.2.2.2.1 kd
      have R59 : ∀ (v : Int32) (M2 : km_S), (km_i M2 66 ≠ 0 → ij_ μ M2 k.toNatClampNeg) → (km_i M2 66 = 0 → k ≠ 12 ∧ M2 = M) → wX12_readLaw_59 (wX12_readLaw_6 (wX12_readLaw_147 Q) Q n) Q k v M2 := by
        intro v M2 hb hg
        refine ⟨fun b2 => ?_, fun b2 => out _ M2 (hb b2) b2⟩
        obtain ⟨k12', e⟩ := hg b2
        subst e
        have k11 : k.toInt ≤ 11 := by
          have : k.toInt ≠ 12 := fun x => k12' (ki_eq.2 (x.trans z12.symm))
          omega
        have t := ki_13 (a := km_i M2 5) (k := k) (by rw [e5]; omega) (by rw [e5]; omega) hk (by omega)
        have kn := ki_inc (a := k) (by omega) (by omega)
        refine ⟨ki_12 (by rw [e5]; omega) (by rw [e5]; omega) hk k11, fun M3 e3 => ?_⟩
        have f5 : km_i M3 5 = km_i M2 5 := by rw [e3]; rfl
        rw [f5]
        refine ⟨t.1, fun M4 e4 v14 e14 => ?_⟩
        rw [t.2] at e4
        have K4 : ke_ [] [55, 58] M2 M4 := by rw [e4, e3]; exact ke_sa (by decide) (ke_sa (by decide) ke_refl)
        have a55 : km_a M4 55 = upd (km_a M2 55) (13 * (km_i M2 5).toNatClampNeg + k.toNatClampNeg) (km_i M2 59) := by rw [e4, e3]; rfl
        clear e3 e4
        have C := iu_close q3 a55
        have T4 : it_ M4 := it_ke (by decide) K4 J.2.1
        refine rz_step2 T4 (fun M5 K5 T5 l5 => ?_)
        rw [K4.1 65 (by decide)] at l5
        have c5 : km_i M5 59 = km_i M2 59 := (K5.1 59 (by decide)).trans (K4.1 59 (by decide))
        have b5 : km_i M5 66 = 0 := (K5.1 66 (by decide)).trans ((K4.1 66 (by decide)).trans b2)
        have K5' : ke_ iI [55, 56, 58] μ M5 := ke_trans J.1 (ke_trans (ke_mono (by decide) (by decide) K4) (ke_mono (by decide) (by decide) K5))
        refine rs_expression 8 0 (by decide) (by decide) M5 _ T5 (fun _ => by rw [c5]; omega) (fun M6 R6 => ?_)
        have g5 : km_i M6 5 = km_i μ 5 := (R6.1.1 5 (by decide)).trans (K5'.1 5 (by decide))
        have h5' : km_i M5 5 = km_i μ 5 := K5'.1 5 (by decide)
        have l6 := R6.2.2.1
        have r56 : km_a M5 56 = km_a M2 56 := (K5.2 56 (by decide)).trans (K4.2 56 (by decide))
        have r55 : km_a M6 55 = km_a M4 55 := (R6.1.2 55 (by decide)).trans (K5.2 55 (by decide))
        have s55 : ∀ y : Nat, y < 13 * (km_i μ 5).toNatClampNeg → km_a M6 55 y = km_a μ 55 y := fun y hy => by
          rw [r55, a55, ku_ne (by rw [e5]; omega)]
          exact J.2.2.2.2.1 y hy
        have s56 : ∀ y : Nat, y < 900 * (km_i μ 5).toNatClampNeg → km_a M6 56 y = km_a μ 56 y := fun y hy => by
          rw [R6.2.2.2.1 y (by rw [h5']; exact hy), r56]
          exact J.2.2.2.1 y hy
        have k1n : (k + 1).toNatClampNeg = k.toNatClampNeg + 1 := by rw [ki_nat, ki_nat]; omega
        have k1l : (k + 1).toNatClampNeg ≤ 12 := by rw [ki_nat]; omega
        have J6 : ∀ M7, it_ M7 → ke_ iI [55, 56, 58] M6 M7 → km_a M7 55 = km_a M6 55 → km_a M7 56 = km_a M6 56 → km_i M7 59 = km_i M6 59 → km_i M7 66 = km_i M6 66 → (km_i M6 65).toInt ≤ (km_i M7 64).toInt ∨ km_i M6 66 ≠ 0 → (km_i M6 66 = 0 → (km_i M6 64).toInt < (km_i M6 65).toInt) → ij_ μ M7 (k + 1).toNatClampNeg := by
          intro M7 T7 K7 x55 x56 x59 x66 xl xt
          refine ⟨ke_trans K5' (ke_trans (ke_mono (by decide) (by decide) R6.1) K7), T7, k1l, fun y hy => by rw [x56]; exact s56 y hy, fun y hy => by rw [x55]; exact s55 y hy, fun b7 => ?_⟩
          rw [x66] at b7
          have o := R6.2.2.2.2 b7
          rw [c5] at o
          have xl' : (km_i M6 65).toInt ≤ (km_i M7 64).toInt := xl.elim id (fun z => absurd b7 z)
          have xt' := xt b7
          refine ⟨by rw [x59]; omega, by rw [x59]; omega, ?_⟩
          have x5 : km_i M7 5 = km_i M2 5 := (K7.1 5 (by decide)).trans (g5.trans e5.symm)
          have ir7 : ir_ M7 = ir_ M6 := by unfold ir_; rw [x5, x56, g5, e5]
          have row6 : ∀ i : Nat, (i : Int) < (km_i M2 59).toInt → ir_ M6 i = ir_ M2 i := fun i hi => by
            rw [o.2.2.2.1 i hi]
            unfold ir_
            rw [h5', e5, r56]
          unfold iu_
          rw [ir7, x59, x55, r55, x5, k1n]
          intro i hi
          by_cases c : i = k.toNatClampNeg
          · rw [c, if_pos rfl]
            have u : km_a M4 55 (13 * (km_i M2 5).toNatClampNeg + k.toNatClampNeg) = km_i M2 59 := by rw [a55, ku_self]
            rw [u]
            exact ⟨q1, Int.le_refl _, o.2.2.2.2⟩
          · rw [if_neg (by omega)]
            have cc := C i (by omega)
            refine ⟨cc.1, by omega, ip_of cc.2.2 (fun j _ hj => row6 j ?_)⟩
            rw [ki_nat] at hj
            omega
        rw [e14]
        have R133 : ∀ M7, it_ M7 → ke_ [66, 67] [] M6 M7 → (km_i M7 66 = 0 → km_i M6 66 = 0 ∧ (km_i M6 64).toInt < (km_i M6 65).toInt) → (km_i M7 66 ≠ 0 → ij_ μ M7 (k + 1).toNatClampNeg) → wX12_readLaw_133 (wX12_readLaw_6 (wX12_readLaw_147 Q) Q n) Q (k + 1) M7 := by
          intro M7 T7 K7 hg hb
          refine ⟨fun b7 => ih (k + 1) M7 (by omega) (hb b7) (by omega), fun b7 => rz_step2 T7 (fun M8 K8 T8 l8 => ih (k + 1) M8 (by omega) ?_ (by omega))⟩
          obtain ⟨b6, tl6⟩ := hg b7
          rw [K7.1 65 (by decide)] at l8
          refine J6 M8 T8 (ke_trans (ke_mono (by decide) (by decide) K7) (ke_mono (by decide) (by decide) K8)) ((K8.2 55 (by decide)).trans (K7.2 55 (by decide))) ((K8.2 56 (by decide)).trans (K7.2 56 (by decide))) ((K8.1 59 (by decide)).trans (K7.1 59 (by decide))) ?_ (.inl l8) (fun _ => tl6)
          rw [K8.1 66 (by decide), b7, b6]
        refine ⟨fun b6 => R133 M6 R6.2.1 ke_refl (fun x => absurd x b6) (fun _ => J6 M6 R6.2.1 ke_refl rfl rfl rfl rfl (.inr b6) (fun x => absurd x b6)), fun b6 => rz_isSign ⟨fun x => absurd rfl x, fun _ => ?_⟩ (fun k3 => ⟨fun _ => ?_, fun x => absurd x (by decide)⟩)⟩
        · refine rz_wrong2 (by decide) (fun M7 K7 b7 => R133 M7 (it_ke (by decide) K7 R6.2.1) K7 (fun x => absurd x b7) (fun _ => ?_))
          refine ⟨ke_trans K5' (ke_trans (ke_mono (by decide) (by decide) R6.1) (ke_mono (by decide) (by decide) K7)), it_ke (by decide) K7 R6.2.1, k1l, fun y hy => by rw [K7.2 56 (by decide)]; exact s56 y hy, fun y hy => by rw [K7.2 55 (by decide)]; exact s55 y hy, fun x => absurd x b7⟩
        · have tl6 := R6.2.1.2.2.2.2.2.1 (by rw [k3]; decide)
          exact R133 M6 R6.2.1 ke_refl (fun _ => ⟨b6, tl6⟩) (fun x => absurd b6 x)
      have R48 : ∀ v : Int32, wX12_readLaw_48 (wX12_readLaw_59 (wX12_readLaw_6 (wX12_readLaw_147 Q) Q n) Q) Q k v M := fun v => ⟨fun c => R59 v M (fun x => absurd b x) (fun _ => ⟨c, rfl⟩), fun _ => rz_wrong2 (by decide) (fun M2 K2 b2 => R59 v M2 (fun _ => bad _ M M2 J K2 b2) (fun x => absurd x b2))⟩
      exact rz_isWord2 (by decide) J.2.1 ⟨fun x => absurd rfl x, fun _ => rz_isWord2 (by decide) J.2.1 ⟨fun x => absurd rfl x, fun _ => rz_wrong2 (by decide) (fun M2 K2 b2 => R59 0 M2 (fun _ => bad _ M M2 J K2 b2) (fun x => absurd x b2))⟩ (fun _ => ⟨fun _ => R48 0, fun x => absurd x (by decide)⟩)⟩ (fun _ => ⟨fun _ => R48 1, fun x => absurd x (by decide)⟩)
  refine rz_step (by rw [h60]; decide) (by rw [h60, ki_z0]; omega) h61.2 (fun M S => ⟨14, ?_⟩)
  obtain ⟨K, s1, s2, s3, s4, s5⟩ := S
  rw [h60, ki_z0] at s1
  have c0 : km_i M 59 = 0 := (K.1 59 (by decide)).trans h59
  refine L 14 0 M (by decide) ⟨ke_mono (by decide) (by decide) K, ?_, by decide, fun y _ => by rw [K.2 56 (by decide)], fun y _ => by rw [K.2 55 (by decide)], fun _ => ⟨by rw [c0]; decide, by rw [c0, ki_z0]; omega, fun i hi => absurd hi (Nat.not_lt_zero i)⟩⟩ (by decide)
  unfold it_
  rw [K.1 61 (by decide), K.1 5 (by decide)]
  exact ⟨s1, s2, s3, s4, h61.2, s5, h5⟩
end
section
def z_law (n b : Int32) (σ : sz_T) : Int32 × sz_T := if n < 0 ∨ σ.1.2.2.2.2.1 < n ∨ b < 0 ∨ ¬ b ≤ 1000 then (1, σ) else (0, ((σ.1.1, σ.1.2.1, σ.1.2.2.1, σ.1.2.2.2.1, 0, σ.1.2.2.2.2.2), σ.2))
abbrev py_ (z : Int32 × sz_T) : Int32 → km_S → Prop := fun _ μ => im_ μ ∧ (km_i μ 1, sm_ μ) = z
theorem rz_law {n b : Int32} {μ : km_S} (I : im_ μ) : wX12_law n b μ (py_ (z_law n b (sm_ μ))) := by
  intro μ1 e1
  have I1 : im_ μ1 := by rw [e1]; exact im_code 0 I
  have s1 : sm_ μ1 = sm_ μ := by rw [e1]; rfl
  have k1 : km_i μ1 1 = 0 := by rw [e1]; rfl
  rw [← s1]
  clear e1 s1 I
  have no : (n < 0 ∨ km_i μ1 9 < n ∨ b < 0 ∨ ¬ b ≤ 1000) → wX12_law_28 (py_ (z_law n b (sm_ μ1))) μ1 := fun c μ2 e2 => by
    subst e2
    refine ⟨im_code 1 I1, ?_⟩
    unfold z_law
    rw [if_pos (show n < 0 ∨ (sm_ μ1).1.2.2.2.2.1 < n ∨ b < 0 ∨ ¬ b ≤ 1000 from c)]
    rfl
  refine ⟨fun c1 => no (.inl c1), fun c1 => ⟨fun c2 => no (.inr (.inl c2)), fun c2 => ⟨fun c3 => no (.inr (.inr (.inl c3))), fun c3 => ⟨fun c4 => ?_, fun c4 => no (.inr (.inr (.inr c4)))⟩⟩⟩⟩
  rw [show z_law n b (sm_ μ1) = (0, ((km_i μ1 3, km_i μ1 4, km_i μ1 7, km_i μ1 8, 0, km_i μ1 2), (sm_ μ1).2)) from if_neg (show ¬ (n < 0 ∨ km_i μ1 9 < n ∨ b < 0 ∨ ¬ b ≤ 1000) from fun h => h.elim c1 (fun h => h.elim c2 (fun h => h.elim c3 (fun h => h c4))))]
  rw [ki_lt, ki_z0] at c1
  rw [ki_lt] at c2
  have I2 := I1
  obtain ⟨n1, n2, n3, n4, n5, n6, n7, n8⟩ := I2
  obtain ⟨m1, m2, m3, m4, m5, m6⟩ := n1
  intro μ8 e8 μ9 e9
  have K9 : ke_ [9, 10] [] μ1 μ9 := by rw [e9, e8]; exact ke_si (by decide) (ke_si (by decide) ke_refl)
  have t9 : km_i μ9 9 = 0 := by rw [e9, e8]; rfl
  clear e8 e9
  have fin : ∀ M, ke_ [9, 10, 5, 59, 60, 61, 62, 63, 64, 65, 66, 67] [53, 54, 55, 56, 58] μ1 M → km_i M 9 = 0 → (0 ≤ (km_i M 5).toInt ∧ (km_i M 5).toInt ≤ 6) → im_l M → im_ M ∧ (km_i M 1, sm_ M) = (0, ((km_i μ1 3, km_i μ1 4, km_i μ1 7, km_i μ1 8, 0, km_i μ1 2), (sm_ μ1).2)) := by
    intro M K i9 i5 l
    refine ⟨⟨?_, im_r_ke (by decide) K n2, im_c_ke (by decide) K n3, im_h_ke (by decide) K n4, im_g_ke (by decide) (by decide) K n5, im_s_ke (by decide) (by decide) K n6, im_w_ke (by decide) K n7, l⟩, ?_⟩
    · unfold im_n
      rw [i9, K.1 3 (by decide), K.1 4 (by decide), K.1 7 (by decide), K.1 8 (by decide)]
      exact ⟨m1, m2, i5, m4, m5, by decide⟩
    · unfold sm_
      rw [i9, K.1 1 (by decide), K.1 3 (by decide), K.1 4 (by decide), K.1 7 (by decide), K.1 8 (by decide), K.1 2 (by decide), K.2 21 (by decide), K.2 26 (by decide), K.2 17 (by decide), K.2 23 (by decide), K.2 22 (by decide), k1]
  have f5 : km_i μ9 5 = km_i μ1 5 := K9.1 5 (by decide)
  refine ⟨fun c5 μ11 e11 μ12 e12 μ13 e13 μ14 e14 => ?_, fun _ => fin μ9 (ke_mono (by decide) (by decide) K9) t9 (by rw [f5]; exact m3) (im_l_ke (by decide) (by decide) K9 n8)⟩
  have h5 : (km_i μ1 5).toInt < 6 := by
    have z6 : (6 : Int32).toInt = 6 := by decide
    have : (km_i μ1 5).toInt ≠ 6 := fun x => c5 (by rw [f5]; exact ki_eq.2 (x.trans z6.symm))
    omega
  have K14 : ke_ [9, 10, 5, 59, 60, 61, 62, 63, 64, 65, 66, 67] [53, 54, 55, 56, 58] μ1 μ14 := by rw [e14, e13, e12, e11]; exact ke_si (by decide) (ke_si (by decide) (ke_si (by decide) (ke_si (by decide) (ke_mono (by decide) (by decide) K9))))
  have g5 : km_i μ14 5 = km_i μ1 5 := by rw [e14, e13, e12, e11]; exact f5
  have g9 : km_i μ14 9 = 0 := by rw [e14, e13, e12, e11]; exact t9
  have g60 : km_i μ14 60 = 0 := by rw [e14, e13, e12, e11]; rfl
  have g59 : km_i μ14 59 = 0 := by rw [e14, e13, e12, e11]; rfl
  have g61 : km_i μ14 61 = n := by rw [e14, e13, e12, e11]; rfl
  have g54 : km_a μ14 54 = km_a μ1 54 := by rw [e14, e13, e12, e11]; exact K9.2 54 (by decide)
  have g55 : km_a μ14 55 = km_a μ1 55 := by rw [e14, e13, e12, e11]; exact K9.2 55 (by decide)
  have g56 : km_a μ14 56 = km_a μ1 56 := by rw [e14, e13, e12, e11]; exact K9.2 56 (by decide)
  clear e14 e13 e12 e11
  refine rz_readLaw (by rw [g5]; omega) g60 (by rw [g61]; omega) g59 (fun M R => ?_)
  obtain ⟨K, r1, r2, r3, r4⟩ := R
  rw [g5] at r1 r2 r3 r4
  rw [g54] at r3
  rw [g55] at r2
  rw [g56] at r1
  have M5 : km_i M 5 = km_i μ1 5 := (K.1 5 (by decide)).trans g5
  have M9 : km_i M 9 = 0 := (K.1 9 (by decide)).trans g9
  have KM : ke_ [9, 10, 5, 59, 60, 61, 62, 63, 64, 65, 66, 67] [53, 54, 55, 56, 58] μ1 M := ke_trans K14 (ke_mono (by decide) (by decide) K)
  obtain ⟨L, eL⟩ : ∃ L, L = (km_i μ1 5).toNatClampNeg := ⟨_, rfl⟩
  have hL : (L : Int) = (km_i μ1 5).toInt := by rw [eL, ki_nat]; omega
  rw [← eL] at r1 r2 r3 r4
  have old : ∀ l : Nat, (l : Int) < (km_i μ1 5).toInt → (0 ≤ (km_a M 54 l).toInt ∧ (km_a M 54 l).toInt ≤ 12) ∧ ∀ k : Nat, (k : Int) < (km_a M 54 l).toInt →
      0 ≤ (km_a M 55 (13 * l + k)).toInt ∧ (km_a M 55 (13 * l + k + 1)).toInt ≤ 900 ∧ im_run (fun i => km_a M 56 (900 * l + i)) 901 (km_a M 55 (13 * l + k)).toNatClampNeg (km_a M 55 (13 * l + k + 1)).toNatClampNeg 0 := by
    intro l hl
    have o := n8 l hl
    rw [r3 l (by omega)]
    refine ⟨o.1, fun k hk => ?_⟩
    have o2 := o.2 k hk
    rw [r2 (13 * l + k) (by omega), r2 (13 * l + k + 1) (by omega)]
    refine ⟨o2.1, o2.2.1, im_run_of _ _ _ _ (fun i hi => r1 _ ?_) o2.2.2⟩
    rw [ki_nat] at hi
    omega
  refine ⟨fun b0 => ⟨by rw [M5, ki_in]; omega, fun M2 e2 M3 e3 => ?_⟩, fun b0 M2 e2 => ?_⟩
  · have K3 : ke_ [9, 10, 5, 59, 60, 61, 62, 63, 64, 65, 66, 67] [53, 54, 55, 56, 58] μ1 M3 := by rw [e3, e2]; exact ke_si (by decide) (ke_sa (by decide) KM)
    have i5 : km_i M3 5 = km_i μ1 5 + 1 := by rw [e3, e2, ← M5]; rfl
    have i9 : km_i M3 9 = 0 := by rw [e3, e2]; exact M9
    have a54 : km_a M3 54 = km_a M 54 := by rw [e3, e2]; rfl
    have a55 : km_a M3 55 = km_a M 55 := by rw [e3, e2]; rfl
    have a56 : km_a M3 56 = km_a M 56 := by rw [e3, e2]; rfl
    clear e3 e2
    have ii := ki_inc (a := km_i μ1 5) (by omega) (by omega)
    refine fin M3 K3 i9 (by rw [i5]; omega) ?_
    unfold im_l
    rw [a54, a55, a56, i5, ii]
    intro l hl
    by_cases c : l = L
    · rw [c]
      exact r4 b0
    · exact old l (by omega)
  · have K2 : ke_ [9, 10, 5, 59, 60, 61, 62, 63, 64, 65, 66, 67] [53, 54, 55, 56, 58] μ1 M2 := by rw [e2]; exact ke_si (by decide) KM
    have i5 : km_i M2 5 = km_i μ1 5 := by rw [e2]; exact M5
    have i9 : km_i M2 9 = 0 := by rw [e2]; exact M9
    have a54 : km_a M2 54 = km_a M 54 := by rw [e2]; rfl
    have a55 : km_a M2 55 = km_a M 55 := by rw [e2]; rfl
    have a56 : km_a M2 56 = km_a M 56 := by rw [e2]; rfl
    clear e2
    refine fin M2 K2 i9 (by rw [i5]; exact m3) ?_
    unfold im_l
    rw [a54, a55, a56, i5]
    exact old
/-- a fresh reference -/
theorem im_new {μ : km_S} (hi : ∀ j ∈ [2, 3, 4, 5, 6, 7, 8, 9], km_i μ j = 0) (ha : ∀ j, j ≠ 13 → ∀ i, km_a μ j i = 0) (h13 : ∀ i : Nat, i < 10 → km_a μ 13 i = 0 ∨ km_a μ 13 i = -1) : im_ μ := by
  have un : ∀ n : Nat, (im_un (km_a μ 38) n) = n := by
    intro n
    induction n with
    | zero => unfold im_un; rfl
    | succ n ih =>
      unfold im_un
      rw [ih, ha 38 (by decide), if_neg (by decide)]
  refine ⟨?_, fun r hr => ?_, fun k hk => ?_, fun r hr => ?_, fun g hg => ?_, ?_, fun k hk => ?_, fun l hl => ?_⟩
  · unfold im_n
    rw [hi 3 (by decide), hi 4 (by decide), hi 5 (by decide), hi 7 (by decide), hi 8 (by decide), hi 9 (by decide)]
    decide
  · rw [ha 14 (by decide), ha 15 (by decide), ha 28 (by decide), ha 23 (by decide)]
    rcases h13 r hr with e | e
    · rw [e]; decide
    · rw [e]; decide
  · rw [ha 31 (by decide)]
    exact ⟨by decide, fun i hi => by rw [ki_z0] at hi; omega⟩
  · rw [ha 29 (by decide)]
    exact ⟨by decide, fun i hi => by rw [ki_z0] at hi; omega⟩
  · rw [ha 35 (by decide), ha 36 (by decide), ha 38 (by decide)]
    exact ⟨by decide, by decide, fun x => absurd x (by decide), fun _ => rfl⟩
  · unfold im_s
    rw [un, hi 6 (by decide)]
    decide
  · rw [ha 44 (by decide)]
    decide
  · rw [hi 5 (by decide), ki_z0] at hl
    omega
end
section
/-! the class: its lists -/
/-- the i-th of a list -/
def xe (σ : kx_S) (l i : Nat) : Option Nat := match xr σ 17 l with
  | some d => xar σ d i
  | none => none
theorem xe_some {σ : kx_S} {l d i : Nat} (h : xr σ 17 l = some d) : xe σ l i = xar σ d i := by unfold xe; rw [h]
/-- the list of all logs (g 2) may hold 400, every other 100 -/
def ylb (g : Nat → Nat) (a : Nat) : Nat := if a = g 2 then 400 else 100
def ylc (g : Nat → Nat) (a : Nat) : Nat := if a = g 2 then 600 else 150
def yl_ (g κ : Nat → Nat) (σ : kx_S) (a : Nat) : Prop := ∃ d, xr σ 17 a = some d ∧ 0 ≤ (xi σ 18 a).toInt ∧ (xi σ 18 a).toInt ≤ (ylb g a : Int) ∧ ((d = xz σ ∧ xi σ 18 a = 0) ∨ (d ≠ xz σ ∧ xt σ d = 22 ∧ 10 ≤ xn σ d ∧ xn σ d ≤ ylc g a ∧ (xi σ 18 a).toInt ≤ (xn σ d : Int) ∧ ∀ i : Nat, (i : Int) < (xi σ 18 a).toInt → ∃ y, xar σ d i = some y ∧ xt σ y = κ a))
def ycap (σ : kx_S) (a : Nat) : Nat := match xr σ 17 a with
  | some d => if d = xz σ then 0 else xn σ d
  | none => 0
theorem ycap_some {σ : kx_S} {a d : Nat} (h : xr σ 17 a = some d) : ycap σ a = if d = xz σ then 0 else xn σ d := by unfold ycap; rw [h]
def yb_ (B n : Nat) (σ : kx_S) : Prop := ∃ LS : List Nat, LS.length = n ∧ LS.Nodup ∧ (∀ a, a ∈ LS ↔ xt σ a = 1) ∧ 5 * xc σ ≤ 5 * B + (LS.map (ycap σ)).sum
def yo_ (σ : kx_S) : Prop := ∀ a b d, xt σ a = 1 → xt σ b = 1 → xr σ 17 a = some d → xr σ 17 b = some d → d ≠ xz σ → a = b
def yL_ (g κ : Nat → Nat) (B n : Nat) (σ : kx_S) : Prop := (∀ a, xt σ a = 1 → yl_ g κ σ a) ∧ yo_ σ ∧ (∀ a, xt σ a = 1 → kx_el (κ a)) ∧ yb_ B n σ
theorem ysum_le {f : Nat → Nat} {z : Nat} : ∀ LS : List Nat, LS.Nodup → (∀ a ∈ LS, f a ≤ if a = z then 600 else 150) → (LS.map f).sum ≤ 150 * LS.length + (if z ∈ LS then 450 else 0) := by
  intro LS
  induction LS with
  | nil => intro _ _; simp
  | cons b LS ih =>
    intro nd h
    have ih := ih (List.nodup_cons.1 nd).2 (fun a ha => h a (List.mem_cons_of_mem b ha))
    have hb := h b (List.mem_cons_self)
    rw [List.map_cons, List.sum_cons, List.length_cons]
    by_cases e : b = z
    · subst e
      rw [if_neg (List.nodup_cons.1 nd).1] at ih
      rw [if_pos rfl] at hb
      rw [if_pos (List.mem_cons_self)]
      omega
    · rw [if_neg e] at hb
      by_cases m : z ∈ LS
      · rw [if_pos m] at ih
        rw [if_pos (List.mem_cons_of_mem b m)]
        omega
      · rw [if_neg m] at ih
        omega
theorem ysum_up {f f' : Nat → Nat} {l k : Nat} : ∀ LS : List Nat, LS.Nodup → l ∈ LS → (∀ a ∈ LS, a ≠ l → f' a = f a) → f l + k ≤ f' l → (LS.map f).sum + k ≤ (LS.map f').sum := by
  intro LS
  induction LS with
  | nil => intro _ h; exact absurd h (List.not_mem_nil)
  | cons b LS ih =>
    intro nd hm hs hl
    have nd2 := List.nodup_cons.1 nd
    rw [List.map_cons, List.sum_cons, List.map_cons, List.sum_cons]
    by_cases e : b = l
    · subst e
      have : LS.map f' = LS.map f := List.map_congr_left (fun a ha => hs a (List.mem_cons_of_mem b ha) (fun q => nd2.1 (q ▸ ha)))
      rw [this]
      omega
    · have hm2 : l ∈ LS := (List.mem_cons.1 hm).elim (fun q => absurd q.symm e) id
      have := ih nd2.2 hm2 (fun a ha => hs a (List.mem_cons_of_mem b ha)) hl
      rw [hs b (List.mem_cons_self) e]
      omega
theorem ycap_le {g κ : Nat → Nat} {B n : Nat} {σ : kx_S} (H : yL_ g κ B n σ) {a : Nat} (h : xt σ a = 1) : ycap σ a ≤ if a = g 2 then 600 else 150 := by
  obtain ⟨d, hd, _, _, o⟩ := H.1 a h
  rw [ycap_some hd]
  rcases o with o | o
  · rw [if_pos o.1]; omega
  · rw [if_neg o.1]; exact o.2.2.2.1
theorem ry_room {g κ : Nat → Nat} {B n : Nat} {σ : kx_S} (H : yL_ g κ B n σ) (hB : B ≤ 3000) (hn : n ≤ 200) : xc σ < kx_N := by
  obtain ⟨LS, e, nd, m, b⟩ := H.2.2.2
  have := ysum_le (f := ycap σ) (z := g 2) LS nd (fun a ha => ycap_le H ((m a).1 ha))
  have q : (if g 2 ∈ LS then 450 else 0) ≤ 450 := by split <;> omega
  show xc σ < 10000
  omega
/-! reading a list -/
theorem ry_check {i n : Int32} {σ : kx_S} {Q : Int32 → kx_S → Prop} (h0 : 0 ≤ i.toInt) (h1 : i.toInt < n.toInt) (k : Q i σ) : wJ15_checkIndex_7cf53 i n σ Q := by
  refine ⟨fun c => ?_, fun _ => ⟨fun _ => k, fun c => ?_⟩⟩
  · rw [ki_lt, ki_z0] at c; omega
  · rw [ki_lt] at c; omega
theorem ry_get {g κ : Nat → Nat} {B n : Nat} {σ : kx_S} {l : Nat} {i : Int32} {Q : Option Nat → kx_S → Prop} (H : yL_ g κ B n σ) (hl : xt σ l = 1) (h0 : 0 ≤ i.toInt) (h1 : i.toInt < (xi σ 18 l).toInt) (kk : ∀ y, xe σ l i.toNatClampNeg = some y → xt σ y = κ l → Q (some y) σ) : wJx4a65c_get_915e3 l i σ Q := by
  obtain ⟨d, hd, _, _, o⟩ := H.1 l hl
  rcases o with o | o
  · rw [o.2, ki_z0] at h1; omega
  · obtain ⟨y, ey, ty⟩ := o.2.2.2.2.2 i.toNatClampNeg (by rw [ki_nat]; omega)
    refine ⟨hl, ry_check h0 h1 ⟨hl, hl, d, hd, o.2.1, by rw [ki_in]; omega, ?_⟩⟩
    rw [ey]
    exact kk y (by rw [xe_some hd]; exact ey) ty
theorem ry_size {g κ : Nat → Nat} {B n : Nat} {σ : kx_S} {l : Nat} (H : yL_ g κ B n σ) (hl : xt σ l = 1) : 0 ≤ (xi σ 18 l).toInt ∧ (xi σ 18 l).toInt ≤ 400 := by
  obtain ⟨d, _, a, b, _⟩ := H.1 l hl
  unfold ylb at b
  split at b <;> omega
theorem ry_size1 {g κ : Nat → Nat} {B n : Nat} {σ : kx_S} {l : Nat} (H : yL_ g κ B n σ) (hl : xt σ l = 1) (h2 : l ≠ g 2) : (xi σ 18 l).toInt ≤ 100 := by
  obtain ⟨d, _, a, b, _⟩ := H.1 l hl
  unfold ylb at b
  rw [if_neg h2] at b
  omega
theorem ry_el {g κ : Nat → Nat} {B n : Nat} {σ : kx_S} {l i : Nat} (H : yL_ g κ B n σ) (hl : xt σ l = 1) (hi : (i : Int) < (xi σ 18 l).toInt) : ∃ y, xe σ l i = some y ∧ xt σ y = κ l := by
  obtain ⟨d, hd, _, _, o⟩ := H.1 l hl
  rcases o with o | o
  · rw [o.2, ki_z0] at hi; omega
  · obtain ⟨y, ey, ty⟩ := o.2.2.2.2.2 i hi
    exact ⟨y, by rw [xe_some hd]; exact ey, ty⟩
/-! what every step keeps of what is there already -/
def fg_ (σ τ : kx_S) : Prop := (∀ a, xt σ a ≠ 0 → xt τ a = xt σ a) ∧ (∀ f a, f ≠ 17 → xt σ a ≠ 0 → xr τ f a = xr σ f a) ∧ (∀ a, xt σ a ≠ 0 → xn τ a = xn σ a) ∧ xz τ = xz σ
theorem fg_refl {σ : kx_S} : fg_ σ σ := ⟨fun _ _ => rfl, fun _ _ _ _ => rfl, fun _ _ => rfl, rfl⟩
theorem fg_trans {a b c : kx_S} (h : fg_ a b) (k : fg_ b c) : fg_ a c :=
  ⟨fun x q => by rw [k.1 x (by rw [h.1 x q]; exact q), h.1 x q], fun f x q r => by rw [k.2.1 f x q (by rw [h.1 x r]; exact r), h.2.1 f x q r], fun x q => by rw [k.2.2.1 x (by rw [h.1 x q]; exact q), h.2.2.1 x q], k.2.2.2.trans h.2.2.2⟩
theorem fg_tag {σ τ : kx_S} {a t : Nat} (h : fg_ σ τ) (e : xt σ a = t) (ht : t ≠ 0) : xt τ a = t := (h.1 a (by rw [e]; exact ht)).trans e
theorem fg_ref {σ τ : kx_S} {f a t : Nat} {v : Option Nat} (h : fg_ σ τ) (e : xt σ a = t) (ht : t ≠ 0) (hf : f ≠ 17) (hv : xr σ f a = v) : xr τ f a = v := (h.2.1 f a hf (by rw [e]; exact ht)).trans hv
/-! an array of the list grows -/
theorem yL_grow {g κ : Nat → Nat} {B n : Nat} {σ τ : kx_S} {l d p N : Nat} (H : yL_ g κ B n σ) (hl : xt σ l = 1) (hd : xr σ 17 l = some d) (hp : xt σ p = 0) (hz : p ≠ xz σ)
    (t1 : xt τ = va_up (xt σ) p 22) (t2 : xi τ 18 = xi σ 18) (t3 : xr τ 17 = va_up (xr σ 17) l (some p)) (t4 : xn τ = va_up (xn σ) p N) (t5 : ∀ a, a ≠ p → xar τ a = xar σ a) (t6 : ∀ i : Nat, (i : Int) < (xi σ 18 l).toInt → xar τ p i = xar σ d i) (t7 : xc τ = xc σ + 1) (t8 : xz τ = xz σ)
    (n1 : 10 ≤ N) (n2 : N ≤ ylc g l) (n3 : ycap σ l + 5 ≤ N) (n4 : (xi σ 18 l).toInt ≤ (N : Int)) : yL_ g κ B n τ := by
  have hlp : l ≠ p := fun e => by rw [e, hp] at hl; omega
  have tag : ∀ a, xt σ a ≠ 0 → xt τ a = xt σ a := fun a h => by rw [t1, va_up_ne _ _ (fun e => h (by rw [e]; exact hp))]
  have one : ∀ a, xt τ a = 1 ↔ xt σ a = 1 := by
    intro a
    by_cases e : a = p
    · rw [t1, e, va_up_self, hp]; omega
    · rw [t1, va_up_ne _ _ e]
  have el : ∀ y a, xt σ a = 1 → xt σ y = κ a → xt τ y = κ a := fun y a ha hy => by rw [tag y (by rw [hy]; exact (H.2.2.1 a ha).ne), hy]
  refine ⟨fun a ha => ?_, fun a b x ha hb xa xb hx => ?_, fun a ha => H.2.2.1 a ((one a).1 ha), ?_⟩
  · have ha' := (one a).1 ha
    obtain ⟨d2, hd2, s1, s2, o⟩ := H.1 a ha'
    by_cases e : a = l
    · subst e
      rw [hd] at hd2
      have ed : d = d2 := Option.some.inj hd2
      subst ed
      refine ⟨p, by rw [t3, va_up_self], by rw [t2]; exact s1, by rw [t2]; exact s2, .inr ⟨by rw [t8]; exact hz, by rw [t1, va_up_self], by rw [t4, va_up_self]; exact n1, by rw [t4, va_up_self]; exact n2, by rw [t4, va_up_self, t2]; exact n4, fun i hi => ?_⟩⟩
      rw [t2] at hi
      rw [t6 i hi]
      rcases o with o | o
      · rw [o.2, ki_z0] at hi; omega
      · obtain ⟨y, ey, ty⟩ := o.2.2.2.2.2 i hi
        exact ⟨y, ey, el y a ha' ty⟩
    · refine ⟨d2, by rw [t3, va_up_ne _ _ e]; exact hd2, by rw [t2]; exact s1, by rw [t2]; exact s2, ?_⟩
      rcases o with o | o
      · exact .inl ⟨by rw [t8]; exact o.1, by rw [t2]; exact o.2⟩
      · have dp : d2 ≠ p := fun q => by have := o.2.1; rw [q, hp] at this; omega
        refine .inr ⟨by rw [t8]; exact o.1, by rw [tag d2 (by rw [o.2.1]; decide)]; exact o.2.1, by rw [t4, va_up_ne _ _ dp]; exact o.2.2.1, by rw [t4, va_up_ne _ _ dp]; exact o.2.2.2.1, by rw [t4, va_up_ne _ _ dp, t2]; exact o.2.2.2.2.1, fun i hi => ?_⟩
        rw [t2] at hi
        rw [t5 d2 dp]
        obtain ⟨y, ey, ty⟩ := o.2.2.2.2.2 i hi
        exact ⟨y, ey, el y a ha' ty⟩
  · have ha' := (one a).1 ha
    have hb' := (one b).1 hb
    have np : ∀ c, xt σ c = 1 → xr σ 17 c ≠ some p := by
      intro c hc q
      obtain ⟨d2, hd2, _, _, o⟩ := H.1 c hc
      rw [q] at hd2
      have := Option.some.inj hd2
      rcases o with o | o
      · exact hz (this.trans o.1)
      · have t := o.2.1
        rw [← this, hp] at t
        omega
    rw [t3] at xa xb
    rw [t8] at hx
    by_cases ea : a = l
    · by_cases eb : b = l
      · rw [ea, eb]
      · rw [ea, va_up_self] at xa
        rw [va_up_ne _ _ eb, ← xa] at xb
        exact absurd xb (np b hb')
    · by_cases eb : b = l
      · rw [eb, va_up_self] at xb
        rw [va_up_ne _ _ ea, ← xb] at xa
        exact absurd xa (np a ha')
      · rw [va_up_ne _ _ ea] at xa
        rw [va_up_ne _ _ eb] at xb
        exact H.2.1 a b x ha' hb' xa xb hx
  · obtain ⟨LS, e, nd, m, b⟩ := H.2.2.2
    refine ⟨LS, e, nd, fun a => (m a).trans (one a).symm, ?_⟩
    have := ysum_up (f := ycap σ) (f' := ycap τ) (l := l) (k := 5) LS nd ((m l).2 hl) (fun a ha hal => ?_) ?_
    · rw [t7]; omega
    · have ha' := (m a).1 ha
      obtain ⟨d2, hd2, _, _, o⟩ := H.1 a ha'
      have hd3 : xr τ 17 a = some d2 := by rw [t3, va_up_ne _ _ hal]; exact hd2
      rw [ycap_some hd2, ycap_some hd3, t8]
      rcases o with o | o
      · rw [if_pos o.1, if_pos o.1]
      · rw [if_neg o.1, if_neg o.1, t4, va_up_ne _ _ (fun q => by have := o.2.1; rw [q, hp] at this; omega)]
    · have hd3 : xr τ 17 l = some p := by rw [t3, va_up_self]
      rw [ycap_some hd3, t8, if_neg hz, t4, va_up_self]
      exact n3
end
section
theorem ki_half : ∀ k : Nat, k < 401 → ((nI k) >>> ((1 : Int32) &&& 31)).toInt = ((k / 2 : Nat) : Int) := by decide +kernel
/-- what growing leaves -/
def yg_ (l p : Nat) (σ τ : kx_S) : Prop := xt σ p = 0 ∧ p ≠ xz σ ∧ xt τ = va_up (xt σ) p 22 ∧ (∀ f, xi τ f = xi σ f) ∧ xr τ 17 = va_up (xr σ 17) l (some p) ∧ (∀ f, f ≠ 17 → xr τ f = xr σ f) ∧ (∃ N, xn τ = va_up (xn σ) p N ∧ (xi σ 18 l).toInt < (N : Int)) ∧ (∀ a, a ≠ p → xar τ a = xar σ a) ∧ (∀ i : Nat, (i : Int) < (xi σ 18 l).toInt → xar τ p i = xe σ l i) ∧ xz τ = xz σ ∧ xl τ = xl σ
theorem ry_grow {g κ : Nat → Nat} {B n : Nat} {σ : kx_S} {l d : Nat} {Q : Nat → kx_S → Prop} (H : yL_ g κ B n σ) (hB : B ≤ 3000) (hn : n ≤ 200) (hl : xt σ l = 1) (hd : xr σ 17 l = some d) (full : (d = xz σ ∧ xi σ 18 l = 0) ∨ (d ≠ xz σ ∧ (xi σ 18 l).toInt = (xn σ d : Int))) (hs : (xi σ 18 l).toInt < (ylb g l : Int)) (kk : ∀ p τ, yL_ g κ B n τ → yg_ l p σ τ → Q p τ) : wJx4a65c_grow_d5877 l σ Q := by
  have room := ry_room H hB hn
  have z10 : (10 : Int32).toInt = 10 := by decide
  obtain ⟨d2, hd2, s1, s2, o⟩ := H.1 l hl
  rw [hd] at hd2
  have ed : d = d2 := Option.some.inj hd2
  subst ed
  have bc : ylb g l = 400 ∧ ylc g l = 600 ∨ ylb g l = 100 ∧ ylc g l = 150 := by
    unfold ylb ylc
    by_cases c : l = g 2
    · rw [if_pos c, if_pos c]; exact .inl ⟨rfl, rfl⟩
    · rw [if_neg c, if_neg c]; exact .inr ⟨rfl, rfl⟩
  refine ⟨hl, hl, d, hd, fun c => ⟨fun x => absurd x (by decide), fun _ => ⟨d, hd, fun _ v ev => ?_, fun q => absurd (congrArg some c) q⟩⟩, fun c => ?_⟩
  · have e0 : xi σ 18 l = 0 := by
      rcases full with f | f
      · exact f.2
      · exact absurd c f.1
    have v10 : v = 10 := by
      rw [ev, e0, if_neg (by decide)]
    subst v10
    refine ⟨room, by decide, by decide, fun p hp hz τ1 e1 => ?_⟩
    subst e1
    have hlp : l ≠ p := fun e => by rw [e, hp] at hl; omega
    refine ⟨?_, fun τ e2 => ?_⟩
    · show va_up (xt σ) p 22 l = 1
      rw [va_up_ne _ _ hlp]; exact hl
    · subst e2
      have t6 : ∀ i : Nat, (i : Int) < (xi σ 18 l).toInt → xar (xsr (xnewA σ p 22 (Int32.toNatClampNeg 10)) 17 l (some p)) p i = xar σ d i := fun i hi => by rw [e0, ki_z0] at hi; omega
      refine kk p _ (yL_grow (N := 10) H hl hd hp hz rfl rfl rfl rfl (fun a ha => va_up_ne _ _ ha) t6 rfl rfl (by decide) (by rcases bc with b | b <;> omega) ?_ (by rw [e0, ki_z0]; decide)) ⟨hp, hz, rfl, fun _ => rfl, rfl, fun f hf => ?_, ⟨10, rfl, by rw [e0]; decide⟩, fun a ha => va_up_ne _ _ ha, fun i hi => by rw [e0, ki_z0] at hi; omega, rfl, rfl⟩
      · rw [ycap_some hd, if_pos c]; decide
      · show (if f = 17 then _ else xr σ f) = xr σ f
        rw [if_neg hf]
  · obtain ⟨o1, o2, o3, o4, o5, o6⟩ : d ≠ xz σ ∧ xt σ d = 22 ∧ 10 ≤ xn σ d ∧ xn σ d ≤ ylc g l ∧ (xi σ 18 l).toInt ≤ (xn σ d : Int) ∧ ∀ i : Nat, (i : Int) < (xi σ 18 l).toInt → ∃ y, xar σ d i = some y ∧ xt σ y = κ l := o.resolve_left (fun x => c x.1)
    have hsz : (xi σ 18 l).toInt = (xn σ d : Int) := by
      rcases full with f | f
      · exact absurd f.1 c
      · exact f.2
    have hm : xn σ d < 400 := by rcases bc with b | b <;> omega
    obtain ⟨m, em⟩ : ∃ m, m = xn σ d := ⟨_, rfl⟩
    have nm := nI_toInt (n := m) (by omega)
    refine ⟨o2, fun v ev => ⟨fun _ => ?_, fun x => ?_⟩⟩
    · have hf := ki_half m (by omega)
      rw [← em] at ev
      have hl1 := ki_inc (a := xi σ 18 l) (by omega) (by omega)
      have esub := ki_sub (a := xi σ 18 l + 1) (b := nI m) (by omega) (by omega)
      intro v1 e1 v2 e2
      rw [ev] at e1 e2
      have ev1 : v1.toInt = ((m / 2 : Nat) : Int) := by
        rw [e1, if_pos (by rw [ki_lt]; omega)]
        exact hf
      have ev2 : v2.toInt = (m : Int) + ((m / 2 : Nat) : Int) := by rw [e2, ki_add (by omega) (by omega), nm, ev1]
      have zm : (2147483639 : Int32).toInt = 2147483639 := by decide
      have nlen : m + m / 2 ≤ ylc g l := by rcases bc with b | b <;> omega
      have n600 : m + m / 2 ≤ 600 := by rcases bc with b | b <;> omega
      have vn : v2.toNatClampNeg = m + m / 2 := by rw [ki_nat]; omega
      refine ⟨fun x => ?_, fun _ => ⟨fun x => ?_, fun _ => ⟨hl, d, hd, o2, room, ?_, ?_, fun p hp hz τ1 e3 => ?_⟩⟩⟩
      · rw [ki_le, ki_z0] at x; omega
      · rw [ki_lt, zm] at x; omega
      · rw [ki_lt, ki_z0]; omega
      · rw [vn]; exact n600
      · rw [vn] at e3
        subst e3
        have hlp : l ≠ p := fun e => by rw [e, hp] at hl; omega
        have hdp : d ≠ p := fun e => by rw [e, hp] at o2; omega
        have td : xt (xnewA σ p 22 (m + m / 2)) d = 22 := by show va_up (xt σ) p 22 d = 22; rw [va_up_ne _ _ hdp]; exact o2
        have nd : xn (xnewA σ p 22 (m + m / 2)) d = m := by show va_up (xn σ) p (m + m / 2) d = m; rw [va_up_ne _ _ hdp]; exact em.symm
        have np : xn (xnewA σ p 22 (m + m / 2)) p = m + m / 2 := va_up_self _ _ _
        have ad : xar (xnewA σ p 22 (m + m / 2)) d = xar σ d := va_up_ne _ _ hdp
        have tl : ∀ a, xt σ a ≠ 0 → xt (xnewA σ p 22 (m + m / 2)) a = xt σ a := fun a ha => va_up_ne _ _ (fun e => ha (by rw [e]; exact hp))
        refine ⟨td, fun w ew => ?_⟩
        rw [nd] at ew
        have wm : w.toNatClampNeg = m := by
          rw [ew, if_neg (by rw [ki_lt]; omega), ki_nat]
          omega
        have z0 : Int32.toNatClampNeg 0 = 0 := by decide
        refine ⟨va_up_self _ _ _, by decide, by decide, ?_, ?_, ?_, ?_, fun τ2 e4 => ?_⟩
        · rw [ew, if_neg (by rw [ki_lt]; omega), ki_lt, ki_z0]; omega
        · rw [wm, z0, nd]; omega
        · rw [wm, z0, np]; omega
        · intro i hi y hy
          rw [wm] at hi
          rw [z0, Nat.zero_add, ad] at hy
          obtain ⟨y2, ey, ty⟩ := o6 i (by omega)
          rw [hy] at ey
          have := Option.some.inj ey
          subst this
          have k := H.2.2.1 l hl
          rw [tl y (by rw [ty]; exact k.ne), ty]
          exact k
        · rw [wm, z0] at e4
          refine ⟨?_, fun τ e5 => ?_⟩
          · rw [e4]; show xt (xnewA σ p 22 (m + m / 2)) l = 1; rw [tl l (by rw [hl]; decide)]; exact hl
          · rw [e5, e4]
            have rd : ∀ i : Nat, i < m → va_up (xar (xnewA σ p 22 (m + m / 2))) p (va_cpy (xar (xnewA σ p 22 (m + m / 2)) d) (xar (xnewA σ p 22 (m + m / 2)) p) 0 0 m) p i = xar σ d i := by
              intro i hi
              rw [va_up_self]
              unfold va_cpy
              rw [if_pos (by omega), ad, Nat.zero_add, Nat.sub_zero]
            have ot : ∀ a, a ≠ p → va_up (xar (xnewA σ p 22 (m + m / 2))) p (va_cpy (xar (xnewA σ p 22 (m + m / 2)) d) (xar (xnewA σ p 22 (m + m / 2)) p) 0 0 m) a = xar σ a := by
              intro a ha
              rw [va_up_ne _ _ ha]
              exact va_up_ne _ _ ha
            refine kk p _ (yL_grow (N := m + m / 2) H hl hd hp hz rfl rfl rfl rfl ot (fun i hi => rd i (by omega)) rfl rfl (by omega) nlen ?_ (by omega)) ⟨hp, hz, rfl, fun _ => rfl, rfl, fun f hf => ?_, ⟨m + m / 2, rfl, by omega⟩, ot, fun i hi => ?_, rfl, rfl⟩
            · rw [ycap_some hd, if_neg c]; omega
            · show (if f = 17 then _ else xr σ f) = xr σ f
              rw [if_neg hf]
            · rw [xe_some hd]; exact rd i (by omega)
    · refine absurd ?_ x
      rw [ev, ← em, ki_lt, ki_z0, nm]; omega
/-- a list that has room takes one more -/
theorem yL_put {g κ : Nat → Nat} {B n : Nat} {σ τ : kx_S} {l d y : Nat} (H : yL_ g κ B n σ) (hl : xt σ l = 1) (hd : xr σ 17 l = some d) (hz : d ≠ xz σ) (hy : xt σ y = κ l) (hs : (xi σ 18 l).toInt < (ylb g l : Int)) (hr : (xi σ 18 l).toInt < (xn σ d : Int))
    (t1 : xt τ = xt σ) (t2 : xi τ 18 = va_up (xi σ 18) l (xi σ 18 l + 1)) (t3 : xr τ 17 = xr σ 17) (t4 : xn τ = xn σ) (t5 : xar τ = va_up (xar σ) d (va_up (xar σ d) (xi σ 18 l).toNatClampNeg (some y))) (t7 : xc τ = xc σ) (t8 : xz τ = xz σ) : yL_ g κ B n τ := by
  have sz := ry_size H hl
  have inc := ki_inc (a := xi σ 18 l) (by omega) (by omega)
  refine ⟨fun a ha => ?_, ?_, fun a ha => H.2.2.1 a (by rw [← t1]; exact ha), ?_⟩
  · rw [t1] at ha
    obtain ⟨d2, hd2, s1, s2, o⟩ := H.1 a ha
    by_cases e : a = l
    · subst e
      rw [hd] at hd2
      have ed : d = d2 := Option.some.inj hd2
      subst ed
      obtain ⟨o1, o2, o3, o4, o5, o6⟩ := o.resolve_left (fun x => hz x.1)
      refine ⟨d, by rw [t3]; exact hd, by rw [t2, va_up_self]; omega, by rw [t2, va_up_self]; omega, .inr ⟨by rw [t8]; exact o1, by rw [t1]; exact o2, by rw [t4]; exact o3, by rw [t4]; exact o4, by rw [t2, va_up_self, t4]; omega, fun i hi => ?_⟩⟩
      rw [t2, va_up_self] at hi
      rw [t5, va_up_self, t1]
      by_cases e : i = (xi σ 18 a).toNatClampNeg
      · rw [e, va_up_self]; exact ⟨y, rfl, hy⟩
      · rw [va_up_ne _ _ e]
        rw [ki_nat] at e
        exact o6 i (by omega)
    · refine ⟨d2, by rw [t3]; exact hd2, by rw [t2, va_up_ne _ _ e]; exact s1, by rw [t2, va_up_ne _ _ e]; exact s2, ?_⟩
      rw [t8, t2, va_up_ne _ _ e, t1, t4, t5]
      rcases o with o | o
      · exact .inl o
      · have dd : d2 ≠ d := fun q => e (H.2.1 a l d ha hl (by rw [← q]; exact hd2) hd hz)
        rw [va_up_ne _ _ dd]
        exact .inr o
  · intro a b x ha hb
    rw [t1] at ha hb
    rw [t3, t8]
    exact H.2.1 a b x ha hb
  · obtain ⟨LS, e, nd, m, b⟩ := H.2.2.2
    have ec : ycap τ = ycap σ := by
      funext a
      unfold ycap
      rw [t3, t8, t4]
    exact ⟨LS, e, nd, fun a => by rw [t1]; exact m a, by rw [ec, t7]; exact b⟩
/-- what an add leaves -/
def ya_ (l y : Nat) (σ τ : kx_S) : Prop := fg_ σ τ ∧ (∀ a, xt τ a = xt σ a ∨ xt σ a = 0 ∧ xt τ a = 22) ∧ (∀ f, f ≠ 16 → f ≠ 18 → xi τ f = xi σ f) ∧ xi τ 18 = va_up (xi σ 18) l (xi σ 18 l + 1) ∧ (∀ f, f ≠ 17 → xr τ f = xr σ f) ∧ (∀ l' : Nat, xt σ l' = 1 → ∀ i : Nat, (i : Int) < (xi σ 18 l').toInt → xe τ l' i = xe σ l' i) ∧ xe τ l (xi σ 18 l).toNatClampNeg = some y ∧ xl τ = xl σ
theorem ry_add {g κ : Nat → Nat} {B n : Nat} {σ : kx_S} {l y : Nat} {Q : Int32 → kx_S → Prop} (H : yL_ g κ B n σ) (hB : B ≤ 3000) (hn : n ≤ 200) (hl : xt σ l = 1) (hy : xt σ y = κ l) (hs : (xi σ 18 l).toInt < (ylb g l : Int)) (kk : ∀ τ, yL_ g κ B n τ → ya_ l y σ τ → Q 1 τ) : wJx4a65c_add_9ea2d l y σ Q := by
  obtain ⟨d, hd, s1, s2, o⟩ := H.1 l hl
  have hk := H.2.2.1 l hl
  obtain ⟨S, eS⟩ : ∃ S, S = xi σ 18 l := ⟨_, rfl⟩
  refine ⟨hl, fun τ0 e0 => ?_⟩
  have H0 : yL_ g κ B n τ0 := by rw [e0]; exact H
  have x0 : xt τ0 = xt σ := by rw [e0]; rfl
  have z0 : xz τ0 = xz σ := by rw [e0]; rfl
  have r0 : ∀ f, xr τ0 f = xr σ f := fun f => by rw [e0]; rfl
  have i0 : xi τ0 18 = xi σ 18 := by rw [e0]; rfl
  have i00 : ∀ f, f ≠ 16 → xi τ0 f = xi σ f := fun f hf => by
    rw [e0]
    show (if f = 16 then _ else xi σ f) = xi σ f
    rw [if_neg hf]
  have n0 : xn τ0 = xn σ := by rw [e0]; rfl
  have a0 : xar τ0 = xar σ := by rw [e0]; rfl
  have l0 : xl τ0 = xl σ := by rw [e0]; rfl
  clear e0
  refine ⟨d, by rw [r0]; exact hd, ?_⟩
  rw [i0, ← eS]
  have own : ∀ a, xt σ a = 1 → a ≠ l → ∀ d2, xr σ 17 a = some d2 → d2 ≠ xz σ → d2 ≠ d := fun a ha e d2 h2 hz q => e (H.2.1 a l d2 ha hl h2 (by rw [q]; exact hd) hz)
  -- the last step
  have E : ∀ d' τ1, yL_ g κ B n τ1 → xt τ1 l = 1 → xr τ1 17 l = some d' → d' ≠ xz τ1 → xt τ1 d' = 22 → xt τ1 y = κ l → xi τ1 18 l = S → S.toInt < (xn τ1 d' : Int) →
      (∀ τ, xt τ = xt τ1 → (∀ f, f ≠ 18 → xi τ f = xi τ1 f) → xi τ 18 = va_up (xi τ1 18) l (S + 1) → xr τ = xr τ1 → xn τ = xn τ1 → xar τ = va_up (xar τ1) d' (va_up (xar τ1 d') S.toNatClampNeg (some y)) → xz τ = xz τ1 → xl τ = xl τ1 → ya_ l y σ τ) →
      wJx4a65c_add_72be8_11 (fun σ6 => Q 1 σ6) l y d' S τ1 := by
    intro d' τ1 H1 hl1 hd1 hz1 ht1 hy1 hs1 hr1 ka
    refine ⟨ht1, by rw [ki_in, eS]; rw [eS] at hr1; omega, by rw [hy1]; exact hk, fun τ2 e2 => ⟨by rw [e2]; exact hl1, fun τ e3 => ?_⟩⟩
    rw [e3, e2]
    refine kk _ (yL_put H1 hl1 hd1 hz1 hy1 (by rw [hs1, eS]; exact hs) (by rw [hs1]; exact hr1) rfl (by rw [hs1]; rfl) rfl rfl (by rw [hs1]; rfl) rfl rfl) (ka _ rfl (fun f hf => ?_) rfl rfl rfl rfl rfl rfl)
    show (if f = 18 then _ else xi τ1 f) = xi τ1 f
    rw [if_neg hf]
  -- no growth
  have N : d ≠ xz σ → xt σ d = 22 → S.toInt < (xn σ d : Int) → wJx4a65c_add_72be8_11 (fun σ6 => Q 1 σ6) l y d S τ0 := by
    intro hz ht hr
    refine E d τ0 H0 (by rw [x0]; exact hl) (by rw [r0]; exact hd) (by rw [z0]; exact hz) (by rw [x0]; exact ht) (by rw [x0]; exact hy) (by rw [i0, eS]) (by rw [n0]; exact hr) (fun τ u1 u2 u3 u4 u5 u6 u7 u8 => ?_)
    refine ⟨⟨fun a _ => by rw [u1, x0], fun f a _ _ => by rw [u4, r0], fun a _ => by rw [u5, n0], by rw [u7, z0]⟩, fun a => .inl (by rw [u1, x0]), fun f f1 f2 => by rw [u2 f f2, i00 f f1], by rw [u3, i0, eS], fun f _ => by rw [u4, r0], fun l' hl' i hi => ?_, ?_, by rw [u8, l0]⟩
    · obtain ⟨d2, hd2, _, _, o2⟩ := H.1 l' hl'
      rw [xe_some (d := d2) (by rw [u4, r0]; exact hd2), xe_some hd2, u6, a0]
      by_cases e : d2 = d
      · have el : l' = l := H.2.1 l' l d2 hl' hl hd2 (by rw [e]; exact hd) (by rw [e]; exact hz)
        rw [e, va_up_self, va_up_ne _ _ (by rw [el] at hi; rw [eS, ki_nat]; omega)]
      · rw [va_up_ne _ _ e]
    · rw [← eS, xe_some (d := d) (by rw [u4, r0]; exact hd), u6, va_up_self, va_up_self]
  -- growth
  have G : ((d = xz σ ∧ xi σ 18 l = 0) ∨ (d ≠ xz σ ∧ (xi σ 18 l).toInt = (xn σ d : Int))) → wJx4a65c_grow_d5877 l τ0 (fun b13 σ12 => wJx4a65c_add_72be8_11 (fun σ6 => Q 1 σ6) l y b13 S σ12) := by
    intro full
    refine ry_grow H0 hB hn (by rw [x0]; exact hl) (by rw [r0]; exact hd) (by rw [z0, i0, n0]; exact full) (by rw [i0]; exact hs) (fun p τ1 H1 G1 => ?_)
    obtain ⟨g1, g2, g3, g4, g5, g6, ⟨N', g7, g7'⟩, g8, g9, g10, g11⟩ := G1
    rw [x0] at g1 g3
    rw [z0] at g2 g10
    have pl : l ≠ p := fun e => by rw [e, g1] at hl; omega
    have py : y ≠ p := fun e => by rw [e, g1] at hy; exact hk.ne hy.symm
    refine E p τ1 H1 (by rw [g3, va_up_ne _ _ pl]; exact hl) (by rw [g5, va_up_self]) (by rw [g10]; exact g2) (by rw [g3, va_up_self]) (by rw [g3, va_up_ne _ _ py]; exact hy) (by rw [g4, i0, eS]) (by rw [g7, va_up_self, eS, ← i0]; exact g7') (fun τ u1 u2 u3 u4 u5 u6 u7 u8 => ?_)
    have tg : ∀ a, xt σ a ≠ 0 → xt τ a = xt σ a := fun a ha => by rw [u1, g3, va_up_ne _ _ (fun e => ha (by rw [e]; exact g1))]
    refine ⟨⟨tg, fun f a hf _ => by rw [u4, g6 f hf, r0], fun a ha => by rw [u5, g7, va_up_ne _ _ (fun e => ha (by rw [e]; exact g1)), n0], by rw [u7, g10]⟩, fun a => ?_, fun f f1 f2 => by rw [u2 f f2, g4, i00 f f1], by rw [u3, g4, i0, eS], fun f hf => by rw [u4, g6 f hf, r0], fun l' hl' i hi => ?_, ?_, by rw [u8, g11, l0]⟩
    · by_cases e : a = p
      · exact .inr ⟨by rw [e]; exact g1, by rw [u1, g3, e, va_up_self]⟩
      · exact .inl (by rw [u1, g3, va_up_ne _ _ e])
    · obtain ⟨d2, hd2, _, _, o2⟩ := H.1 l' hl'
      by_cases e : l' = l
      · rw [e, xe_some (d := p) (by rw [u4, g5, va_up_self]), u6, va_up_self, va_up_ne _ _ (by rw [e] at hi; rw [eS, ki_nat]; omega), g9 i (by rw [i0, ← e]; exact hi)]
        unfold xe
        rw [r0, a0]
      · have dp : d2 ≠ p := by
          intro q
          rcases o2 with o2 | o2
          · exact g2 (q.symm.trans o2.1)
          · have := o2.2.1
            rw [q, g1] at this
            omega
        rw [xe_some (d := d2) (by rw [u4, g5, va_up_ne _ _ e, r0]; exact hd2), xe_some hd2, u6, va_up_ne _ _ dp, g8 d2 dp, a0]
    · rw [← eS, xe_some (d := p) (by rw [u4, g5, va_up_self]), u6, va_up_self, va_up_self]
  have lim : ∀ q : Nat, q ≤ 600 → (nI q).toInt = (q : Int) := fun q hq => nI_toInt (by omega)
  refine ⟨fun c => ⟨fun q => ?_, fun _ => ⟨by rw [x0]; exact hl, ?_⟩⟩, fun c => ?_⟩
  · rw [z0] at c
    rcases o with o | o
    · exact absurd (eS.trans o.2) q
    · exact absurd c o.1
  · rw [z0] at c
    rcases o with o | o
    · exact G (.inl o)
    · exact absurd c o.1
  · rw [z0] at c
    obtain ⟨o1, o2, o3, o4, o5, o6⟩ := o.resolve_left (fun x => c x.1)
    have hc : xn σ d ≤ 600 := by
      unfold ylc at o4
      split at o4 <;> omega
    refine ⟨by rw [x0]; exact o2, fun q => N c o2 ?_, fun q => ⟨by rw [x0]; exact hl, G (.inr ⟨c, ?_⟩)⟩⟩
    · rw [n0] at q
      have : S.toInt ≠ (xn σ d : Int) := fun x => q (ki_eq.2 (x.trans (lim _ hc).symm))
      rw [eS]
      rw [eS] at this
      omega
    · rw [n0] at q
      rw [← eS, q, lim _ hc]
end
section
theorem yL_cut {g κ : Nat → Nat} {B n : Nat} {σ τ : kx_S} {l d : Nat} (H : yL_ g κ B n σ) (hl : xt σ l = 1) (hd : xr σ 17 l = some d) (h0 : 0 < (xi σ 18 l).toInt)
    (t1 : xt τ = xt σ) (t2 : xi τ 18 = va_up (xi σ 18) l (xi σ 18 l - 1)) (t3 : xr τ 17 = xr σ 17) (t4 : xn τ = xn σ) (t5 : ∀ a, a ≠ d → xar τ a = xar σ a) (t6 : ∀ k : Nat, (k : Int) < (xi σ 18 l).toInt - 1 → ∃ j : Nat, (j : Int) < (xi σ 18 l).toInt ∧ xar τ d k = xar σ d j) (t7 : xc τ = xc σ) (t8 : xz τ = xz σ) : yL_ g κ B n τ := by
  have sz := ry_size H hl
  have dec := ki_dec2 (a := xi σ 18 l) (by omega)
  refine ⟨fun a ha => ?_, ?_, fun a ha => H.2.2.1 a (by rw [← t1]; exact ha), ?_⟩
  · rw [t1] at ha
    obtain ⟨d2, hd2, s1, s2, o⟩ := H.1 a ha
    by_cases e : a = l
    · subst e
      rw [hd] at hd2
      have ed : d = d2 := Option.some.inj hd2
      subst ed
      obtain ⟨o1, o2, o3, o4, o5, o6⟩ := o.resolve_left (fun x => by rw [x.2, ki_z0] at h0; omega)
      refine ⟨d, by rw [t3]; exact hd, by rw [t2, va_up_self]; omega, by rw [t2, va_up_self]; omega, .inr ⟨by rw [t8]; exact o1, by rw [t1]; exact o2, by rw [t4]; exact o3, by rw [t4]; exact o4, by rw [t2, va_up_self, t4]; omega, fun i hi => ?_⟩⟩
      rw [t2, va_up_self] at hi
      rw [t1]
      obtain ⟨j, hj, ej⟩ := t6 i (by omega)
      rw [ej]
      exact o6 j hj
    · refine ⟨d2, by rw [t3]; exact hd2, by rw [t2, va_up_ne _ _ e]; exact s1, by rw [t2, va_up_ne _ _ e]; exact s2, ?_⟩
      rw [t8, t2, va_up_ne _ _ e, t1, t4]
      rcases o with o | o
      · exact .inl o
      · have dd : d2 ≠ d := fun q => e (H.2.1 a l d2 ha hl hd2 (by rw [q]; exact hd) o.1)
        rw [t5 d2 dd]
        exact .inr o
  · intro a b x ha hb
    rw [t1] at ha hb
    rw [t3, t8]
    exact H.2.1 a b x ha hb
  · obtain ⟨LS, e, nd, m, b⟩ := H.2.2.2
    have ec : ycap τ = ycap σ := by
      funext a
      unfold ycap
      rw [t3, t8, t4]
    exact ⟨LS, e, nd, fun a => by rw [t1]; exact m a, by rw [ec, t7]; exact b⟩
/-- what a removal leaves -/
def yr_ (l : Nat) (σ τ : kx_S) : Prop := fg_ σ τ ∧ xt τ = xt σ ∧ (∀ f, f ≠ 16 → f ≠ 18 → xi τ f = xi σ f) ∧ xi τ 18 = va_up (xi σ 18) l (xi σ 18 l - 1) ∧ (∀ f, xr τ f = xr σ f) ∧ (∀ l' : Nat, xt σ l' = 1 → l' ≠ l → 0 < (xi σ 18 l').toInt → ∀ i : Nat, xe τ l' i = xe σ l' i) ∧ xl τ = xl σ
theorem ry_remove {g κ : Nat → Nat} {B n : Nat} {σ : kx_S} {l : Nat} {i : Int32} {Q : Option Nat → kx_S → Prop} (H : yL_ g κ B n σ) (hl : xt σ l = 1) (h0 : 0 ≤ i.toInt) (h1 : i.toInt < (xi σ 18 l).toInt) (kk : ∀ q τ, yL_ g κ B n τ → yr_ l σ τ → Q q τ) : wJx4a65c_remove_915e3 l i σ Q := by
  obtain ⟨d, hd, s1, s2, o⟩ := H.1 l hl
  have hk := H.2.2.1 l hl
  have sz := ry_size H hl
  have dec := ki_dec2 (a := xi σ 18 l) (by omega)
  obtain ⟨o1, o2, o3, o4, o5, o6⟩ := o.resolve_left (fun x => by rw [x.2, ki_z0] at h1; omega)
  refine ⟨hl, ry_check h0 h1 ⟨hl, d, hd, o2, by rw [ki_in]; omega, fun q9 e9 => ⟨hl, fun τ0 e0 v ev => ?_⟩⟩⟩
  have v0 : v = xi σ 18 l - 1 := by rw [ev, e0]; rfl
  have i0 : xi τ0 18 l = xi σ 18 l := by rw [e0]; rfl
  have x0 : xt τ0 = xt σ := by rw [e0]; rfl
  have n0 : xn τ0 = xn σ := by rw [e0]; rfl
  have a0 : xar τ0 = xar σ := by rw [e0]; rfl
  have vt : v.toInt = (xi σ 18 l).toInt - 1 := by rw [v0, dec]
  rw [i0, ← v0]
  clear ev
  -- the last step
  have E : ∀ τ1, xt τ1 = xt σ → (∀ f, f ≠ 16 → xi τ1 f = xi σ f) → (∀ f, xr τ1 f = xr σ f) → xn τ1 = xn σ → (∀ a, a ≠ d → xar τ1 a = xar σ a) → (∀ k : Nat, (k : Int) < v.toInt → ∃ j : Nat, (j : Int) < (xi σ 18 l).toInt ∧ xar τ1 d k = xar σ d j) → xc τ1 = xc σ → xz τ1 = xz σ → xl τ1 = xl σ → wJx4a65c_fastRemove_b59b0_34 (fun σ10 => Q q9 σ10) l d v τ1 := by
    intro τ1 u1 u2 u3 u4 u5 u6 u7 u8 u9
    refine ⟨by rw [u1]; exact hl, fun τ2 e2 => ⟨by rw [e2]; show xt τ1 d = 22; rw [u1]; exact o2, by rw [e2]; show vp_in v (xn τ1 d); rw [u4, ki_in]; omega, fun τ e3 => ?_⟩⟩
    rw [e3, e2]
    have w1 : xt (xsar (xsi τ1 18 l v) d v.toNatClampNeg none) = xt σ := u1
    have w2 : xi (xsar (xsi τ1 18 l v) d v.toNatClampNeg none) 18 = va_up (xi σ 18) l (xi σ 18 l - 1) := by
      show va_up (xi τ1 18) l v = _
      rw [u2 18 (by decide), v0]
    have w3 : ∀ f, xr (xsar (xsi τ1 18 l v) d v.toNatClampNeg none) f = xr σ f := u3
    have w5 : ∀ a, a ≠ d → xar (xsar (xsi τ1 18 l v) d v.toNatClampNeg none) a = xar σ a := fun a ha => (va_up_ne _ _ ha).trans (u5 a ha)
    have w6 : ∀ k : Nat, (k : Int) < (xi σ 18 l).toInt - 1 → ∃ j : Nat, (j : Int) < (xi σ 18 l).toInt ∧ xar (xsar (xsi τ1 18 l v) d v.toNatClampNeg none) d k = xar σ d j := by
      intro k hk
      obtain ⟨j, hj, ej⟩ := u6 k (by omega)
      refine ⟨j, hj, ?_⟩
      show va_up (xar τ1) d (va_up (xar τ1 d) v.toNatClampNeg none) d k = _
      rw [va_up_self, va_up_ne _ _ (by rw [ki_nat]; omega)]
      exact ej
    refine kk q9 _ (yL_cut H hl hd (by omega) w1 w2 (w3 17) u4 w5 w6 u7 u8) ⟨⟨fun a _ => by rw [w1], fun f a _ _ => by rw [w3], fun a _ => congrFun u4 a, u8⟩, w1, fun f f1 f2 => ?_, w2, w3, fun l' hl' ne hp i => ?_, u9⟩
    · show (if f = 18 then _ else xi τ1 f) = xi σ f
      rw [if_neg f2]
      exact u2 f f1
    · obtain ⟨d2, hd2, _, _, oo⟩ := H.1 l' hl'
      rw [xe_some (d := d2) (by rw [w3]; exact hd2), xe_some hd2]
      have nz : d2 ≠ xz σ := by
        rcases oo with oo | oo
        · rw [oo.2, ki_z0] at hp; omega
        · exact oo.1
      rw [w5 d2 (fun q => ne (H.2.1 l' l d2 hl' hl hd2 (by rw [q]; exact hd) nz))]
  have i00 : ∀ f, f ≠ 16 → xi τ0 f = xi σ f := fun f hf => by
    rw [e0]
    show (if f = 16 then _ else xi σ f) = xi σ f
    rw [if_neg hf]
  have r0 : ∀ f, xr τ0 f = xr σ f := fun f => by rw [e0]; rfl
  have c0 : xc τ0 = xc σ := by rw [e0]; rfl
  have z0 : xz τ0 = xz σ := by rw [e0]; rfl
  have l0 : xl τ0 = xl σ := by rw [e0]; rfl
  clear e0
  refine ⟨fun c => E τ0 x0 i00 r0 n0 (fun a _ => by rw [a0]) (fun k hk => ⟨k, by omega, by rw [a0]⟩) c0 z0 l0, fun c => ?_⟩
  rw [ki_le] at c
  have ii := ki_inc (a := i) (by omega) (by omega)
  have vd := ki_sub (a := v) (b := i) (by omega) (by omega)
  obtain ⟨x, ex⟩ : ∃ x, x = i.toNatClampNeg := ⟨_, rfl⟩
  have hx : (x : Int) = i.toInt := by rw [ex, ki_nat]; omega
  have x1 : (i + 1).toNatClampNeg = x + 1 := by rw [ki_nat]; omega
  obtain ⟨m, em⟩ : ∃ m, m = (v - i).toNatClampNeg := ⟨_, rfl⟩
  have hm : (m : Int) = v.toInt - i.toInt := by rw [em, ki_nat]; omega
  rw [← ex, ← em, x1]
  refine ⟨by rw [x0]; exact o2, by rw [ki_lt, ki_z0]; omega, by rw [ki_lt, ki_z0]; omega, by rw [ki_lt, ki_z0]; omega, by rw [n0]; omega, by rw [n0]; omega, fun k hk2 y hy => ?_, fun τ1 e1 => ?_⟩
  · rw [a0] at hy
    obtain ⟨y2, ey, ty⟩ := o6 (x + 1 + k) (by omega)
    rw [hy] at ey
    have := Option.some.inj ey
    subst this
    rw [x0, ty]
    exact hk
  · rw [e1]
    refine E _ x0 i00 r0 n0 (fun a ha => (va_up_ne _ _ ha).trans (congrFun a0 a)) (fun k hk => ?_) c0 z0 l0
    show ∃ j : Nat, (j : Int) < (xi σ 18 l).toInt ∧ va_up (xar τ0) d (va_cpy (xar τ0 d) (xar τ0 d) (x + 1) x m) d k = xar σ d j
    rw [va_up_self, a0]
    unfold va_cpy
    by_cases c2 : x ≤ k ∧ k < x + m
    · rw [if_pos c2]
      exact ⟨x + 1 + (k - x), by omega, rfl⟩
    · rw [if_neg c2]
      exact ⟨k, by omega, rfl⟩
/-- a new list, empty -/
theorem yL_new {g κ : Nat → Nat} {B n : Nat} {σ τ : kx_S} {p t : Nat} (H : yL_ g κ B n σ) (hp : xt σ p = 0) (ht : kx_el t) (t1 : xt τ = va_up (xt σ) p 1) (t2 : xi τ 18 = va_up (xi σ 18) p 0) (t3 : xr τ 17 = va_up (xr σ 17) p (some (xz σ))) (t4 : xn τ = xn σ) (t5 : xar τ = xar σ) (t7 : xc τ = xc σ + 1) (t8 : xz τ = xz σ) : yL_ g (va_up κ p t) (B + 1) (n + 1) τ := by
  have ne : ∀ a, xt σ a ≠ 0 → a ≠ p := fun a h e => h (by rw [e]; exact hp)
  have one : ∀ a, a ≠ p → (xt τ a = 1 ↔ xt σ a = 1) := fun a e => by rw [t1, va_up_ne _ _ e]
  have wellp : ∀ a, xt τ a ≠ 0 → a ≠ p → xt σ a ≠ 0 := fun a h e => by rw [t1, va_up_ne _ _ e] at h; exact h
  refine ⟨fun a ha => ?_, fun a b x ha hb xa xb hx => ?_, fun a ha => ?_, ?_⟩
  · by_cases e : a = p
    · rw [e]
      refine ⟨xz σ, by rw [t3, va_up_self], by rw [t2, va_up_self]; decide, by rw [t2, va_up_self, ki_z0]; omega, .inl ⟨t8.symm, by rw [t2, va_up_self]⟩⟩
    · have ha' := (one a e).1 ha
      obtain ⟨d2, hd2, s1, s2, o⟩ := H.1 a ha'
      refine ⟨d2, by rw [t3, va_up_ne _ _ e]; exact hd2, by rw [t2, va_up_ne _ _ e]; exact s1, by rw [t2, va_up_ne _ _ e]; exact s2, ?_⟩
      rw [t8, t2, va_up_ne _ _ e, t4, t5, va_up_ne _ _ e]
      rcases o with o | o
      · exact .inl o
      · refine .inr ⟨o.1, by rw [t1, va_up_ne _ _ (ne d2 (by rw [o.2.1]; decide))]; exact o.2.1, o.2.2.1, o.2.2.2.1, o.2.2.2.2.1, fun i hi => ?_⟩
        obtain ⟨y, ey, ty⟩ := o.2.2.2.2.2 i hi
        exact ⟨y, ey, by rw [t1, va_up_ne _ _ (ne y (by rw [ty]; exact (H.2.2.1 a ha').ne))]; exact ty⟩
  · rw [t3] at xa xb
    rw [t8] at hx
    by_cases ea : a = p
    · rw [ea, va_up_self] at xa
      exact absurd (Option.some.inj xa).symm hx
    · by_cases eb : b = p
      · rw [eb, va_up_self] at xb
        exact absurd (Option.some.inj xb).symm hx
      · rw [va_up_ne _ _ ea] at xa
        rw [va_up_ne _ _ eb] at xb
        exact H.2.1 a b x ((one a ea).1 ha) ((one b eb).1 hb) xa xb hx
  · by_cases e : a = p
    · rw [e, va_up_self]; exact ht
    · rw [va_up_ne _ _ e]
      exact H.2.2.1 a ((one a e).1 ha)
  · obtain ⟨LS, e, nd, m, b⟩ := H.2.2.2
    have np : p ∉ LS := fun q => by have := (m p).1 q; rw [hp] at this; omega
    refine ⟨p :: LS, by rw [List.length_cons, e], List.nodup_cons.2 ⟨np, nd⟩, fun a => ?_, ?_⟩
    · rw [List.mem_cons]
      by_cases ea : a = p
      · rw [ea, t1, va_up_self]
        exact ⟨fun _ => rfl, fun _ => .inl rfl⟩
      · rw [one a ea, ← m a]
        exact ⟨fun h => h.elim (fun q => absurd q ea) id, fun h => .inr h⟩
    · have ec : LS.map (ycap τ) = LS.map (ycap σ) := List.map_congr_left (fun a ha => by
        unfold ycap
        have q : a ≠ p := fun q => np (by rw [← q]; exact ha)
        rw [t3, t8, t4, va_up_ne _ _ q])
      rw [List.map_cons, List.sum_cons, ec, t7]
      omega
/-- a new thing that is no list -/
theorem yL_other {g κ : Nat → Nat} {B n : Nat} {σ τ : kx_S} {p t : Nat} (H : yL_ g κ B n σ) (hp : xt σ p = 0) (hz : p ≠ xz σ) (ht : t ≠ 1) (t1 : xt τ = va_up (xt σ) p t) (t2 : ∀ a, a ≠ p → xi τ 18 a = xi σ 18 a) (t3 : ∀ a, a ≠ p → xr τ 17 a = xr σ 17 a) (t4 : ∀ a, a ≠ p → xn τ a = xn σ a) (t5 : ∀ a, a ≠ p → xar τ a = xar σ a) (t7 : xc τ = xc σ + 1) (t8 : xz τ = xz σ) : yL_ g κ (B + 1) n τ := by
  have ne : ∀ a, xt σ a ≠ 0 → a ≠ p := fun a h e => h (by rw [e]; exact hp)
  have one : ∀ a, xt τ a = 1 ↔ xt σ a = 1 := by
    intro a
    by_cases e : a = p
    · rw [t1, e, va_up_self, hp]; omega
    · rw [t1, va_up_ne _ _ e]
  have n1 : ∀ a, xt σ a = 1 → a ≠ p := fun a h => ne a (by rw [h]; decide)
  refine ⟨fun a ha => ?_, fun a b x ha hb xa xb hx => ?_, fun a ha => H.2.2.1 a ((one a).1 ha), ?_⟩
  · have ha' := (one a).1 ha
    have e := n1 a ha'
    obtain ⟨d2, hd2, s1, s2, o⟩ := H.1 a ha'
    refine ⟨d2, by rw [t3 a e]; exact hd2, by rw [t2 a e]; exact s1, by rw [t2 a e]; exact s2, ?_⟩
    rw [t8, t2 a e]
    rcases o with o | o
    · exact .inl o
    · have dp := ne d2 (by rw [o.2.1]; decide)
      rw [t4 d2 dp, t5 d2 dp]
      refine .inr ⟨o.1, by rw [t1, va_up_ne _ _ dp]; exact o.2.1, o.2.2.1, o.2.2.2.1, o.2.2.2.2.1, fun i hi => ?_⟩
      obtain ⟨y, ey, ty⟩ := o.2.2.2.2.2 i hi
      exact ⟨y, ey, by rw [t1, va_up_ne _ _ (ne y (by rw [ty]; exact (H.2.2.1 a ha').ne))]; exact ty⟩
  · have ha' := (one a).1 ha
    have hb' := (one b).1 hb
    rw [t3 a (n1 a ha')] at xa
    rw [t3 b (n1 b hb')] at xb
    rw [t8] at hx
    exact H.2.1 a b x ha' hb' xa xb hx
  · obtain ⟨LS, e, nd, m, b⟩ := H.2.2.2
    refine ⟨LS, e, nd, fun a => (m a).trans (one a).symm, ?_⟩
    have ec : LS.map (ycap τ) = LS.map (ycap σ) := List.map_congr_left (fun a ha => by
      have ha' := (m a).1 ha
      obtain ⟨d2, hd2, _, _, o⟩ := H.1 a ha'
      rw [ycap_some hd2, ycap_some (d := d2) (by rw [t3 a (n1 a ha')]; exact hd2), t8]
      rcases o with o | o
      · rw [if_pos o.1, if_pos o.1]
      · rw [if_neg o.1, if_neg o.1, t4 d2 (ne d2 (by rw [o.2.1]; decide))])
    rw [ec, t7]
    omega
theorem yL_bump {g κ : Nat → Nat} {B n : Nat} {σ : kx_S} (H : yL_ g κ B n σ) : yL_ g κ (B + 1) n (xbump σ) := by
  refine ⟨H.1, H.2.1, H.2.2.1, ?_⟩
  obtain ⟨LS, e, nd, m, b⟩ := H.2.2.2
  refine ⟨LS, e, nd, m, ?_⟩
  show 5 * (xc σ + 1) ≤ 5 * (B + 1) + (LS.map (ycap σ)).sum
  omega
theorem yL_le {g κ : Nat → Nat} {B B' n : Nat} {σ : kx_S} (H : yL_ g κ B n σ) (h : B ≤ B') : yL_ g κ B' n σ := by
  refine ⟨H.1, H.2.1, H.2.2.1, ?_⟩
  obtain ⟨LS, e, nd, m, b⟩ := H.2.2.2
  exact ⟨LS, e, nd, m, by omega⟩
end
section
/-! what always holds of the class -/
/-- things point to things of their kind; E: what is still being made -/
def yP_ (E : Nat → Prop) (g κ : Nat → Nat) (σ : kx_S) : Prop := ∀ a, ¬ E a →
  (xt σ a = 2 → (∃ h, xr σ 32 a = some h ∧ xt σ h = 1 ∧ κ h = 8 ∧ h ≠ g 2) ∧ ∃ o, xr σ 33 a = some o ∧ xt σ o = 1 ∧ κ o = 9 ∧ o ≠ g 5) ∧
  (xt σ a = 3 → ∃ h, xr σ 49 a = some h ∧ xt σ h = 1 ∧ κ h = 8 ∧ h ≠ g 2) ∧
  (xt σ a = 4 → ∃ h, xr σ 64 a = some h ∧ xt σ h = 10) ∧
  (xt σ a = 5 → (∃ h, xr σ 80 a = some h ∧ xt σ h = 20 ∧ xn σ h = 33) ∧ ∃ h, xr σ 81 a = some h ∧ xt σ h = 20 ∧ xn σ h = 7) ∧
  (xt σ a = 6 → ∃ h, xr σ 97 a = some h ∧ xt σ h = 20 ∧ xn σ h ≤ 500) ∧
  (xt σ a = 7 → (∃ h, xr σ 112 a = some h ∧ xt σ h = 12) ∧ ∃ h, xr σ 113 a = some h ∧ xt σ h = 20 ∧ xn σ h = 500) ∧
  (xt σ a = 10 → (xr σ 161 a = none ∨ ∃ h, xr σ 161 a = some h ∧ xt σ h = 10) ∧ (∃ h, xr σ 163 a = some h ∧ xt σ h = 1 ∧ κ h = 3) ∧ (xr σ 172 a = none ∨ ∃ h, xr σ 172 a = some h ∧ xt σ h = 2)) ∧
  (xt σ a = 11 → ∃ h, xr σ 176 a = some h ∧ xt σ h = 20 ∧ xn σ h = 500) ∧
  (xt σ a = 12 → ∃ h, xr σ 192 a = some h ∧ xt σ h = 11)
/-- the one LogRiver -/
def yG_ (g κ : Nat → Nat) (σ : kx_S) : Prop := xt σ (g 0) = 13 ∧ (xr σ 208 (g 0) = some (g 1) ∧ xt σ (g 1) = 1 ∧ κ (g 1) = 10) ∧ (xr σ 209 (g 0) = some (g 2) ∧ xt σ (g 2) = 1 ∧ κ (g 2) = 8) ∧ (xr σ 210 (g 0) = some (g 3) ∧ xt σ (g 3) = 1 ∧ κ (g 3) = 6) ∧ (xr σ 211 (g 0) = some (g 4) ∧ xt σ (g 4) = 1 ∧ κ (g 4) = 4) ∧ (xr σ 212 (g 0) = some (g 5) ∧ xt σ (g 5) = 1 ∧ κ (g 5) = 9) ∧ (xr σ 213 (g 0) = some (g 6) ∧ xt σ (g 6) = 11) ∧ (xr σ 214 (g 0) = some (g 7) ∧ xt σ (g 7) = 7) ∧ (xr σ 215 (g 0) = some (g 8) ∧ xt σ (g 8) = 5) ∧ (xr σ 216 (g 0) = some (g 9) ∧ xt σ (g 9) = 21 ∧ xn σ (g 9) = 16) ∧ (xt σ (g 10) = 21 ∧ 1 ≤ xn σ (g 10))
/-- numbers -/
def yN_ (g κ : Nat → Nat) (σ : kx_S) : Prop := ∀ a,
  (xt σ a = 2 → (xi σ 35 a).toInt ≤ 100) ∧
  (xt σ a = 3 → (xi σ 48 a).toInt ≤ 20) ∧
  (xt σ a = 5 → (0 ≤ (xi σ 82 a).toInt ∧ (xi σ 82 a).toInt ≤ 33) ∧ (xi σ 83 a = 0 ∨ xi σ 83 a = 1)) ∧
  (xt σ a = 7 → 0 ≤ (xi σ 114 a).toInt ∧ (xi σ 114 a).toInt ≤ 500) ∧
  (xt σ a = 8 → 0 ≤ (xi σ 129 a).toInt ∧ (xi σ 129 a).toInt ≤ 15) ∧
  (xt σ a = 10 → xi σ 171 a = 0 ∨ xi σ 171 a = 1) ∧
  (xt σ a = 11 → 0 ≤ (xi σ 177 a).toInt ∧ (xi σ 177 a).toInt ≤ 500) ∧
  (xt σ a = 1 → κ a = 9 → (xi σ 18 a).toInt ≤ (xi σ 18 (g 5)).toInt)
/-- what calls show that need no walk of logs -/
def yS_ (s : sz_T) (g : Nat → Nat) (σ : kx_S) : Prop := (xi σ 18 (g 1), xi σ 18 (g 2), xi σ 18 (g 4), xi σ 18 (g 5), xi σ 177 (g 6), xi σ 217 (g 0)) = s.1 ∧
  (∀ r : Nat, (r : Int) < (xi σ 18 (g 1)).toInt → ∃ R, xe σ (g 1) r = some R ∧ (xi σ 160 R).toInt = (r : Int) ∧ xi σ 165 R = s.2.1 r ∧ xi σ 168 R = s.2.2.1 r ∧ xi σ 164 R = s.2.2.2.1 r ∧ xi σ 171 R = s.2.2.2.2.1 r ∧ (xr σ 172 R = none ↔ s.2.2.2.2.2 r = 0)) ∧
  (∀ r : Nat, (xi σ 18 (g 1)).toInt ≤ (r : Int) → s.2.1 r = 0 ∧ s.2.2.1 r = 0 ∧ s.2.2.2.1 r = 0 ∧ s.2.2.2.2.1 r = 0 ∧ s.2.2.2.2.2 r = 0) ∧
  (xi σ 18 (g 1)).toInt ≤ 10 ∧ (xi σ 18 (g 3)).toInt ≤ 6 ∧ (xi σ 18 (g 4)).toInt ≤ 6 ∧ (xi σ 18 (g 5)).toInt ≤ 60
def yI_ (s : sz_T) (E : Nat → Prop) (g κ : Nat → Nat) (B n : Nat) (σ : kx_S) : Prop := yL_ g κ B n σ ∧ yP_ E g κ σ ∧ yG_ g κ σ ∧ yN_ g κ σ ∧ yS_ s g σ
theorem yP_fg {E : Nat → Prop} {g κ κ' : Nat → Nat} {σ τ : kx_S} (F : fg_ σ τ) (T : ∀ a, ¬ E a → xt τ a = xt σ a ∨ xt τ a = 0 ∨ xt τ a = 1 ∨ xt τ a = 8 ∨ xt τ a = 9 ∨ xt τ a = 13 ∨ xt τ a = 20 ∨ xt τ a = 21 ∨ xt τ a = 22) (K : ∀ a, xt σ a = 1 → κ' a = κ a) (P : yP_ E g κ σ) : yP_ E g κ' τ := by
  intro a ha
  obtain ⟨p2, p3, p4, p5, p6, p7, p10, p11, p12⟩ := P a ha
  have tg : ∀ {t : Nat}, xt τ a = t → (t ≠ 0 ∧ t ≠ 1 ∧ t ≠ 8 ∧ t ≠ 9 ∧ t ≠ 13 ∧ t ≠ 20 ∧ t ≠ 21 ∧ t ≠ 22) → xt σ a = t := fun {t} e c => by
    rcases T a ha with h | h
    · rw [← h]; exact e
    · omega
  have kp : ∀ {b t : Nat}, xt σ b = t → t ≠ 0 → xt τ b = t := fun e c => fg_tag F e c
  have np : ∀ {b t m : Nat}, xt σ b = t → t ≠ 0 → xn σ b = m → xn τ b = m := fun {b t m} e c h => (F.2.2.1 b (by rw [e]; exact c)).trans h
  refine ⟨fun e => ?_, fun e => ?_, fun e => ?_, fun e => ?_, fun e => ?_, fun e => ?_, fun e => ?_, fun e => ?_, fun e => ?_⟩
  · have e' := tg e (by decide)
    obtain ⟨⟨h, h1, h2, h3, h4⟩, o, o1, o2, o3, o4⟩ := p2 e'
    exact ⟨⟨h, fg_ref F e' (by decide) (by decide) h1, kp h2 (by decide), (K h h2).trans h3, h4⟩, o, fg_ref F e' (by decide) (by decide) o1, kp o2 (by decide), (K o o2).trans o3, o4⟩
  · have e' := tg e (by decide)
    obtain ⟨h, h1, h2, h3, h4⟩ := p3 e'
    exact ⟨h, fg_ref F e' (by decide) (by decide) h1, kp h2 (by decide), (K h h2).trans h3, h4⟩
  · have e' := tg e (by decide)
    obtain ⟨h, h1, h2⟩ := p4 e'
    exact ⟨h, fg_ref F e' (by decide) (by decide) h1, kp h2 (by decide)⟩
  · have e' := tg e (by decide)
    obtain ⟨⟨h, h1, h2, h3⟩, o, o1, o2, o3⟩ := p5 e'
    exact ⟨⟨h, fg_ref F e' (by decide) (by decide) h1, kp h2 (by decide), np h2 (by decide) h3⟩, o, fg_ref F e' (by decide) (by decide) o1, kp o2 (by decide), np o2 (by decide) o3⟩
  · have e' := tg e (by decide)
    obtain ⟨h, h1, h2, h3⟩ := p6 e'
    exact ⟨h, fg_ref F e' (by decide) (by decide) h1, kp h2 (by decide), by rw [np h2 (by decide) rfl]; exact h3⟩
  · have e' := tg e (by decide)
    obtain ⟨⟨h, h1, h2⟩, o, o1, o2, o3⟩ := p7 e'
    exact ⟨⟨h, fg_ref F e' (by decide) (by decide) h1, kp h2 (by decide)⟩, o, fg_ref F e' (by decide) (by decide) o1, kp o2 (by decide), np o2 (by decide) o3⟩
  · have e' := tg e (by decide)
    obtain ⟨q1, ⟨h, h1, h2, h3⟩, q3⟩ := p10 e'
    refine ⟨?_, ⟨h, fg_ref F e' (by decide) (by decide) h1, kp h2 (by decide), (K h h2).trans h3⟩, ?_⟩
    · rcases q1 with q | ⟨b, b1, b2⟩
      · exact .inl (fg_ref F e' (by decide) (by decide) q)
      · exact .inr ⟨b, fg_ref F e' (by decide) (by decide) b1, kp b2 (by decide)⟩
    · rcases q3 with q | ⟨b, b1, b2⟩
      · exact .inl (fg_ref F e' (by decide) (by decide) q)
      · exact .inr ⟨b, fg_ref F e' (by decide) (by decide) b1, kp b2 (by decide)⟩
  · have e' := tg e (by decide)
    obtain ⟨h, h1, h2, h3⟩ := p11 e'
    exact ⟨h, fg_ref F e' (by decide) (by decide) h1, kp h2 (by decide), np h2 (by decide) h3⟩
  · have e' := tg e (by decide)
    obtain ⟨h, h1, h2⟩ := p12 e'
    exact ⟨h, fg_ref F e' (by decide) (by decide) h1, kp h2 (by decide)⟩
theorem yG_fg {g κ κ' : Nat → Nat} {σ τ : kx_S} (F : fg_ σ τ) (K : ∀ a, xt σ a = 1 → κ' a = κ a) (G : yG_ g κ σ) : yG_ g κ' τ := by
  obtain ⟨g0, ⟨a1, b1, c1⟩, ⟨a2, b2, c2⟩, ⟨a3, b3, c3⟩, ⟨a4, b4, c4⟩, ⟨a5, b5, c5⟩, ⟨a6, b6⟩, ⟨a7, b7⟩, ⟨a8, b8⟩, ⟨a9, b9, c9⟩, ⟨b10, c10⟩⟩ := G
  have kp : ∀ {b t : Nat}, xt σ b = t → t ≠ 0 → xt τ b = t := fun e c => fg_tag F e c
  have rp : ∀ {f : Nat} {v : Option Nat}, f ≠ 17 → xr σ f (g 0) = v → xr τ f (g 0) = v := fun hf h => fg_ref F g0 (by decide) hf h
  exact ⟨kp g0 (by decide), ⟨rp (by decide) a1, kp b1 (by decide), (K _ b1).trans c1⟩, ⟨rp (by decide) a2, kp b2 (by decide), (K _ b2).trans c2⟩, ⟨rp (by decide) a3, kp b3 (by decide), (K _ b3).trans c3⟩, ⟨rp (by decide) a4, kp b4 (by decide), (K _ b4).trans c4⟩, ⟨rp (by decide) a5, kp b5 (by decide), (K _ b5).trans c5⟩, ⟨rp (by decide) a6, kp b6 (by decide)⟩, ⟨rp (by decide) a7, kp b7 (by decide)⟩, ⟨rp (by decide) a8, kp b8 (by decide)⟩, ⟨rp (by decide) a9, kp b9 (by decide), (F.2.2.1 _ (by rw [b9]; decide)).trans c9⟩, ⟨kp b10 (by decide), by rw [F.2.2.1 _ (by rw [b10]; decide)]; exact c10⟩⟩
/-- the main lists are five -/
theorem yG_ne {g κ : Nat → Nat} {σ : kx_S} (G : yG_ g κ σ) : g 1 ≠ g 2 ∧ g 1 ≠ g 3 ∧ g 1 ≠ g 4 ∧ g 1 ≠ g 5 ∧ g 2 ≠ g 3 ∧ g 2 ≠ g 4 ∧ g 2 ≠ g 5 ∧ g 3 ≠ g 4 ∧ g 3 ≠ g 5 ∧ g 4 ≠ g 5 := by
  obtain ⟨g0, ⟨a1, b1, c1⟩, ⟨a2, b2, c2⟩, ⟨a3, b3, c3⟩, ⟨a4, b4, c4⟩, ⟨a5, b5, c5⟩, _⟩ := G
  refine ⟨?_, ?_, ?_, ?_, ?_, ?_, ?_, ?_, ?_, ?_⟩
  all_goals (intro e; have e2 := congrArg κ e; omega)
/-- a step that changes no list but cells' and heaps' -/
theorem yI_tr {s : sz_T} {E : Nat → Prop} {g κ : Nat → Nat} {B n : Nat} {σ τ : kx_S} (I : yI_ s E g κ B n σ) (L : yL_ g κ B n τ) (F : fg_ σ τ) (T : ∀ a, xt τ a = xt σ a ∨ xt σ a = 0 ∧ xt τ a = 22) (N : ∀ f ∈ [35, 48, 82, 83, 114, 129, 171, 177, 164, 165, 168, 160, 217], xi τ f = xi σ f) (S : ∀ l, xt σ l = 1 → (κ l ≠ 8 ∨ l = g 2) → xi τ 18 l = xi σ 18 l) (X : ∀ i : Nat, (i : Int) < (xi σ 18 (g 1)).toInt → xe τ (g 1) i = xe σ (g 1) i) : yI_ s E g κ B n τ := by
  obtain ⟨iL, iP, iG, iN, iS⟩ := I
  have G' := iG
  obtain ⟨g0, ⟨a1, b1, c1⟩, ⟨a2, b2, c2⟩, ⟨a3, b3, c3⟩, ⟨a4, b4, c4⟩, ⟨a5, b5, c5⟩, ⟨a6, b6⟩, _⟩ := G'
  have s1 := S (g 1) b1 (.inl (by rw [c1]; decide))
  have s2 := S (g 2) b2 (.inr rfl)
  have s3 := S (g 3) b3 (.inl (by rw [c3]; decide))
  have s4 := S (g 4) b4 (.inl (by rw [c4]; decide))
  have s5 := S (g 5) b5 (.inl (by rw [c5]; decide))
  refine ⟨L, yP_fg F (fun a _ => (T a).elim .inl (fun h => .inr (.inr (.inr (.inr (.inr (.inr (.inr (.inr h.2))))))))) (fun _ _ => rfl) iP, yG_fg F (fun _ _ => rfl) iG, fun a => ?_, ?_, fun r hr => ?_, ?_, ?_⟩
  · obtain ⟨q1, q2, q3, q4, q5, q6, q7, q8⟩ := iN a
    have tg : ∀ {t : Nat}, xt τ a = t → t ≠ 22 → xt σ a = t := fun {t} e c => by
      rcases T a with h | h
      · rw [← h]; exact e
      · omega
    refine ⟨fun e => ?_, fun e => ?_, fun e => ?_, fun e => ?_, fun e => ?_, fun e => ?_, fun e => ?_, fun e k => ?_⟩
    · rw [N 35 (by decide)]; exact q1 (tg e (by decide))
    · rw [N 48 (by decide)]; exact q2 (tg e (by decide))
    · rw [N 82 (by decide), N 83 (by decide)]; exact q3 (tg e (by decide))
    · rw [N 114 (by decide)]; exact q4 (tg e (by decide))
    · rw [N 129 (by decide)]; exact q5 (tg e (by decide))
    · rw [N 171 (by decide)]; exact q6 (tg e (by decide))
    · rw [N 177 (by decide)]; exact q7 (tg e (by decide))
    · have e' := tg e (by decide)
      rw [s5, S a e' (.inl (by rw [k]; decide))]
      exact q8 e' k
  · rw [s1, s2, s4, s5, N 177 (by decide), N 217 (by decide)]; exact iS.1
  · rw [s1] at hr
    obtain ⟨R, r1, r2, r3, r4, r5, r6, r7⟩ := iS.2.1 r hr
    have tR : xt σ R ≠ 0 := by
      obtain ⟨y, ey, ty⟩ := ry_el iL b1 hr
      rw [r1] at ey
      have := Option.some.inj ey
      rw [this, ty, c1]
      decide
    exact ⟨R, by rw [X r hr]; exact r1, by rw [N 160 (by decide)]; exact r2, by rw [N 165 (by decide)]; exact r3, by rw [N 168 (by decide)]; exact r4, by rw [N 164 (by decide)]; exact r5, by rw [N 171 (by decide)]; exact r6, by rw [F.2.1 172 R (by decide) tR]; exact r7⟩
  · rw [s1]; exact iS.2.2.1
  · rw [s1, s3, s4, s5]; exact iS.2.2.2
/-! during an hour -/
abbrev yJ_ (s : sz_T) (g κ : Nat → Nat) (B n : Nat) (σ : kx_S) : Prop := yI_ s (fun _ => False) g κ B n σ
def fh_ (g κ : Nat → Nat) (σ τ : kx_S) : Prop := fg_ σ τ ∧ ∀ l, xt σ l = 1 → (κ l ≠ 8 ∨ l = g 2) → xi τ 18 l = xi σ 18 l
theorem fh_refl {g κ : Nat → Nat} {σ : kx_S} : fh_ g κ σ σ := ⟨fg_refl, fun _ _ _ => rfl⟩
theorem fh_trans {g κ : Nat → Nat} {a b c : kx_S} (h : fh_ g κ a b) (k : fh_ g κ b c) : fh_ g κ a c := ⟨fg_trans h.1 k.1, fun l t q => (k.2 l (fg_tag h.1 t (by decide)) q).trans (h.2 l t q)⟩
/-- a number written that nothing above speaks of -/
theorem fh_si {g κ : Nat → Nat} {σ : kx_S} {f a : Nat} {v : Int32} (hf : f ≠ 18) : fh_ g κ σ (xsi σ f a v) := by
  refine ⟨⟨fun _ _ => rfl, fun _ _ _ _ => rfl, fun _ _ => rfl, rfl⟩, fun l _ _ => ?_⟩
  show (if 18 = f then _ else xi σ 18) l = xi σ 18 l
  rw [if_neg (fun e => hf e.symm)]
theorem fh_sl {g κ : Nat → Nat} {σ : kx_S} {f a : Nat} {v : Int64} : fh_ g κ σ (xsl σ f a v) := ⟨⟨fun _ _ => rfl, fun _ _ _ _ => rfl, fun _ _ => rfl, rfl⟩, fun _ _ _ => rfl⟩
theorem fh_sal {g κ : Nat → Nat} {σ : kx_S} {i a : Nat} {v : Int64} : fh_ g κ σ (xsal σ a i v) := ⟨⟨fun _ _ => rfl, fun _ _ _ _ => rfl, fun _ _ => rfl, rfl⟩, fun _ _ _ => rfl⟩
theorem fh_sai {g κ : Nat → Nat} {σ : kx_S} {i a : Nat} {v : Int32} : fh_ g κ σ (xsai σ a i v) := ⟨⟨fun _ _ => rfl, fun _ _ _ _ => rfl, fun _ _ => rfl, rfl⟩, fun _ _ _ => rfl⟩
theorem yI_si {s : sz_T} {E : Nat → Prop} {g κ : Nat → Nat} {B n : Nat} {σ : kx_S} {f a : Nat} {v : Int32} (hf : f ∉ [18, 35, 48, 82, 83, 114, 129, 171, 177, 164, 165, 168, 160, 217]) (I : yI_ s E g κ B n σ) : yI_ s E g κ B n (xsi σ f a v) := by
  have N : ∀ k, k ∈ [18, 35, 48, 82, 83, 114, 129, 171, 177, 164, 165, 168, 160, 217] → xi (xsi σ f a v) k = xi σ k := fun k hk => by
    show (if k = f then _ else xi σ k) = xi σ k
    have e : k ≠ f := fun e => hf (by rw [← e]; exact hk)
    rw [if_neg e]
  have n18 := N 18 (by decide)
  have L : yL_ g κ B n (xsi σ f a v) := by
    have h := I.1
    refine ⟨fun b hb => ?_, h.2.1, h.2.2.1, h.2.2.2⟩
    have := h.1 b hb
    unfold yl_ at this ⊢
    rw [n18]
    exact this
  exact yI_tr I L ⟨fun _ _ => rfl, fun _ _ _ _ => rfl, fun _ _ => rfl, rfl⟩ (fun _ => .inl rfl) (fun k hk => N k (List.mem_cons_of_mem 18 hk)) (fun l _ _ => congrFun n18 l) (fun _ _ => rfl)
theorem yI_sl {s : sz_T} {E : Nat → Prop} {g κ : Nat → Nat} {B n : Nat} {σ : kx_S} {f a : Nat} {v : Int64} (I : yI_ s E g κ B n σ) : yI_ s E g κ B n (xsl σ f a v) := I
theorem yI_sal {s : sz_T} {E : Nat → Prop} {g κ : Nat → Nat} {B n : Nat} {σ : kx_S} {i a : Nat} {v : Int64} (I : yI_ s E g κ B n σ) : yI_ s E g κ B n (xsal σ a i v) := I
theorem yI_sai {s : sz_T} {E : Nat → Prop} {g κ : Nat → Nat} {B n : Nat} {σ : kx_S} {i a : Nat} {v : Int32} (I : yI_ s E g κ B n σ) : yI_ s E g κ B n (xsai σ a i v) := I
/-- a log comes into a cell or a heap -/
theorem ry_addlog {s : sz_T} {g κ : Nat → Nat} {B n : Nat} {σ : kx_S} {l y : Nat} {Q : Int32 → kx_S → Prop} (J : yJ_ s g κ B n σ) (hB : B ≤ 3000) (hn : n ≤ 200) (hl : xt σ l = 1) (k8 : κ l = 8) (h2 : l ≠ g 2) (hy : xt σ y = 8) (hs : (xi σ 18 l).toInt < 100) (kk : ∀ τ, yJ_ s g κ B n τ → fh_ g κ σ τ → (∀ l', xt σ l' = 1 → (xi σ 18 l').toInt ≤ (xi τ 18 l').toInt) → Q 1 τ) : wJx4a65c_add_9ea2d l y σ Q := by
  refine ry_add J.1 hB hn hl (by rw [hy, k8]) (by unfold ylb; rw [if_neg h2]; omega) (fun τ L A => ?_)
  obtain ⟨a1, a2, a3, a4, a5, a6, a7, a8⟩ := A
  have sz := ry_size J.1 hl
  have inc := ki_inc (a := xi σ 18 l) (by omega) (by omega)
  have S : ∀ l', xt σ l' = 1 → (κ l' ≠ 8 ∨ l' = g 2) → xi τ 18 l' = xi σ 18 l' := fun l' _ h => by
    rw [a4, va_up_ne _ _ (fun e => ?_)]
    rw [e] at h
    rcases h with h | h
    · exact h k8
    · exact h2 h
  refine kk τ (yI_tr J L a1 a2 (fun f hf => a3 f ?_ ?_) S (fun i hi => a6 (g 1) J.2.2.1.2.1.2.1 i hi)) ⟨a1, S⟩ (fun l' _ => ?_)
  · intro e; subst e; exact absurd hf (by decide)
  · intro e; subst e; exact absurd hf (by decide)
  · rw [a4]
    by_cases e : l' = l
    · rw [e, va_up_self, inc]; omega
    · rw [va_up_ne _ _ e]; omega
theorem ry_removelog {s : sz_T} {g κ : Nat → Nat} {B n : Nat} {σ : kx_S} {l : Nat} {i : Int32} {Q : Option Nat → kx_S → Prop} (J : yJ_ s g κ B n σ) (hl : xt σ l = 1) (k8 : κ l = 8) (h2 : l ≠ g 2) (h0 : 0 ≤ i.toInt) (h1 : i.toInt < (xi σ 18 l).toInt) (kk : ∀ q τ, yJ_ s g κ B n τ → fh_ g κ σ τ → xi τ 18 l = xi σ 18 l - 1 → (∀ a, xt τ a = xt σ a) → (∀ f a, xr τ f a = xr σ f a) → Q q τ) : wJx4a65c_remove_915e3 l i σ Q := by
  refine ry_remove J.1 hl h0 h1 (fun q τ L A => ?_)
  obtain ⟨a1, a2, a3, a4, a5, a6, a7⟩ := A
  have G := J.2.2.1
  have S : ∀ l', xt σ l' = 1 → (κ l' ≠ 8 ∨ l' = g 2) → xi τ 18 l' = xi σ 18 l' := fun l' _ h => by
    rw [a4, va_up_ne _ _ (fun e => ?_)]
    rw [e] at h
    rcases h with h | h
    · exact h k8
    · exact h2 h
  refine kk q τ (yI_tr J L a1 (fun a => .inl (by rw [a2])) (fun f hf => a3 f ?_ ?_) S (fun j hj => a6 (g 1) G.2.1.2.1 (fun e => ?_) (by omega) j)) ⟨a1, S⟩ (by rw [a4, va_up_self]) (fun a => by rw [a2]) (fun f a => by rw [a5])
  · intro e; subst e; exact absurd hf (by decide)
  · intro e; subst e; exact absurd hf (by decide)
  · have := G.2.1.2.2
    rw [e, k8] at this
    omega
end
section
theorem yp2 {s : sz_T} {g κ : Nat → Nat} {B n : Nat} {σ : kx_S} {a : Nat} (J : yJ_ s g κ B n σ) (h : xt σ a = 2) : (∃ h, xr σ 32 a = some h ∧ xt σ h = 1 ∧ κ h = 8 ∧ h ≠ g 2) ∧ ∃ o, xr σ 33 a = some o ∧ xt σ o = 1 ∧ κ o = 9 ∧ o ≠ g 5 := (J.2.1 a id).1 h
theorem yp3 {s : sz_T} {g κ : Nat → Nat} {B n : Nat} {σ : kx_S} {a : Nat} (J : yJ_ s g κ B n σ) (h : xt σ a = 3) : ∃ h, xr σ 49 a = some h ∧ xt σ h = 1 ∧ κ h = 8 ∧ h ≠ g 2 := (J.2.1 a id).2.1 h
theorem yp4 {s : sz_T} {g κ : Nat → Nat} {B n : Nat} {σ : kx_S} {a : Nat} (J : yJ_ s g κ B n σ) (h : xt σ a = 4) : ∃ h, xr σ 64 a = some h ∧ xt σ h = 10 := (J.2.1 a id).2.2.1 h
theorem yp5 {s : sz_T} {g κ : Nat → Nat} {B n : Nat} {σ : kx_S} {a : Nat} (J : yJ_ s g κ B n σ) (h : xt σ a = 5) : (∃ h, xr σ 80 a = some h ∧ xt σ h = 20 ∧ xn σ h = 33) ∧ ∃ h, xr σ 81 a = some h ∧ xt σ h = 20 ∧ xn σ h = 7 := (J.2.1 a id).2.2.2.1 h
theorem yp6 {s : sz_T} {g κ : Nat → Nat} {B n : Nat} {σ : kx_S} {a : Nat} (J : yJ_ s g κ B n σ) (h : xt σ a = 6) : ∃ h, xr σ 97 a = some h ∧ xt σ h = 20 ∧ xn σ h ≤ 500 := (J.2.1 a id).2.2.2.2.1 h
theorem yp7 {s : sz_T} {g κ : Nat → Nat} {B n : Nat} {σ : kx_S} {a : Nat} (J : yJ_ s g κ B n σ) (h : xt σ a = 7) : (∃ h, xr σ 112 a = some h ∧ xt σ h = 12) ∧ ∃ h, xr σ 113 a = some h ∧ xt σ h = 20 ∧ xn σ h = 500 := (J.2.1 a id).2.2.2.2.2.1 h
theorem yp10 {s : sz_T} {g κ : Nat → Nat} {B n : Nat} {σ : kx_S} {a : Nat} (J : yJ_ s g κ B n σ) (h : xt σ a = 10) : (xr σ 161 a = none ∨ ∃ h, xr σ 161 a = some h ∧ xt σ h = 10) ∧ (∃ h, xr σ 163 a = some h ∧ xt σ h = 1 ∧ κ h = 3) ∧ (xr σ 172 a = none ∨ ∃ h, xr σ 172 a = some h ∧ xt σ h = 2) := (J.2.1 a id).2.2.2.2.2.2.1 h
theorem yp11 {s : sz_T} {g κ : Nat → Nat} {B n : Nat} {σ : kx_S} {a : Nat} (J : yJ_ s g κ B n σ) (h : xt σ a = 11) : ∃ h, xr σ 176 a = some h ∧ xt σ h = 20 ∧ xn σ h = 500 := (J.2.1 a id).2.2.2.2.2.2.2.1 h
theorem yp12 {s : sz_T} {g κ : Nat → Nat} {B n : Nat} {σ : kx_S} {a : Nat} (J : yJ_ s g κ B n σ) (h : xt σ a = 12) : ∃ h, xr σ 192 a = some h ∧ xt σ h = 11 := (J.2.1 a id).2.2.2.2.2.2.2.2 h
theorem yg0 {s : sz_T} {E : Nat → Prop} {g κ : Nat → Nat} {B n : Nat} {σ : kx_S} (J : yI_ s E g κ B n σ) : xt σ (g 0) = 13 := J.2.2.1.1
theorem yg1 {s : sz_T} {E : Nat → Prop} {g κ : Nat → Nat} {B n : Nat} {σ : kx_S} (J : yI_ s E g κ B n σ) : xr σ 208 (g 0) = some (g 1) ∧ xt σ (g 1) = 1 ∧ κ (g 1) = 10 := J.2.2.1.2.1
theorem yg2 {s : sz_T} {E : Nat → Prop} {g κ : Nat → Nat} {B n : Nat} {σ : kx_S} (J : yI_ s E g κ B n σ) : xr σ 209 (g 0) = some (g 2) ∧ xt σ (g 2) = 1 ∧ κ (g 2) = 8 := J.2.2.1.2.2.1
theorem yg3 {s : sz_T} {E : Nat → Prop} {g κ : Nat → Nat} {B n : Nat} {σ : kx_S} (J : yI_ s E g κ B n σ) : xr σ 210 (g 0) = some (g 3) ∧ xt σ (g 3) = 1 ∧ κ (g 3) = 6 := J.2.2.1.2.2.2.1
theorem yg4 {s : sz_T} {E : Nat → Prop} {g κ : Nat → Nat} {B n : Nat} {σ : kx_S} (J : yI_ s E g κ B n σ) : xr σ 211 (g 0) = some (g 4) ∧ xt σ (g 4) = 1 ∧ κ (g 4) = 4 := J.2.2.1.2.2.2.2.1
theorem yg5 {s : sz_T} {E : Nat → Prop} {g κ : Nat → Nat} {B n : Nat} {σ : kx_S} (J : yI_ s E g κ B n σ) : xr σ 212 (g 0) = some (g 5) ∧ xt σ (g 5) = 1 ∧ κ (g 5) = 9 := J.2.2.1.2.2.2.2.2.1
theorem yg6 {s : sz_T} {E : Nat → Prop} {g κ : Nat → Nat} {B n : Nat} {σ : kx_S} (J : yI_ s E g κ B n σ) : xr σ 213 (g 0) = some (g 6) ∧ xt σ (g 6) = 11 := J.2.2.1.2.2.2.2.2.2.1
theorem yg7 {s : sz_T} {E : Nat → Prop} {g κ : Nat → Nat} {B n : Nat} {σ : kx_S} (J : yI_ s E g κ B n σ) : xr σ 214 (g 0) = some (g 7) ∧ xt σ (g 7) = 7 := J.2.2.1.2.2.2.2.2.2.2.1
theorem yg8 {s : sz_T} {E : Nat → Prop} {g κ : Nat → Nat} {B n : Nat} {σ : kx_S} (J : yI_ s E g κ B n σ) : xr σ 215 (g 0) = some (g 8) ∧ xt σ (g 8) = 5 := J.2.2.1.2.2.2.2.2.2.2.2.1
theorem yg9 {s : sz_T} {E : Nat → Prop} {g κ : Nat → Nat} {B n : Nat} {σ : kx_S} (J : yI_ s E g κ B n σ) : xr σ 216 (g 0) = some (g 9) ∧ xt σ (g 9) = 21 ∧ xn σ (g 9) = 16 := J.2.2.1.2.2.2.2.2.2.2.2.2.1
theorem yg10 {s : sz_T} {E : Nat → Prop} {g κ : Nat → Nat} {B n : Nat} {σ : kx_S} (J : yI_ s E g κ B n σ) : xt σ (g 10) = 21 ∧ 1 ≤ xn σ (g 10) := J.2.2.1.2.2.2.2.2.2.2.2.2.2
/-! numbers that are spoken of -/
theorem yI_siN {s : sz_T} {E : Nat → Prop} {g κ : Nat → Nat} {B n : Nat} {σ : kx_S} {f a : Nat} {v : Int32} (hf : f ∉ [18, 177, 171, 164, 165, 168, 160, 217]) (I : yI_ s E g κ B n σ) (N' : yN_ g κ (xsi σ f a v)) : yI_ s E g κ B n (xsi σ f a v) := by
  have N : ∀ k, k ∈ [18, 177, 171, 164, 165, 168, 160, 217] → xi (xsi σ f a v) k = xi σ k := fun k hk => by
    show (if k = f then _ else xi σ k) = xi σ k
    have e : k ≠ f := fun e => hf (by rw [← e]; exact hk)
    rw [if_neg e]
  have n18 := N 18 (by decide)
  refine ⟨⟨fun b hb => ?_, I.1.2.1, I.1.2.2.1, I.1.2.2.2⟩, I.2.1, I.2.2.1, N', ?_⟩
  · have := I.1.1 b hb
    unfold yl_ at this ⊢
    rw [n18]
    exact this
  · have := I.2.2.2.2
    unfold yS_ at this ⊢
    rw [n18, N 177 (by decide), N 217 (by decide), N 160 (by decide), N 165 (by decide), N 168 (by decide), N 164 (by decide), N 171 (by decide)]
    exact this
theorem yI_82 {s : sz_T} {E : Nat → Prop} {g κ : Nat → Nat} {B n : Nat} {σ : kx_S} {a : Nat} {v : Int32} (h : 0 ≤ v.toInt ∧ v.toInt ≤ 33) (I : yI_ s E g κ B n σ) : yI_ s E g κ B n (xsi σ 82 a v) := by
  refine yI_siN (by decide) I (fun b => ?_)
  obtain ⟨q1, q2, q3, q4, q5, q6, q7, q8⟩ := I.2.2.2.1 b
  refine ⟨q1, q2, fun e => ⟨?_, (q3 e).2⟩, q4, q5, q6, q7, q8⟩
  show 0 ≤ (va_up (xi σ 82) a v b).toInt ∧ (va_up (xi σ 82) a v b).toInt ≤ 33
  by_cases e2 : b = a
  · rw [e2, va_up_self]; exact h
  · rw [va_up_ne _ _ e2]; exact (q3 e).1
theorem yI_83 {s : sz_T} {E : Nat → Prop} {g κ : Nat → Nat} {B n : Nat} {σ : kx_S} {a : Nat} {v : Int32} (h : v = 0 ∨ v = 1) (I : yI_ s E g κ B n σ) : yI_ s E g κ B n (xsi σ 83 a v) := by
  refine yI_siN (by decide) I (fun b => ?_)
  obtain ⟨q1, q2, q3, q4, q5, q6, q7, q8⟩ := I.2.2.2.1 b
  refine ⟨q1, q2, fun e => ⟨(q3 e).1, ?_⟩, q4, q5, q6, q7, q8⟩
  show va_up (xi σ 83) a v b = 0 ∨ va_up (xi σ 83) a v b = 1
  by_cases e2 : b = a
  · rw [e2, va_up_self]; exact h
  · rw [va_up_ne _ _ e2]; exact (q3 e).2
theorem yI_114 {s : sz_T} {E : Nat → Prop} {g κ : Nat → Nat} {B n : Nat} {σ : kx_S} {a : Nat} {v : Int32} (h : 0 ≤ v.toInt ∧ v.toInt ≤ 500) (I : yI_ s E g κ B n σ) : yI_ s E g κ B n (xsi σ 114 a v) := by
  refine yI_siN (by decide) I (fun b => ?_)
  obtain ⟨q1, q2, q3, q4, q5, q6, q7, q8⟩ := I.2.2.2.1 b
  refine ⟨q1, q2, q3, fun e => ?_, q5, q6, q7, q8⟩
  show 0 ≤ (va_up (xi σ 114) a v b).toInt ∧ (va_up (xi σ 114) a v b).toInt ≤ 500
  by_cases e2 : b = a
  · rw [e2, va_up_self]; exact h
  · rw [va_up_ne _ _ e2]; exact q4 e
theorem yI_35 {s : sz_T} {E : Nat → Prop} {g κ : Nat → Nat} {B n : Nat} {σ : kx_S} {a : Nat} {v : Int32} (h : v.toInt ≤ 100) (I : yI_ s E g κ B n σ) : yI_ s E g κ B n (xsi σ 35 a v) := by
  refine yI_siN (by decide) I (fun b => ?_)
  obtain ⟨q1, q2, q3, q4, q5, q6, q7, q8⟩ := I.2.2.2.1 b
  refine ⟨fun e => ?_, q2, q3, q4, q5, q6, q7, q8⟩
  show (va_up (xi σ 35) a v b).toInt ≤ 100
  by_cases e2 : b = a
  · rw [e2, va_up_self]; exact h
  · rw [va_up_ne _ _ e2]; exact q1 e
/-- a step: what always holds still does, lists but cells' and heaps' are as long, no list is shorter -/
def yK_ (s : sz_T) (g κ : Nat → Nat) (B n : Nat) (σ τ : kx_S) : Prop := yJ_ s g κ B n τ ∧ fh_ g κ σ τ ∧ ∀ l, xt σ l = 1 → (xi σ 18 l).toInt ≤ (xi τ 18 l).toInt
theorem yK_refl {s : sz_T} {g κ : Nat → Nat} {B n : Nat} {σ : kx_S} (J : yJ_ s g κ B n σ) : yK_ s g κ B n σ σ := ⟨J, fh_refl, fun _ _ => Int.le_refl _⟩
theorem yK_trans {s : sz_T} {g κ : Nat → Nat} {B n : Nat} {a b c : kx_S} (h : yK_ s g κ B n a b) (k : yK_ s g κ B n b c) : yK_ s g κ B n a c := ⟨k.1, fh_trans h.2.1 k.2.1, fun l t => by have := h.2.2 l t; have := k.2.2 l (fg_tag h.2.1.1 t (by decide)); omega⟩
theorem yK_si {s : sz_T} {g κ : Nat → Nat} {B n : Nat} {σ τ : kx_S} {f a : Nat} {v : Int32} (hf : f ∉ [18, 35, 48, 82, 83, 114, 129, 171, 177, 164, 165, 168, 160, 217]) (h : yK_ s g κ B n σ τ) : yK_ s g κ B n σ (xsi τ f a v) := by
  refine yK_trans h ⟨yI_si hf h.1, fh_si (fun e => hf (by rw [e]; decide)), fun l _ => ?_⟩
  show (xi τ 18 l).toInt ≤ ((if 18 = f then _ else xi τ 18) l).toInt
  rw [if_neg (fun e => hf (by rw [← e]; decide))]
  exact Int.le_refl _
theorem yK_82 {s : sz_T} {g κ : Nat → Nat} {B n : Nat} {σ τ : kx_S} {a : Nat} {v : Int32} (hv : 0 ≤ v.toInt ∧ v.toInt ≤ 33) (h : yK_ s g κ B n σ τ) : yK_ s g κ B n σ (xsi τ 82 a v) := yK_trans h ⟨yI_82 hv h.1, fh_si (by decide), fun _ _ => Int.le_refl _⟩
theorem yK_83 {s : sz_T} {g κ : Nat → Nat} {B n : Nat} {σ τ : kx_S} {a : Nat} {v : Int32} (hv : v = 0 ∨ v = 1) (h : yK_ s g κ B n σ τ) : yK_ s g κ B n σ (xsi τ 83 a v) := yK_trans h ⟨yI_83 hv h.1, fh_si (by decide), fun _ _ => Int.le_refl _⟩
theorem yK_114 {s : sz_T} {g κ : Nat → Nat} {B n : Nat} {σ τ : kx_S} {a : Nat} {v : Int32} (hv : 0 ≤ v.toInt ∧ v.toInt ≤ 500) (h : yK_ s g κ B n σ τ) : yK_ s g κ B n σ (xsi τ 114 a v) := yK_trans h ⟨yI_114 hv h.1, fh_si (by decide), fun _ _ => Int.le_refl _⟩
theorem yK_sl {s : sz_T} {g κ : Nat → Nat} {B n : Nat} {σ τ : kx_S} {f a : Nat} {v : Int64} (h : yK_ s g κ B n σ τ) : yK_ s g κ B n σ (xsl τ f a v) := yK_trans h ⟨yI_sl h.1, fh_sl, fun _ _ => Int.le_refl _⟩
theorem yK_sal {s : sz_T} {g κ : Nat → Nat} {B n : Nat} {σ τ : kx_S} {i a : Nat} {v : Int64} (h : yK_ s g κ B n σ τ) : yK_ s g κ B n σ (xsal τ a i v) := yK_trans h ⟨yI_sal h.1, fh_sal, fun _ _ => Int.le_refl _⟩
theorem yK_sai {s : sz_T} {g κ : Nat → Nat} {B n : Nat} {σ τ : kx_S} {i a : Nat} {v : Int32} (h : yK_ s g κ B n σ τ) : yK_ s g κ B n σ (xsai τ a i v) := yK_trans h ⟨yI_sai h.1, fh_sai, fun _ _ => Int.le_refl _⟩
theorem yK_tag {s : sz_T} {g κ : Nat → Nat} {B n : Nat} {σ τ : kx_S} {a t : Nat} (h : yK_ s g κ B n σ τ) (e : xt σ a = t) (ht : t ≠ 0) : xt τ a = t := fg_tag h.2.1.1 e ht
/-- a step that leaves every list as long as it was -/
def yW_ (s : sz_T) (g κ : Nat → Nat) (B n : Nat) (σ τ : kx_S) : Prop := yJ_ s g κ B n τ ∧ fh_ g κ σ τ ∧ xi τ 18 = xi σ 18
theorem yW_refl {s : sz_T} {g κ : Nat → Nat} {B n : Nat} {σ : kx_S} (J : yJ_ s g κ B n σ) : yW_ s g κ B n σ σ := ⟨J, fh_refl, rfl⟩
theorem yW_trans {s : sz_T} {g κ : Nat → Nat} {B n : Nat} {a b c : kx_S} (h : yW_ s g κ B n a b) (k : yW_ s g κ B n b c) : yW_ s g κ B n a c := ⟨k.1, fh_trans h.2.1 k.2.1, k.2.2.trans h.2.2⟩
theorem yW_si {s : sz_T} {g κ : Nat → Nat} {B n : Nat} {σ τ : kx_S} {f a : Nat} {v : Int32} (hf : f ∉ [18, 35, 48, 82, 83, 114, 129, 171, 177, 164, 165, 168, 160, 217]) (h : yW_ s g κ B n σ τ) : yW_ s g κ B n σ (xsi τ f a v) := by
  refine yW_trans h ⟨yI_si hf h.1, fh_si (fun e => hf (by rw [e]; decide)), ?_⟩
  show (if 18 = f then _ else xi τ 18) = xi τ 18
  rw [if_neg (fun e => hf (by rw [← e]; decide))]
theorem yW_82 {s : sz_T} {g κ : Nat → Nat} {B n : Nat} {σ τ : kx_S} {a : Nat} {v : Int32} (hv : 0 ≤ v.toInt ∧ v.toInt ≤ 33) (h : yW_ s g κ B n σ τ) : yW_ s g κ B n σ (xsi τ 82 a v) := yW_trans h ⟨yI_82 hv h.1, fh_si (by decide), rfl⟩
theorem yW_83 {s : sz_T} {g κ : Nat → Nat} {B n : Nat} {σ τ : kx_S} {a : Nat} {v : Int32} (hv : v = 0 ∨ v = 1) (h : yW_ s g κ B n σ τ) : yW_ s g κ B n σ (xsi τ 83 a v) := yW_trans h ⟨yI_83 hv h.1, fh_si (by decide), rfl⟩
theorem yW_114 {s : sz_T} {g κ : Nat → Nat} {B n : Nat} {σ τ : kx_S} {a : Nat} {v : Int32} (hv : 0 ≤ v.toInt ∧ v.toInt ≤ 500) (h : yW_ s g κ B n σ τ) : yW_ s g κ B n σ (xsi τ 114 a v) := yW_trans h ⟨yI_114 hv h.1, fh_si (by decide), rfl⟩
theorem yW_sl {s : sz_T} {g κ : Nat → Nat} {B n : Nat} {σ τ : kx_S} {f a : Nat} {v : Int64} (h : yW_ s g κ B n σ τ) : yW_ s g κ B n σ (xsl τ f a v) := yW_trans h ⟨yI_sl h.1, fh_sl, rfl⟩
theorem yW_sal {s : sz_T} {g κ : Nat → Nat} {B n : Nat} {σ τ : kx_S} {i a : Nat} {v : Int64} (h : yW_ s g κ B n σ τ) : yW_ s g κ B n σ (xsal τ a i v) := yW_trans h ⟨yI_sal h.1, fh_sal, rfl⟩
theorem yW_sai {s : sz_T} {g κ : Nat → Nat} {B n : Nat} {σ τ : kx_S} {i a : Nat} {v : Int32} (h : yW_ s g κ B n σ τ) : yW_ s g κ B n σ (xsai τ a i v) := yW_trans h ⟨yI_sai h.1, fh_sai, rfl⟩
theorem yW_tag {s : sz_T} {g κ : Nat → Nat} {B n : Nat} {σ τ : kx_S} {a t : Nat} (h : yW_ s g κ B n σ τ) (e : xt σ a = t) (ht : t ≠ 0) : xt τ a = t := fg_tag h.2.1.1 e ht
theorem yK_of {s : sz_T} {g κ : Nat → Nat} {B n : Nat} {σ τ : kx_S} (h : yW_ s g κ B n σ τ) : yK_ s g κ B n σ τ := ⟨h.1, h.2.1, fun l _ => by rw [h.2.2]; exact Int.le_refl _⟩
/-! the judge -/
theorem rx_push {s : sz_T} {g κ : Nat → Nat} {B n : Nat} {σ0 σ : kx_S} {j : Nat} {v : Int32} {Q : kx_S → Prop} (K : yW_ s g κ B n σ0 σ) (hj : xt σ j = 5) (kk : ∀ τ, yW_ s g κ B n σ0 τ → xt τ j = 5 → Q τ) : wX3_push j v σ Q := by
  obtain ⟨⟨h, h1, h2, h3⟩, _⟩ := yp5 K.1 hj
  have hn := (K.1.2.2.2.1 j).2.2.1 hj
  have e33 : (nI (xn σ h)).toInt = 33 := by rw [h3]; decide
  refine ⟨hj, h, h1, h2, fun _ => kk σ K hj, fun c => ⟨h, h1, h2, ?_, fun τ1 e1 τ2 e2 => ?_⟩⟩
  · rw [ki_le, e33] at c
    rw [ki_in, h3]; omega
  · rw [ki_le, e33] at c
    have ii := ki_inc (a := xi σ 82 j) (by omega) (by omega)
    rw [e2, e1]
    exact kk _ (yW_82 (by show 0 ≤ (xi σ 82 j + 1).toInt ∧ (xi σ 82 j + 1).toInt ≤ 33; omega) (yW_sai K)) hj
theorem rx_pop {s : sz_T} {g κ : Nat → Nat} {B n : Nat} {σ0 σ : kx_S} {j : Nat} {Q : Int32 → kx_S → Prop} (K : yW_ s g κ B n σ0 σ) (hj : xt σ j = 5) (kk : ∀ v τ, yW_ s g κ B n σ0 τ → xt τ j = 5 → Q v τ) : wX3_pop j σ Q := by
  obtain ⟨⟨h, h1, h2, h3⟩, _⟩ := yp5 K.1 hj
  have hn := (K.1.2.2.2.1 j).2.2.1 hj
  refine ⟨hj, fun c τ1 e1 => ?_, fun _ => kk 0 σ K hj⟩
  have c' : (xi σ 82 j).toInt ≠ 0 := fun x => c (ki_eq.2 (x.trans ki_z0.symm))
  have dd := ki_dec2 (a := xi σ 82 j) (by omega)
  have K1 : yW_ s g κ B n σ0 τ1 := by rw [e1]; exact yW_82 (by rw [dd]; omega) K
  have t1 : xt τ1 j = 5 := by rw [e1]; exact hj
  refine ⟨h, by rw [e1]; exact h1, by rw [e1]; exact h2, ?_, kk _ τ1 K1 t1⟩
  rw [e1]
  show vp_in (va_up (xi σ 82) j (xi σ 82 j - 1) j) (xn σ h)
  rw [va_up_self, ki_in, h3]; omega
theorem rx_join {c a b : Int32} {σ : kx_S} {Q : Int32 → kx_S → Prop} (kk : ∀ v, Q v σ) : wX3_join c a b σ Q :=
  fun _ _ => ⟨fun _ => ⟨fun _ => kk _, fun _ => ⟨fun _ => kk _, fun _ => kk _⟩⟩, fun _ => ⟨fun _ => kk _, fun _ => ⟨fun _ => kk _, fun _ => kk _⟩⟩, fun _ => ⟨fun _ => kk _, fun _ => kk _⟩, fun _ => ⟨fun _ => kk _, fun _ => kk _⟩, fun _ => ⟨fun h => ⟨h, kk _⟩, fun _ => kk _⟩, fun _ => kk _, fun _ => kk _, fun _ => kk _, fun _ _ _ _ _ _ _ _ => kk _⟩
theorem rx_step {s : sz_T} {g κ : Nat → Nat} {B n : Nat} {σ0 σ : kx_S} {j : Nat} {c : Int32} {Q : kx_S → Prop} (K : yW_ s g κ B n σ0 σ) (hj : xt σ j = 5) (kk : ∀ τ, yW_ s g κ B n σ0 τ → xt τ j = 5 → Q τ) : wX3_step j c σ Q := by
  have hb := ((K.1.2.2.2.1 j).2.2.1 hj).2
  refine ⟨fun c0 => ⟨fun c7 => ⟨fun _ => ⟨fun _ => ⟨fun _ => ?_, fun _ => ?_⟩, fun _ => ?_⟩, fun _ => ?_⟩, fun c7 => ?_⟩, fun _ => ⟨hj, rx_push K hj kk⟩⟩
  · exact ⟨hj, rx_pop K hj (fun b τ1 K1 t1 => ⟨t1, rx_pop K1 t1 (fun a τ2 K2 t2 => rx_join (fun v => ⟨t2, rx_push K2 t2 kk⟩))⟩)⟩
  · refine ⟨hj, rx_pop K hj (fun b τ1 K1 t1 => ⟨t1, fun τ2 e2 => ?_⟩)⟩
    rw [e2]
    exact kk _ (yW_sl K1) t1
  · have F : ∀ (w : Int32) (τ1 : kx_S), (w = 0 ∨ w = 1) → yW_ s g κ B n σ0 τ1 → xt τ1 j = 5 → wX3_step_81 Q w (xi σ 83 j) j τ1 := by
      intro w τ1 hw K1 t1
      have h3 : narrow .boolean (.int (xi σ 83 j ||| w)) = .int (xi σ 83 j ||| w) ∧ fits .boolean (.int (xi σ 83 j ||| w)) = true ∧ (xi σ 83 j ||| w = 0 ∨ xi σ 83 j ||| w = 1) := by
        rcases hb with e | e <;> rcases hw with f | f <;> rw [e, f] <;> decide
      refine ⟨t1, ⟨h3.1, h3.2.1⟩, fun τ2 e2 => ?_⟩
      rw [e2]
      exact kk _ (yW_83 h3.2.2 K1) t1
    exact ⟨hj, rx_pop K hj (fun v τ1 K1 t1 => ⟨fun _ => F 0 τ1 (.inl rfl) K1 t1, fun _ => F 1 τ1 (.inr rfl) K1 t1⟩)⟩
  · exact ⟨hj, rx_pop K hj (fun v τ1 K1 t1 => ⟨fun _ => ⟨t1, rx_push K1 t1 kk⟩, fun _ => ⟨t1, rx_push K1 t1 kk⟩⟩)⟩
  · obtain ⟨_, h, h1, h2, h3⟩ := yp5 K.1 hj
    rw [ki_lt, ki_z0] at c0
    have z7 : (-7 : Int32).toInt = -7 := by decide
    rw [ki_lt, z7] at c7
    have d := ki_sub (a := -1) (b := c) (by rw [ki_zm]; omega) (by rw [ki_zm]; omega)
    rw [ki_zm] at d
    exact ⟨hj, h, h1, h2, by rw [ki_in, h3]; omega, rx_push K hj kk⟩
theorem rx_name {s : sz_T} {g κ : Nat → Nat} {B n : Nat} {σ0 σ : kx_S} {j : Nat} {c v : Int32} {Q : kx_S → Prop} (K : yW_ s g κ B n σ0 σ) (hj : xt σ j = 5) (hc : 0 ≤ (-1 - c).toInt ∧ (-1 - c).toInt < 7) (kk : ∀ τ, yW_ s g κ B n σ0 τ → yW_ s g κ B n σ τ → Q τ) : wX3_name j c v σ Q := by
  obtain ⟨_, h, h1, h2, h3⟩ := yp5 K.1 hj
  refine ⟨hj, h, h1, h2, by rw [h3, ki_in]; exact hc, fun τ e => ?_⟩
  rw [e]
  exact kk _ (yW_sai K) (yW_sai (yW_refl K.1))
theorem rx_weigh {s : sz_T} {g κ : Nat → Nat} {B n : Nat} {σ0 σ : kx_S} {j y : Nat} {q : Option Nat} {r t : Int32} {Q : kx_S → Prop} (K : yW_ s g κ B n σ0 σ) (hj : xt σ j = 5) (hy : xt σ y = 8) (hq : ∀ a, q = some a → xt σ a = 6) (kk : ∀ τ, yW_ s g κ B n σ0 τ → yW_ s g κ B n σ τ → Q τ) : wX3_weigh j q y r t σ Q := by
  refine ⟨hj, fun τ1 e1 τ2 e2 τ3 e3 => ?_⟩
  have K3 : yW_ s g κ B n σ τ3 := by rw [e3, e2, e1]; exact yW_82 (by decide) (yW_sl (yW_83 (.inl rfl) (yW_refl K.1)))
  clear e1 e2 e3
  refine ⟨fun a ea => ?_, fun _ => kk τ3 (yW_trans K K3) K3⟩
  have ha := hq a ea
  have T : ∀ τ, yW_ s g κ B n σ τ → xt τ y = 8 ∧ xt τ j = 5 := fun τ k => ⟨yW_tag k hy (by decide), yW_tag k hj (by decide)⟩
  refine ⟨(T _ K3).1, rx_name K3 (T _ K3).2 (by decide) (fun τ4 K4 _ => ⟨(T _ K4).1, (T _ K4).2, rx_name K4 (T _ K4).2 (by decide) (fun τ5 K5 _ => ⟨(T _ K5).1, (T _ K5).2, rx_name K5 (T _ K5).2 (by decide) (fun τ6 K6 _ => ⟨(T _ K6).2, rx_name K6 (T _ K6).2 (by decide) (fun τ7 K7 _ => ⟨(T _ K7).2, rx_name K7 (T _ K7).2 (by decide) (fun τ8 K8 _ => ⟨(T _ K8).2, rx_name K8 (T _ K8).2 (by decide) (fun τ9 K9 _ => ⟨(T _ K9).1, (T _ K9).2, rx_name K9 (T _ K9).2 (by decide) (fun τ10 K10 _ => ⟨501, ?_⟩)⟩)⟩)⟩)⟩)⟩)⟩)⟩
  have L : ∀ (m : Nat) (i : Int32) (τ : kx_S), 0 ≤ i.toInt → i.toInt ≤ 500 → 500 - i.toInt < (m : Int) → yW_ s g κ B n σ τ → wX3_weigh_91 Q m j (some a) i τ := by
    intro m
    induction m with
    | zero => intro i τ h1 h2 h3; omega
    | succ m ih =>
      intro i τ h1 h2 h3 k
      have ta := yW_tag k ha (by decide)
      obtain ⟨h, e1, e2, e3⟩ := yp6 k.1 ta
      refine ⟨a, rfl, ta, h, e1, e2, fun _ => kk τ (yW_trans K k) k, fun c => ⟨a, rfl, ta, h, e1, e2, ?_, (T _ k).2, ?_⟩⟩
      · rw [ki_le, nI_toInt (by omega)] at c
        rw [ki_in]; omega
      · rw [ki_le, nI_toInt (by omega)] at c
        have ii := ki_inc (a := i) (by omega) (by omega)
        refine rx_step k (T _ k).2 (fun τ2 k2 _ w ew => ?_)
        rw [ew]
        exact ih (i + 1) τ2 (by omega) (by omega) (by omega) k2
  exact L 501 0 τ10 (by decide) (by decide) (by decide) K10
theorem rx_lawInForce {s : sz_T} {g κ : Nat → Nat} {B n : Nat} {σ : kx_S} {Q : Option Nat → kx_S → Prop} (J : yJ_ s g κ B n σ) (kk : ∀ q, (∀ a, q = some a → xt σ a = 6) → Q q σ) : wX11_lawInForce (g 0) σ Q := by
  have G3 := yg3 J
  have sz := ry_size J.1 G3.2.1
  have L : ∀ (m : Nat) (q : Option Nat) (i : Int32), (∀ a, q = some a → xt σ a = 6) → 0 ≤ i.toInt → i.toInt ≤ 400 → 400 - i.toInt < (m : Int) → wX11_lawInForce_4 Q m (g 0) q i σ := by
    intro m
    induction m with
    | zero => intro q i hq h1 h2 h3; omega
    | succ m ih =>
      intro q i hq h1 h2 h3
      refine ⟨yg0 J, g 3, G3.1, G3.2.1, G3.2.1, fun _ => kk q hq, fun c => ⟨yg0 J, g 3, G3.1, G3.2.1, ?_⟩⟩
      rw [ki_le] at c
      have ii := ki_inc (a := i) (by omega) (by omega)
      refine ry_get J.1 G3.2.1 h1 (by omega) (fun y _ ty => ?_)
      rw [G3.2.2] at ty
      have N : ∀ q', (∀ a, q' = some a → xt σ a = 6) → wX11_lawInForce_74 (wX11_lawInForce_4 Q m) Q (g 0) q' i σ := fun q' hq' w ew => by
        rw [ew]
        exact ih q' (i + 1) hq' (by omega) (by omega) (by omega)
      have Y : ∀ a, some y = some a → xt σ a = 6 := fun a e => by rw [← Option.some.inj e]; exact ty
      have F : ∀ s0 : Int32, wX11_lawInForce_50 (wX11_lawInForce_4 Q m) Q (g 0) q i y s0 σ := fun s0 => ⟨fun _ => N q hq, fun _ => ⟨fun _ => N (some y) Y, fun a ea => ⟨ty, hq a ea, fun _ => N (some a) (fun b e => by rw [← Option.some.inj e]; exact hq a ea), fun _ => N (some y) Y⟩⟩⟩
      exact ⟨y, rfl, ty, yg0 J, fun _ => F 0, fun _ => F 1⟩
  exact ⟨401, L 401 none 0 (fun a e => by cases e) (by decide) (by decide) (by decide)⟩
end
section
/-! water, cells, moves -/
theorem rx_passWater {s : sz_T} {g κ : Nat → Nat} {B n : Nat} {σ : kx_S} {R : Nat} {Q : kx_S → Prop} (J : yJ_ s g κ B n σ) (hR : xt σ R = 10) (kk : ∀ τ, yK_ s g κ B n σ τ → Q τ) : wX8_passWater R σ Q := by
  have K := yK_refl J
  refine ⟨hR, fun _ τ3 e3 v5 _ v6 _ τ7 e7 τ9 e9 => ?_, fun _ τ e => ?_⟩
  · rw [e9, e7, e3]
    exact kk _ (yK_si (by decide) (yK_si (by decide) (yK_si (by decide) K)))
  · rw [e]
    exact kk _ (yK_si (by decide) K)
theorem rx_runWater {s : sz_T} {g κ : Nat → Nat} {B n : Nat} {σ : kx_S} {Q : kx_S → Prop} (J : yJ_ s g κ B n σ) (kk : ∀ τ, yK_ s g κ B n σ τ → Q τ) : wX11_runWater (g 0) σ Q := by
  have sz := ry_size J.1 (yg1 J).2.1
  have S1 : ∀ τ, yK_ s g κ B n σ τ → xi τ 18 (g 1) = xi σ 18 (g 1) := fun τ K => K.2.1.2 (g 1) (yg1 J).2.1 (.inl (by rw [(yg1 J).2.2]; decide))
  have L69 : ∀ (m : Nat) (r : Int32) (τ : kx_S), -1 ≤ r.toInt → r.toInt < (xi σ 18 (g 1)).toInt → r.toInt + 1 < (m : Int) → yK_ s g κ B n σ τ → wX11_runWater_69 Q m (g 0) r τ := by
    intro m
    induction m with
    | zero => intro r τ h1 h2 h3; omega
    | succ m ih =>
      intro r τ h1 h2 h3 K
      refine ⟨fun _ => kk τ K, fun c => ⟨yg0 K.1, g 1, (yg1 K.1).1, (yg1 K.1).2.1, ?_⟩⟩
      rw [ki_lt, ki_z0] at c
      have dd := ki_dec (a := r) (by omega)
      refine ry_get K.1.1 (yg1 K.1).2.1 (by omega) (by rw [S1 τ K]; omega) (fun R _ tR => ?_)
      rw [(yg1 K.1).2.2] at tR
      refine ⟨R, rfl, tR, rx_passWater K.1 tR (fun τ2 K2 => ?_)⟩
      have KK := yK_trans K K2
      have tR2 := yK_tag K2 tR (by decide)
      have N : ∀ τ3, yK_ s g κ B n σ τ3 → wX11_runWater_131 (wX11_runWater_69 Q m) Q (g 0) r τ3 := fun τ3 K3 w ew => by
        rw [ew]
        exact ih (r + -1) τ3 (by omega) (by omega) (by omega) K3
      refine ⟨tR2, fun b eb => ?_, fun _ => ⟨yg0 KK.1, fun τ3 e3 => ?_⟩⟩
      · have tb : xt τ2 b = 10 := by
          rcases (yp10 KK.1 tR2).1 with h | ⟨h, h1, h2⟩
          · rw [eb] at h; cases h
          · rw [eb] at h1; rw [Option.some.inj h1]; exact h2
        refine ⟨b, eb, tb, fun τ3 e3 => ?_⟩
        rw [e3]
        exact N _ (yK_si (by decide) KK)
      · rw [e3]
        exact N _ (yK_sl KK)
  have L2 : ∀ (m : Nat) (r : Int32) (τ : kx_S), 0 ≤ r.toInt → r.toInt ≤ 400 → 400 - r.toInt < (m : Int) → yK_ s g κ B n σ τ → wX11_runWater_2 (wX11_runWater_57 Q) Q m (g 0) r τ := by
    intro m
    induction m with
    | zero => intro r τ h1 h2 h3; omega
    | succ m ih =>
      intro r τ h1 h2 h3 K
      have e1 := S1 τ K
      refine ⟨yg0 K.1, g 1, (yg1 K.1).1, (yg1 K.1).2.1, (yg1 K.1).2.1, fun _ => ⟨yg0 K.1, g 1, (yg1 K.1).1, (yg1 K.1).2.1, (yg1 K.1).2.1, fun v ev => ⟨402, ?_⟩⟩, fun c => ⟨yg0 K.1, g 1, (yg1 K.1).1, (yg1 K.1).2.1, ?_⟩⟩
      · have dd := ki_dec2 (a := xi τ 18 (g 1)) (by rw [e1]; omega)
        rw [e1] at dd
        rw [ev, e1]
        exact L69 402 _ τ (by omega) (by omega) (by omega) K
      · rw [ki_le, e1] at c
        have ii := ki_inc (a := r) (by omega) (by omega)
        refine ry_get K.1.1 (yg1 K.1).2.1 (by omega) (by rw [e1]; omega) (fun R _ tR => ?_)
        rw [(yg1 K.1).2.2] at tR
        refine ⟨R, rfl, tR, fun τ2 e2 => ?_⟩
        have K2 : yK_ s g κ B n σ τ2 := by rw [e2]; exact yK_si (by decide) K
        refine ⟨yg0 K2.1, fun τ3 e3 w ew => ?_⟩
        rw [e3, ew]
        exact ih (r + 1) _ (by omega) (by omega) (by omega) (yK_sl K2)
  exact ⟨401, L2 401 0 σ (by decide) (by decide) (by decide) (yK_refl J)⟩
theorem rx_canTake {s : sz_T} {g κ : Nat → Nat} {B n : Nat} {σ : kx_S} {R : Nat} {c : Int32} {Q : Int32 → kx_S → Prop} (J : yJ_ s g κ B n σ) (hR : xt σ R = 10) (k0 : Q 0 σ)
    (k1 : ∀ l C y, 0 ≤ c.toInt → xr σ 163 R = some l → xt σ l = 1 → κ l = 3 → c.toInt < (xi σ 18 l).toInt → xe σ l c.toNatClampNeg = some C → xt σ C = 3 → xr σ 49 C = some y → xt σ y = 1 → κ y = 8 → y ≠ g 2 → (xi σ 18 y).toInt < 20 → Q 1 σ) : wX8_canTake R c σ Q := by
  obtain ⟨_, ⟨l, l1, l2, l3⟩, _⟩ := yp10 J hR
  refine ⟨fun _ => k0, fun c0 => ⟨hR, l, l1, l2, l2, fun c1 => ⟨hR, l, l1, l2, ?_⟩, fun _ => k0⟩⟩
  rw [ki_lt, ki_z0] at c0
  rw [ki_lt] at c1
  refine ry_get J.1 l2 (by omega) c1 (fun C eC tC => ?_)
  rw [l3] at tC
  obtain ⟨y, y1, y2, y3, y4⟩ := yp3 J tC
  have cr := (J.2.2.2.1 C).2.1 tC
  refine ⟨C, rfl, tC, fun _ => k0, fun _ => ⟨y, y1, y2, y2, tC, fun _ => k0, fun d => ?_⟩⟩
  rw [ki_le] at d
  exact k1 l C y (by omega) l1 l2 l3 c1 eC tC y1 y2 y3 y4 (by omega)
theorem rx_takes {s : sz_T} {g κ : Nat → Nat} {B n : Nat} {σ : kx_S} {R y : Nat} {c : Int32} {Q : Int32 → kx_S → Prop} (J : yJ_ s g κ B n σ) (hB : B ≤ 3000) (hn : n ≤ 200) (hR : xt σ R = 10) (hy : xt σ y = 8) (kk : ∀ r τ, (r = 0 ∨ r = 1) → yK_ s g κ B n σ τ → Q r τ) : wX8_takes R y c σ Q := by
  refine ⟨hR, rx_canTake J hR ⟨fun x => absurd rfl x, fun _ => kk 0 σ (.inl rfl) (yK_refl J)⟩ (fun l C z h0 l1 l2 l3 hc eC tC z1 z2 z3 z4 zs => ⟨fun _ => ⟨hR, l, l1, l2, ?_⟩, fun x => absurd x (by decide)⟩)⟩
  refine ry_get J.1 l2 h0 hc (fun C' eC' tC' => ?_)
  rw [eC] at eC'
  have e := Option.some.inj eC'
  subst e
  refine ⟨C, rfl, tC, z, z1, z2, ry_addlog J hB hn z2 z3 z4 hy (by omega) (fun τ J' F' M' => ?_)⟩
  have K : yK_ s g κ B n σ τ := ⟨J', F', M'⟩
  refine ⟨yK_tag K hR (by decide), yK_tag K hy (by decide), yK_tag K hy (by decide), fun τ2 e2 τ4 e4 τ6 e6 => ?_⟩
  rw [e6, e4, e2]
  exact kk 1 _ (.inr rfl) (yK_si (by decide) (yK_si (by decide) (yK_si (by decide) K)))
theorem rx_leaves {s : sz_T} {g κ : Nat → Nat} {B n : Nat} {σ : kx_S} {R y : Nat} {Q : Int32 → kx_S → Prop} (J : yJ_ s g κ B n σ) (hB : B ≤ 3000) (hn : n ≤ 200) (hR : xt σ R = 10) (hy : xt σ y = 8) (kk : ∀ r τ, yK_ s g κ B n σ τ → Q r τ) : wX11_leaves (g 0) y R σ Q := by
  have P := yp10 J hR
  have N122 : wX11_leaves_122 Q y R σ := by
    refine ⟨hR, fun a ea => ?_, fun _ => ⟨hy, hy, fun τ2 e2 τ4 e4 τ6 e6 => ?_⟩⟩
    · have tb : xt σ a = 10 := by
        rcases P.1 with h | ⟨h, h1, h2⟩
        · rw [ea] at h; cases h
        · rw [ea] at h1; rw [Option.some.inj h1]; exact h2
      refine ⟨a, ea, tb, rx_takes J hB hn tb hy (fun r τ hr K => ⟨?_, kk r τ K⟩)⟩
      rcases hr with e | e <;> rw [e] <;> rfl
    · rw [e6, e4, e2]
      exact kk 1 _ (yK_si (by decide) (yK_si (by decide) (yK_si (by decide) (yK_refl J))))
  have N104 : wX11_leaves_104 Q y R σ := ⟨hR, fun _ => N122, fun _ => ⟨fun _ => N122, fun _ => kk 0 σ (yK_refl J)⟩⟩
  refine ⟨hR, fun _ => N104, fun a ea => ?_⟩
  have ta : xt σ a = 2 := by
    rcases P.2.2 with h | ⟨h, h1, h2⟩
    · rw [ea] at h; cases h
    · rw [ea] at h1; rw [Option.some.inj h1]; exact h2
  obtain ⟨⟨h, h1, h2, h3, h4⟩, _⟩ := yp2 J ta
  have room := (J.2.2.2.1 a).1 ta
  have ne : ∀ {τ : kx_S} {b : Nat}, fg_ σ τ → xr τ 172 R = some b → b = a := fun {τ b} F e => by
    have := F.2.1 172 R (by decide) (by rw [hR]; decide)
    rw [this, ea] at e
    exact (Option.some.inj e).symm
  refine ⟨a, ea, hy, ta, ta, fun _ => ⟨fun _ => N104, fun x => absurd rfl x⟩, fun _ => ⟨fun x => absurd x (by decide), fun _ => ⟨hR, a, ea, ta, h, h1, h2, h2, hR, a, ea, ta, fun c => ⟨yg0 J, g 8, (yg8 J).1, ?_⟩, fun _ => kk 0 σ (yK_refl J)⟩⟩⟩
  rw [ki_lt] at c
  refine rx_lawInForce J (fun q hq => ⟨hR, yg0 J, (yg8 J).2, rx_weigh (yW_refl J) (yg8 J).2 hy hq (fun τ K _ => ?_)⟩)
  have ty := yW_tag K hy (by decide)
  have mk := (K.1.2.2.2.1 y).2.2.2.2.1 ty
  have v16 : vp_in (xi τ 129 y) (xn τ (g 9)) := by rw [(yg9 K.1).2.2, ki_in]; omega
  refine ⟨yg0 K.1, g 9, (yg9 K.1).1, ty, (yg9 K.1).2.1, v16, g 8, (yg8 K.1).1, (yg8 K.1).2, v16, fun τ2 e2 => ?_⟩
  have K2 : yW_ s g κ B n σ τ2 := by rw [e2]; exact yW_sal K
  clear e2
  refine ⟨yW_tag K2 hy (by decide), fun τ3 e3 τ4 e4 => ?_⟩
  have K4 : yW_ s g κ B n σ τ4 := by rw [e4, e3]; exact yW_si (by decide) (yW_si (by decide) K2)
  clear e3 e4
  have ea4 : xr τ4 172 R = some a := fg_ref K4.2.1.1 hR (by decide) (by decide) ea
  have eh4 : xr τ4 32 a = some h := fg_ref K4.2.1.1 ta (by decide) (by decide) h1
  refine ⟨yW_tag K4 hR (by decide), a, ea4, yW_tag K4 ta (by decide), h, eh4, yW_tag K4 h2 (by decide), ry_addlog K4.1 hB hn (yW_tag K4 h2 (by decide)) h3 h4 (yW_tag K4 hy (by decide)) (by rw [K4.2.2]; omega) (fun τ5 J5 F5 M5 => kk 1 τ5 (yK_trans (yK_of K4) ⟨J5, F5, M5⟩))⟩
end
section
theorem rx_movesOn {s : sz_T} {g κ : Nat → Nat} {B n : Nat} {σ : kx_S} {R y : Nat} {c sp : Int32} {Q : Int32 → kx_S → Prop} (J : yJ_ s g κ B n σ) (hB : B ≤ 3000) (hn : n ≤ 200) (hR : xt σ R = 10) (hy : xt σ y = 8) (hs : sp.toInt ≤ 6) (kk : ∀ r τ, yK_ s g κ B n σ τ → Q r τ) : wX11_movesOn (g 0) y R c sp σ Q := by
  have N64 : ∀ (t : Int32) (τ : kx_S), yK_ s g κ B n σ τ → wX11_movesOn_64 Q y R c t τ := fun t τ K => ⟨fun _ => kk 0 τ K, fun _ => ⟨yK_tag K hR (by decide), rx_takes K.1 hB hn (yK_tag K hR (by decide)) (yK_tag K hy (by decide)) (fun r τ2 _ K2 => ⟨fun _ => kk 0 τ2 (yK_trans K K2), fun _ => kk 1 τ2 (yK_trans K K2)⟩)⟩⟩
  obtain ⟨_, ⟨l, l1, l2, l3⟩, _⟩ := yp10 J hR
  have N32 : ∀ t u : Int32, wX11_movesOn_32 Q (g 0) y R c t u σ := fun t u => ⟨fun _ => N64 t σ (yK_refl J), fun _ => ⟨hR, l, l1, l2, l2, fun _ => N64 t σ (yK_refl J), fun _ => ⟨yg0 J, rx_leaves J hB hn hR hy (fun r τ K => ⟨fun _ => N64 t τ K, fun _ => kk 1 τ K⟩)⟩⟩⟩
  have L : ∀ (m : Nat) (t u : Int32), u.toInt ≤ 6 → u.toInt < (m : Int) → 0 < m → wX11_movesOn_7 (wX11_movesOn_32 Q) Q m (g 0) y R c t u σ := by
    intro m
    induction m with
    | zero => intro t u h1 h2 h3; omega
    | succ m ih =>
      intro t u h1 h2 h3
      have k0 : ∀ X : Prop, (((0 : Int32) = 0 → wX11_movesOn_32 Q (g 0) y R c t u σ) ∧ (¬ (0 : Int32) = 0 → X)) := fun X => ⟨fun _ => N32 t u, fun x => absurd rfl x⟩
      refine ⟨fun _ => N32 t u, fun q => ⟨hR, ?_⟩⟩
      rw [ki_le, ki_z0] at q
      have dd := ki_dec (a := u) (by omega)
      have nx : ∀ v, wX11_movesOn_7 (wX11_movesOn_32 Q) Q m (g 0) y R c v (u + -1) σ := fun v => ih v (u + -1) (by omega) (by omega) (by omega)
      refine rx_canTake J hR (k0 _) (fun _ _ _ _ _ _ _ _ _ _ _ _ _ _ _ => ⟨fun x => absurd x (by decide), fun _ v _ w ew => ?_⟩)
      rw [ew]
      exact nx v
  have fin := L 7 c sp hs (by omega) (by decide)
  exact ⟨7, fin⟩
end
section
theorem ki_decE {a : Int32} (h1 : -2147483648 < a.toInt) : ∃ b, b = a + -1 ∧ b.toInt = a.toInt - 1 := ⟨_, rfl, ki_dec h1⟩
theorem ki_incE {a : Int32} (h1 : -2147483649 ≤ a.toInt) (h2 : a.toInt < 2147483647) : ∃ b, b = a + 1 ∧ b.toInt = a.toInt + 1 := ⟨_, rfl, ki_inc h1 h2⟩
theorem ki_dec2E {a : Int32} (h1 : -2147483648 < a.toInt) : ∃ b, b = a - 1 ∧ b.toInt = a.toInt - 1 := ⟨_, rfl, ki_dec2 h1⟩
theorem rx_moveCell {s : sz_T} {g κ : Nat → Nat} {B n : Nat} {σ : kx_S} {R : Nat} {c sp : Int32} {Q : kx_S → Prop} (J : yJ_ s g κ B n σ) (hB : B ≤ 3000) (hn : n ≤ 200) (hR : xt σ R = 10) (hs : sp.toInt ≤ 6) (hc0 : 0 ≤ c.toInt) (hc : ∀ l, xr σ 163 R = some l → c.toInt < (xi σ 18 l).toInt) (kk : ∀ τ, yJ_ s g κ B n τ → fh_ g κ σ τ → Q τ) : wX11_moveLogsOfCell (g 0) R c sp σ Q := by
  obtain ⟨_, ⟨l, l1, l2, l3⟩, _⟩ := yp10 J hR
  refine ⟨hR, l, l1, l2, ?_⟩
  refine ry_get J.1 l2 hc0 (hc l l1) (fun C _ tC => ?_)
  rw [l3] at tC
  obtain ⟨y, y1, y2, y3, y4⟩ := yp3 J tC
  refine ⟨C, rfl, tC, fun _ => ⟨y, y1, y2, y2, ?_⟩, fun _ => kk σ J fh_refl⟩
  have sz := ry_size J.1 y2
  have L : ∀ (m : Nat) (st k : Int32) (τ : kx_S), 0 ≤ st.toInt → st.toInt + k.toInt ≤ 400 → k.toInt < (m : Int) → 0 < m → yJ_ s g κ B n τ → fh_ g κ σ τ → wX11_moveLogsOfCell_39 Q m (g 0) R c sp C st k τ := by
    intro m
    induction m with
    | zero => intro st k τ h1 h2 h3 h4; omega
    | succ m ih =>
      intro st k τ h1 h2 h3 h4 J1 F1
      have tC1 := fg_tag F1.1 tC (by decide)
      have e1 : xr τ 49 C = some y := fg_ref F1.1 tC (by decide) (by decide) y1
      have t1 : xt τ y = 1 := fg_tag F1.1 y2 (by decide)
      refine ⟨fun _ => kk τ J1 F1, fun q => ⟨tC1, y, e1, t1, t1, fun _ => kk τ J1 F1, fun q2 => ⟨tC1, y, e1, t1, ?_⟩⟩⟩
      rw [ki_le, ki_z0] at q
      rw [ki_le] at q2
      obtain ⟨k', ek, dd⟩ := ki_decE (a := k) (by omega)
      obtain ⟨st', est, ii⟩ := ki_incE (a := st) (by omega) (by omega)
      have b0 : 0 ≤ st'.toInt := by omega
      have b1 : st'.toInt + k'.toInt ≤ 400 := by omega
      have b2 : st.toInt + k'.toInt ≤ 400 := by omega
      have b3 : k'.toInt < (m : Int) := by omega
      have b4 : 0 < m := by omega
      have b5 : st.toInt < (xi τ 18 y).toInt := by omega
      refine ry_get J1.1 t1 h1 b5 (fun z _ tz => ?_)
      rw [y3] at tz
      refine ⟨z, rfl, tz, yg0 J1, ?_⟩
      refine rx_movesOn J1 hB hn (fg_tag F1.1 hR (by decide)) tz hs (fun r τ2 K2 => ?_)
      have F2 := fh_trans F1 K2.2.1
      refine ⟨fun _ v ev w ew => ?_, fun _ => ?_⟩
      · rw [ev, ew, ← ek, ← est]
        exact ih st' k' τ2 b0 b1 b3 b4 K2.1 F2
      · have mono := K2.2.2 y t1
        refine ⟨fg_tag F2.1 tC (by decide), y, fg_ref F2.1 tC (by decide) (by decide) y1, fg_tag F2.1 y2 (by decide), ?_⟩
        refine ry_removelog K2.1 (fg_tag F2.1 y2 (by decide)) y3 y4 h1 (Int.lt_of_lt_of_le b5 mono) (fun q3 τ3 J3 F3 _ _ _ w ew => ?_)
        rw [ew, ← ek]
        exact ih st k' τ3 h1 b2 b3 b4 J3 (fh_trans F2 F3)
  have c1 : (0 : Int32).toInt + (xi σ 18 y).toInt ≤ 400 := by rw [ki_z0]; have := sz.2; omega
  have c2 : (xi σ 18 y).toInt < ((402 : Nat) : Int) := by have := sz.2; omega
  have fin := L 402 0 (xi σ 18 y) σ (by decide) c1 c2 (by decide) J fh_refl
  exact ⟨402, fin⟩
end
section
theorem rx_moveLogs {s : sz_T} {g κ : Nat → Nat} {B n : Nat} {σ : kx_S} {Q : kx_S → Prop} (J : yJ_ s g κ B n σ) (hB : B ≤ 3000) (hn : n ≤ 200) (kk : ∀ τ, yJ_ s g κ B n τ → fh_ g κ σ τ → Q τ) : wX11_moveLogs (g 0) σ Q := by
  have z6 : (6 : Int32).toInt = 6 := by decide
  have L2 : ∀ (m : Nat) (r : Int32) (τ : kx_S), 0 ≤ r.toInt → r.toInt ≤ 400 → 400 - r.toInt < (m : Int) → yJ_ s g κ B n τ → fh_ g κ σ τ → wX11_moveLogs_2 Q m (g 0) r τ := by
    intro m
    induction m with
    | zero => intro r τ h1 h2 h3; omega
    | succ m ih =>
      intro r τ h1 h2 h3 J1 F1
      have sz := ry_size J1.1 (yg1 J1).2.1
      refine ⟨yg0 J1, g 1, (yg1 J1).1, (yg1 J1).2.1, (yg1 J1).2.1, fun _ => kk τ J1 F1, fun c => ⟨yg0 J1, g 1, (yg1 J1).1, (yg1 J1).2.1, ?_⟩⟩
      rw [ki_le] at c
      obtain ⟨r', er, ii⟩ := ki_incE (a := r) (by omega) (by omega)
      have a1 : 0 ≤ r'.toInt := by omega
      have a2 : r'.toInt ≤ 400 := by omega
      have a3 : 400 - r'.toInt < (m : Int) := by omega
      refine ry_get J1.1 (yg1 J1).2.1 h1 (by omega) (fun R _ tR => ?_)
      rw [(yg1 J1).2.2] at tR
      obtain ⟨_, ⟨l, l1, l2, l3⟩, _⟩ := yp10 J1 tR
      refine ⟨R, rfl, tR, fun sp esp => ⟨l, l1, l2, l2, fun v ev => ⟨402, ?_⟩⟩⟩
      have hs : sp.toInt ≤ 6 := by
        rw [esp]
        split
        · rw [z6]; omega
        · rename_i q; rw [ki_lt, z6] at q; omega
      have szl := ry_size J1.1 l2
      have L55 : ∀ (k : Nat) (c : Int32) (τ2 : kx_S), -1 ≤ c.toInt → c.toInt < (xi τ 18 l).toInt → c.toInt + 1 < (k : Int) → yJ_ s g κ B n τ2 → fh_ g κ τ τ2 → wX11_moveLogs_55 (wX11_moveLogs_78 (wX11_moveLogs_2 Q m) Q) Q k (g 0) r R sp c τ2 := by
        intro k
        induction k with
        | zero => intro c τ2 g1 g2 g3; omega
        | succ k ihk =>
          intro c τ2 g1 g2 g3 J2 F2
          have N : wX11_moveLogs_78 (wX11_moveLogs_2 Q m) Q (g 0) r τ2 := fun w ew => by
            rw [ew, ← er]
            exact ih r' τ2 a1 a2 a3 J2 (fh_trans F1 F2)
          refine ⟨fun _ => N, fun q => ⟨fun _ => N, fun _ => ⟨yg0 J2, ?_⟩⟩⟩
          rw [ki_lt, ki_z0] at q
          obtain ⟨c', ec, dd⟩ := ki_decE (a := c) (by omega)
          have b1 : -1 ≤ c'.toInt := by omega
          have b2 : c'.toInt < (xi τ 18 l).toInt := by omega
          have b3 : c'.toInt + 1 < (k : Int) := by omega
          have b4 : 0 ≤ c.toInt := by omega
          have e2 : xr τ2 163 R = some l := fg_ref F2.1 tR (by decide) (by decide) l1
          have s2 : xi τ2 18 l = xi τ 18 l := F2.2 l l2 (.inl (by rw [l3]; decide))
          refine rx_moveCell J2 hB hn (fg_tag F2.1 tR (by decide)) hs b4 (fun l' el => ?_) (fun τ3 J3 F3 w ew => ?_)
          · rw [e2] at el
            rw [← Option.some.inj el, s2]
            exact g2
          · rw [ew, ← ec]
            exact ihk c' τ3 b1 b2 b3 J3 (fh_trans F2 F3)
      obtain ⟨u, eu, dd⟩ := ki_dec2E (a := xi τ 18 l) (by omega)
      rw [ev, ← eu]
      exact L55 402 u τ (by omega) (by omega) (by omega) J1 fh_refl
  exact ⟨401, L2 401 0 σ (by decide) (by decide) (by decide) J fh_refl⟩
end
section
theorem rx_jamFullCells {s : sz_T} {g κ : Nat → Nat} {B n : Nat} {σ : kx_S} {R : Nat} {Q : kx_S → Prop} (J : yJ_ s g κ B n σ) (hR : xt σ R = 10) (kk : ∀ τ, yJ_ s g κ B n τ → fh_ g κ σ τ → Q τ) : wX8_jamFullCells R σ Q := by
  have L : ∀ (m : Nat) (c : Int32) (τ : kx_S), 0 ≤ c.toInt → c.toInt ≤ 400 → 400 - c.toInt < (m : Int) → yJ_ s g κ B n τ → fh_ g κ σ τ → wX8_jamFullCells_2 Q m R c τ := by
    intro m
    induction m with
    | zero => intro c τ h1 h2 h3; omega
    | succ m ih =>
      intro c τ h1 h2 h3 J1 F1
      have tR := fg_tag F1.1 hR (by decide)
      obtain ⟨_, ⟨l, l1, l2, l3⟩, _⟩ := yp10 J1 tR
      have sz := ry_size J1.1 l2
      refine ⟨tR, l, l1, l2, l2, fun _ => kk τ J1 F1, fun q => ⟨tR, l, l1, l2, ?_⟩⟩
      rw [ki_le] at q
      obtain ⟨c', ec, ii⟩ := ki_incE (a := c) (by omega) (by omega)
      have a1 : 0 ≤ c'.toInt := by omega
      have a2 : c'.toInt ≤ 400 := by omega
      have a3 : 400 - c'.toInt < (m : Int) := by omega
      refine ry_get J1.1 l2 h1 (by omega) (fun C _ tC => ?_)
      rw [l3] at tC
      have N : ∀ τ2, yJ_ s g κ B n τ2 → fh_ g κ σ τ2 → wX8_jamFullCells_50 (wX8_jamFullCells_2 Q m) Q R c τ2 := fun τ2 J2 F2 w ew => by
        rw [ew, ← ec]
        exact ih c' τ2 a1 a2 a3 J2 F2
      obtain ⟨y, y1, y2, y3, y4⟩ := yp3 J1 tC
      refine ⟨C, rfl, tC, y, y1, y2, y2, tC, fun _ => N τ J1 F1, fun _ τ2 e2 => ?_⟩
      rw [e2]
      exact N _ (yI_si (by decide) J1) (fh_trans F1 (fh_si (by decide)))
  have fin := L 401 0 σ (by decide) (by decide) (by decide) J fh_refl
  exact ⟨401, fin⟩
theorem rx_reachKnown {s : sz_T} {g κ : Nat → Nat} {B n : Nat} {σ : kx_S} {R : Nat} {Q : kx_S → Prop} (J : yJ_ s g κ B n σ) (hR : xt σ R = 10) (kk : ∀ τ, yJ_ s g κ B n τ → fh_ g κ σ τ → Q τ) : wX8_makeJamsKnown R σ Q := by
  have L : ∀ (m : Nat) (c : Int32) (τ : kx_S), 0 ≤ c.toInt → c.toInt ≤ 400 → 400 - c.toInt < (m : Int) → yJ_ s g κ B n τ → fh_ g κ σ τ → wX8_makeJamsKnown_2 Q m R c τ := by
    intro m
    induction m with
    | zero => intro c τ h1 h2 h3; omega
    | succ m ih =>
      intro c τ h1 h2 h3 J1 F1
      have tR := fg_tag F1.1 hR (by decide)
      obtain ⟨_, ⟨l, l1, l2, l3⟩, _⟩ := yp10 J1 tR
      have sz := ry_size J1.1 l2
      refine ⟨tR, l, l1, l2, l2, fun _ => kk τ J1 F1, fun q => ⟨tR, l, l1, l2, ?_⟩⟩
      rw [ki_le] at q
      obtain ⟨c', ec, ii⟩ := ki_incE (a := c) (by omega) (by omega)
      have a1 : 0 ≤ c'.toInt := by omega
      have a2 : c'.toInt ≤ 400 := by omega
      have a3 : 400 - c'.toInt < (m : Int) := by omega
      refine ry_get J1.1 l2 h1 (by omega) (fun C _ tC => ?_)
      rw [l3] at tC
      have N : ∀ τ2, yJ_ s g κ B n τ2 → fh_ g κ σ τ2 → wX8_makeJamsKnown_41 (wX8_makeJamsKnown_2 Q m) Q R c τ2 := fun τ2 J2 F2 w ew => by
        rw [ew, ← ec]
        exact ih c' τ2 a1 a2 a3 J2 F2
      refine ⟨C, rfl, tC, fun _ => N τ J1 F1, fun _ τ2 e2 => ?_⟩
      rw [e2]
      exact N _ (yI_si (by decide) J1) (fh_trans F1 (fh_si (by decide)))
  have fin := L 401 0 σ (by decide) (by decide) (by decide) J fh_refl
  exact ⟨401, fin⟩
theorem rx_freesLowestJam {s : sz_T} {g κ : Nat → Nat} {B n : Nat} {σ : kx_S} {R : Nat} {Q : Int32 → kx_S → Prop} (J : yJ_ s g κ B n σ) (hR : xt σ R = 10) (kk : ∀ r τ, yJ_ s g κ B n τ → fh_ g κ σ τ → Q r τ) : wX8_freesLowestJam R σ Q := by
  obtain ⟨_, ⟨l, l1, l2, l3⟩, _⟩ := yp10 J hR
  have sz := ry_size J.1 l2
  have L : ∀ (m : Nat) (c : Int32), -1 ≤ c.toInt → c.toInt < (xi σ 18 l).toInt → c.toInt + 1 < (m : Int) → wX8_freesLowestJam_12 (wX8_freesLowestJam_37 Q) Q m R c σ := by
    intro m
    induction m with
    | zero => intro c h1 h2 h3; omega
    | succ m ih =>
      intro c h1 h2 h3
      refine ⟨fun _ => kk 0 σ J fh_refl, fun q => ⟨hR, l, l1, l2, ?_⟩⟩
      rw [ki_lt, ki_z0] at q
      obtain ⟨c', ec, dd⟩ := ki_decE (a := c) (by omega)
      have a1 : -1 ≤ c'.toInt := by omega
      have a2 : c'.toInt < (xi σ 18 l).toInt := by omega
      have a3 : c'.toInt + 1 < (m : Int) := by omega
      refine ry_get J.1 l2 (by omega) h2 (fun C _ tC => ?_)
      rw [l3] at tC
      refine ⟨C, rfl, tC, fun _ w ew => ?_, fun _ => ⟨tC, fun τ2 e2 τ4 e4 => ?_⟩⟩
      · rw [ew, ← ec]
        exact ih c' a1 a2 a3
      · rw [e4, e2]
        exact kk 1 _ (yI_si (by decide) (yI_si (by decide) J)) (fh_trans (fh_si (by decide)) (fh_si (by decide)))
  obtain ⟨u, eu, dd⟩ := ki_dec2E (a := xi σ 18 l) (by omega)
  have b1 : -1 ≤ u.toInt := by omega
  have b2 : u.toInt < (xi σ 18 l).toInt := by omega
  have b3 : u.toInt + 1 < ((402 : Nat) : Int) := by omega
  have fin := L 402 u b1 b2 b3
  refine ⟨hR, l, l1, l2, l2, fun v ev => ⟨402, ?_⟩⟩
  rw [ev, ← eu]
  exact fin
theorem rx_jamCells {s : sz_T} {g κ : Nat → Nat} {B n : Nat} {σ : kx_S} {Q : kx_S → Prop} (J : yJ_ s g κ B n σ) (kk : ∀ τ, yJ_ s g κ B n τ → fh_ g κ σ τ → Q τ) : wX11_jamCells (g 0) σ Q := by
  have L : ∀ (m : Nat) (r : Int32) (τ : kx_S), 0 ≤ r.toInt → r.toInt ≤ 400 → 400 - r.toInt < (m : Int) → yJ_ s g κ B n τ → fh_ g κ σ τ → wX11_jamCells_2 Q m (g 0) r τ := by
    intro m
    induction m with
    | zero => intro r τ h1 h2 h3; omega
    | succ m ih =>
      intro r τ h1 h2 h3 J1 F1
      have G1 := yg1 J1
      have sz := ry_size J1.1 G1.2.1
      refine ⟨yg0 J1, g 1, G1.1, G1.2.1, G1.2.1, fun _ => kk τ J1 F1, fun q => ⟨yg0 J1, g 1, G1.1, G1.2.1, ?_⟩⟩
      rw [ki_le] at q
      obtain ⟨r', er, ii⟩ := ki_incE (a := r) (by omega) (by omega)
      have a1 : 0 ≤ r'.toInt := by omega
      have a2 : r'.toInt ≤ 400 := by omega
      have a3 : 400 - r'.toInt < (m : Int) := by omega
      have hr : r.toInt < (xi τ 18 (g 1)).toInt := by omega
      refine ry_get J1.1 G1.2.1 h1 hr (fun R eR tR => ?_)
      rw [G1.2.2] at tR
      have N : ∀ τ2, yJ_ s g κ B n τ2 → fh_ g κ σ τ2 → wX11_jamCells_44 (wX11_jamCells_2 Q m) Q (g 0) r τ2 := fun τ2 J2 F2 w ew => by
        rw [ew, ← er]
        exact ih r' τ2 a1 a2 a3 J2 F2
      refine ⟨R, rfl, tR, fun _ => N τ J1 F1, fun _ => ?_⟩
      exact rx_jamFullCells J1 tR (fun τ2 J2 F2 => N τ2 J2 (fh_trans F1 F2))
  have fin := L 401 0 σ (by decide) (by decide) (by decide) J fh_refl
  exact ⟨401, fin⟩
theorem rx_freeJams {s : sz_T} {g κ : Nat → Nat} {B n : Nat} {σ : kx_S} {Q : kx_S → Prop} (J : yJ_ s g κ B n σ) (kk : ∀ τ, yJ_ s g κ B n τ → fh_ g κ σ τ → Q τ) : wX11_freeJams (g 0) σ Q := by
  have L : ∀ (m : Nat) (r : Int32) (τ : kx_S), 0 ≤ r.toInt → r.toInt ≤ 400 → 400 - r.toInt < (m : Int) → yJ_ s g κ B n τ → fh_ g κ σ τ → wX11_freeJams_2 Q m (g 0) r τ := by
    intro m
    induction m with
    | zero => intro r τ h1 h2 h3; omega
    | succ m ih =>
      intro r τ h1 h2 h3 J1 F1
      have G1 := yg4 J1
      have sz := ry_size J1.1 G1.2.1
      refine ⟨yg0 J1, g 4, G1.1, G1.2.1, G1.2.1, fun _ => kk τ J1 F1, fun q => ⟨yg0 J1, g 4, G1.1, G1.2.1, ?_⟩⟩
      rw [ki_le] at q
      obtain ⟨r', er, ii⟩ := ki_incE (a := r) (by omega) (by omega)
      have a1 : 0 ≤ r'.toInt := by omega
      have a2 : r'.toInt ≤ 400 := by omega
      have a3 : 400 - r'.toInt < (m : Int) := by omega
      have hr : r.toInt < (xi τ 18 (g 4)).toInt := by omega
      refine ry_get J1.1 G1.2.1 h1 hr (fun R eR tR => ?_)
      rw [G1.2.2] at tR
      have N : ∀ τ2, yJ_ s g κ B n τ2 → fh_ g κ σ τ2 → wX11_freeJams_58 (wX11_freeJams_2 Q m) Q (g 0) r τ2 := fun τ2 J2 F2 w ew => by
        rw [ew, ← er]
        exact ih r' τ2 a1 a2 a3 J2 F2
      obtain ⟨h, h4, h5⟩ := yp4 J1 tR
      refine ⟨R, rfl, tR, yg0 J1, fun _ => N τ J1 F1, fun _ => ⟨h, h4, h5, ?_⟩⟩
      refine rx_freesLowestJam J1 h5 (fun v τ2 J2 F2 => ⟨fun _ => N τ2 J2 (fh_trans F1 F2), fun _ => ⟨yg0 J2, fg_tag F2.1 tR (by decide), fg_tag F2.1 tR (by decide), fun τ3 e3 => ?_⟩⟩)
      rw [e3]
      exact N _ (yI_si (by decide) J2) (fh_trans (fh_trans F1 F2) (fh_si (by decide)))
  have fin := L 401 0 σ (by decide) (by decide) (by decide) J fh_refl
  exact ⟨401, fin⟩
theorem rx_makeJamsKnown {s : sz_T} {g κ : Nat → Nat} {B n : Nat} {σ : kx_S} {Q : kx_S → Prop} (J : yJ_ s g κ B n σ) (kk : ∀ τ, yJ_ s g κ B n τ → fh_ g κ σ τ → Q τ) : wX11_makeJamsKnown (g 0) σ Q := by
  have L58 : ∀ (m : Nat) (r : Int32) (τ : kx_S), 0 ≤ r.toInt → r.toInt ≤ 400 → 400 - r.toInt < (m : Int) → yJ_ s g κ B n τ → fh_ g κ σ τ → wX11_makeJamsKnown_58 Q m (g 0) r τ := by
    intro m
    induction m with
    | zero => intro r τ h1 h2 h3; omega
    | succ m ih =>
      intro r τ h1 h2 h3 J1 F1
      have G1 := yg4 J1
      have sz := ry_size J1.1 G1.2.1
      refine ⟨yg0 J1, g 4, G1.1, G1.2.1, G1.2.1, fun _ => kk τ J1 F1, fun q => ⟨yg0 J1, g 4, G1.1, G1.2.1, ?_⟩⟩
      rw [ki_le] at q
      obtain ⟨r', er, ii⟩ := ki_incE (a := r) (by omega) (by omega)
      have a1 : 0 ≤ r'.toInt := by omega
      have a2 : r'.toInt ≤ 400 := by omega
      have a3 : 400 - r'.toInt < (m : Int) := by omega
      have hr : r.toInt < (xi τ 18 (g 4)).toInt := by omega
      refine ry_get J1.1 G1.2.1 h1 hr (fun R eR tR => ?_)
      rw [G1.2.2] at tR
      obtain ⟨h, h4, h5⟩ := yp4 J1 tR
      refine ⟨R, rfl, tR, h, h4, h5, ?_⟩
      refine rx_reachKnown J1 h5 (fun τ2 J2 F2 w ew => ?_)
      rw [ew, ← er]
      exact ih r' τ2 a1 a2 a3 J2 (fh_trans F1 F2)
  have D : ∀ τ, yJ_ s g κ B n τ → fh_ g κ σ τ → wX11_makeJamsKnown_56 Q (g 0) τ := fun τ J1 F1 => ⟨401, L58 401 0 τ (by decide) (by decide) (by decide) J1 F1⟩
  have L : ∀ (m : Nat) (r : Int32) (τ : kx_S), 0 ≤ r.toInt → r.toInt ≤ 400 → 400 - r.toInt < (m : Int) → yJ_ s g κ B n τ → fh_ g κ σ τ → wX11_makeJamsKnown_2 (wX11_makeJamsKnown_56 Q) Q m (g 0) r τ := by
    intro m
    induction m with
    | zero => intro r τ h1 h2 h3; omega
    | succ m ih =>
      intro r τ h1 h2 h3 J1 F1
      have G1 := yg1 J1
      have sz := ry_size J1.1 G1.2.1
      refine ⟨yg0 J1, g 1, G1.1, G1.2.1, G1.2.1, fun _ => D τ J1 F1, fun q => ⟨yg0 J1, g 1, G1.1, G1.2.1, ?_⟩⟩
      rw [ki_le] at q
      obtain ⟨r', er, ii⟩ := ki_incE (a := r) (by omega) (by omega)
      have a1 : 0 ≤ r'.toInt := by omega
      have a2 : r'.toInt ≤ 400 := by omega
      have a3 : 400 - r'.toInt < (m : Int) := by omega
      have hr : r.toInt < (xi τ 18 (g 1)).toInt := by omega
      refine ry_get J1.1 G1.2.1 h1 hr (fun R eR tR => ?_)
      rw [G1.2.2] at tR
      have N : ∀ τ2, yJ_ s g κ B n τ2 → fh_ g κ σ τ2 → wX11_makeJamsKnown_50 (wX11_makeJamsKnown_2 (wX11_makeJamsKnown_56 Q) Q m) Q (g 0) r τ2 := fun τ2 J2 F2 w ew => by
        rw [ew, ← er]
        exact ih r' τ2 a1 a2 a3 J2 F2
      refine ⟨R, rfl, tR, fun _ => N τ J1 F1, fun _ => ⟨yg0 J1, g 1, G1.1, G1.2.1, ?_⟩⟩
      refine ry_get J1.1 G1.2.1 h1 hr (fun R2 _ tR2 => ?_)
      rw [G1.2.2] at tR2
      refine ⟨R2, rfl, tR2, ?_⟩
      exact rx_reachKnown J1 tR2 (fun τ2 J2 F2 => N τ2 J2 (fh_trans F1 F2))
  have fin := L 401 0 σ (by decide) (by decide) (by decide) J fh_refl
  exact ⟨401, fin⟩
theorem rx_cellAge {s : sz_T} {g κ : Nat → Nat} {B n : Nat} {σ : kx_S} {C : Nat} {Q : kx_S → Prop} (J : yJ_ s g κ B n σ) (hC : xt σ C = 3) (kk : ∀ τ, yJ_ s g κ B n τ → fh_ g κ σ τ → Q τ) : wX1_ageLogs C σ Q := by
  obtain ⟨y, y1, y2, y3, y4⟩ := yp3 J hC
  have sz := ry_size J.1 y2
  have L : ∀ (m : Nat) (c : Int32) (τ : kx_S), -1 ≤ c.toInt → c.toInt < (xi τ 18 y).toInt → c.toInt + 1 < (m : Int) → yJ_ s g κ B n τ → fh_ g κ σ τ → wX1_ageLogs_12 Q m C c τ := by
    intro m
    induction m with
    | zero => intro c τ h1 h2 h3; omega
    | succ m ih =>
      intro c τ h1 h2 h3 J1 F1
      have tC := fg_tag F1.1 hC (by decide)
      have e1 : xr τ 49 C = some y := fg_ref F1.1 hC (by decide) (by decide) y1
      have t1 : xt τ y = 1 := fg_tag F1.1 y2 (by decide)
      refine ⟨fun _ => kk τ J1 F1, fun q => ⟨tC, y, e1, t1, ?_⟩⟩
      rw [ki_lt, ki_z0] at q
      obtain ⟨c', ec, dd⟩ := ki_decE (a := c) (by omega)
      have szy := ry_size J1.1 t1
      obtain ⟨z, ez⟩ : ∃ z, z = xi τ 18 y := ⟨_, rfl⟩
      rw [← ez] at h2 szy
      have a1 : -1 ≤ c'.toInt := by omega
      have a2 : c'.toInt < z.toInt := by omega
      have a3 : c'.toInt + 1 < (m : Int) := by omega
      obtain ⟨z', ez', dz⟩ := ki_dec2E (a := z) (by omega)
      have a4 : c'.toInt < z'.toInt := by omega
      have a5 : 0 ≤ c.toInt := by omega
      refine ry_get J1.1 t1 a5 (by rw [← ez]; exact h2) (fun a _ ta => ?_)
      rw [y3] at ta
      refine ⟨a, rfl, ta, fun τ2 e2 => ?_⟩
      have J2 : yJ_ s g κ B n τ2 := by rw [e2]; exact yI_si (by decide) J1
      have F2 : fh_ g κ σ τ2 := by rw [e2]; exact fh_trans F1 (fh_si (by decide))
      have z2 : xi τ2 18 y = z := by rw [e2]; exact ez.symm
      clear e2
      refine ⟨fun _ w ew => ?_, fun _ τ3 e3 => ?_⟩
      · rw [ew, ← ec]
        exact ih c' τ2 a1 (by rw [z2]; exact a2) a3 J2 F2
      · have J3 : yJ_ s g κ B n τ3 := by rw [e3]; exact yI_si (by decide) J2
        have F3 : fh_ g κ σ τ3 := by rw [e3]; exact fh_trans F2 (fh_si (by decide))
        have z3 : xi τ3 18 y = z := by rw [e3]; exact z2
        clear e3
        refine ⟨fg_tag F3.1 hC (by decide), y, fg_ref F3.1 hC (by decide) (by decide) y1, fg_tag F3.1 y2 (by decide), ?_⟩
        refine ry_removelog J3 (fg_tag F3.1 y2 (by decide)) y3 y4 a5 (by rw [z3]; exact h2) (fun q3 τ4 J4 F4 s4 _ _ w ew => ?_)
        rw [ew, ← ec]
        exact ih c' τ4 a1 (by rw [s4, z3, ← ez']; exact a4) a3 J4 (fh_trans F3 F4)
  obtain ⟨u, eu, dd⟩ := ki_dec2E (a := xi σ 18 y) (by omega)
  have b1 : -1 ≤ u.toInt := by omega
  have b2 : u.toInt < (xi σ 18 y).toInt := by omega
  have b3 : u.toInt + 1 < ((402 : Nat) : Int) := by omega
  have fin := L 402 u σ b1 b2 b3 J fh_refl
  refine ⟨hC, y, y1, y2, y2, fun v ev => ⟨402, ?_⟩⟩
  rw [ev, ← eu]
  exact fin
theorem rx_ageLogs {s : sz_T} {g κ : Nat → Nat} {B n : Nat} {σ : kx_S} {Q : kx_S → Prop} (J : yJ_ s g κ B n σ) (kk : ∀ τ, yJ_ s g κ B n τ → fh_ g κ σ τ → Q τ) : wX11_ageLogs (g 0) σ Q := by
  have L : ∀ (m : Nat) (r : Int32) (τ : kx_S), 0 ≤ r.toInt → r.toInt ≤ 400 → 400 - r.toInt < (m : Int) → yJ_ s g κ B n τ → fh_ g κ σ τ → wX11_ageLogs_2 Q m (g 0) r τ := by
    intro m
    induction m with
    | zero => intro r τ h1 h2 h3; omega
    | succ m ih =>
      intro r τ h1 h2 h3 J1 F1
      have G1 := yg1 J1
      have sz := ry_size J1.1 G1.2.1
      refine ⟨yg0 J1, g 1, G1.1, G1.2.1, G1.2.1, fun _ => kk τ J1 F1, fun q => ⟨yg0 J1, g 1, G1.1, G1.2.1, ?_⟩⟩
      rw [ki_le] at q
      obtain ⟨r', er, ii⟩ := ki_incE (a := r) (by omega) (by omega)
      have a1 : 0 ≤ r'.toInt := by omega
      have a2 : r'.toInt ≤ 400 := by omega
      have a3 : 400 - r'.toInt < (m : Int) := by omega
      have hr : r.toInt < (xi τ 18 (g 1)).toInt := by omega
      refine ry_get J1.1 G1.2.1 h1 hr (fun R eR tR => ?_)
      rw [G1.2.2] at tR
      have N : ∀ τ2, yJ_ s g κ B n τ2 → fh_ g κ σ τ2 → wX11_ageLogs_66 (wX11_ageLogs_2 Q m) Q (g 0) r τ2 := fun τ2 J2 F2 w ew => by
        rw [ew, ← er]
        exact ih r' τ2 a1 a2 a3 J2 F2
      refine ⟨R, rfl, tR, ?_⟩
      have L31 : ∀ (k : Nat) (c : Int32) (τ2 : kx_S), 0 ≤ c.toInt → c.toInt ≤ 400 → 400 - c.toInt < (k : Int) → yJ_ s g κ B n τ2 → fh_ g κ τ τ2 → wX11_ageLogs_31 (wX11_ageLogs_66 (wX11_ageLogs_2 Q m) Q) Q k (g 0) r R c τ2 := by
        intro k
        induction k with
        | zero => intro c τ2 g1 g2 g3; omega
        | succ k ihk =>
          intro c τ2 g1 g2 g3 J2 F2
          have tR2 := fg_tag F2.1 tR (by decide)
          obtain ⟨_, ⟨l, l1, l2, l3⟩, _⟩ := yp10 J2 tR2
          have szl := ry_size J2.1 l2
          refine ⟨tR2, l, l1, l2, l2, fun _ => N τ2 J2 (fh_trans F1 F2), fun p => ⟨tR2, l, l1, l2, ?_⟩⟩
          rw [ki_le] at p
          obtain ⟨c', ec, jj⟩ := ki_incE (a := c) (by omega) (by omega)
          have b1 : 0 ≤ c'.toInt := by omega
          have b2 : c'.toInt ≤ 400 := by omega
          have b3 : 400 - c'.toInt < (k : Int) := by omega
          refine ry_get J2.1 l2 g1 (by omega) (fun C _ tC => ?_)
          rw [l3] at tC
          refine ⟨C, rfl, tC, ?_⟩
          refine rx_cellAge J2 tC (fun τ3 J3 F3 w ew => ?_)
          rw [ew, ← ec]
          exact ihk c' τ3 b1 b2 b3 J3 (fh_trans F2 F3)
      have f31 := L31 401 0 τ (by decide) (by decide) (by decide) J1 fh_refl
      exact ⟨401, f31⟩
  have fin := L 401 0 σ (by decide) (by decide) (by decide) J fh_refl
  exact ⟨401, fin⟩
theorem rx_takeFirst {s : sz_T} {g κ : Nat → Nat} {B n : Nat} {σ : kx_S} {b o : Nat} {Q : Option Nat → kx_S → Prop} (J : yJ_ s g κ B n σ) (hb : xt σ b = 2) (ho : xt σ o = 9) (k0 : Q none σ) (kk : ∀ y τ, xt τ y = 8 → yJ_ s g κ B n τ → fh_ g κ σ τ → Q (some y) τ) : wX0_takeFirstFor b o σ Q := by
  obtain ⟨⟨h, h1, h2, h3, h4⟩, _⟩ := yp2 J hb
  have sz := ry_size J.1 h2
  have L : ∀ (m : Nat) (i : Int32), 0 ≤ i.toInt → i.toInt ≤ 400 → 400 - i.toInt < (m : Int) → wX0_takeFirstFor_2 (wX0_takeFirstFor_51 Q) Q m b o i σ := by
    intro m
    induction m with
    | zero => intro i h1 h2 h3; omega
    | succ m ih =>
      intro i g1 g2 g3
      refine ⟨hb, h, h1, h2, h2, fun _ => k0, fun q => ⟨hb, h, h1, h2, ?_⟩⟩
      rw [ki_le] at q
      obtain ⟨i', ei, ii⟩ := ki_incE (a := i) (by omega) (by omega)
      have a1 : 0 ≤ i'.toInt := by omega
      have a2 : i'.toInt ≤ 400 := by omega
      have a3 : 400 - i'.toInt < (m : Int) := by omega
      have a4 : i.toInt < (xi σ 18 h).toInt := by omega
      have N : wX0_takeFirstFor_64 (wX0_takeFirstFor_2 (wX0_takeFirstFor_51 Q) Q m) Q b o i σ := fun w ew => by
        rw [ew, ← ei]
        exact ih i' a1 a2 a3
      refine ry_get J.1 h2 g1 a4 (fun y _ ty => ?_)
      rw [h3] at ty
      refine ⟨y, rfl, ty, ho, fun _ => N, fun _ => ⟨fun _ => N, fun _ => ⟨hb, h, h1, h2, ?_⟩⟩⟩
      exact ry_removelog J h2 h3 h4 g1 a4 (fun q3 τ J2 F2 _ t2 _ => kk y τ (by rw [t2]; exact ty) J2 F2)
  have fin := L 401 0 (by decide) (by decide) (by decide)
  exact ⟨401, fin⟩
theorem rx_sawFor {s : sz_T} {g κ : Nat → Nat} {B n : Nat} {σ : kx_S} {b o : Nat} {mo : Int32} {Q : Int32 → kx_S → Prop} (J : yJ_ s g κ B n σ) (hb : xt σ b = 2) (ho : xt σ o = 9) (hm : mo.toInt ≤ 3) (kk : ∀ r τ, 0 ≤ r.toInt → r.toInt ≤ 3 → yJ_ s g κ B n τ → fh_ g κ σ τ → Q r τ) (h0 : 0 ≤ mo.toInt) : wX11_sawFor (g 0) o b mo σ Q := by
  have L : ∀ (m : Nat) (i : Int32) (τ : kx_S), 0 ≤ i.toInt → i.toInt ≤ 3 → 3 - i.toInt < (m : Int) → yJ_ s g κ B n τ → fh_ g κ σ τ → wX11_sawFor_3 Q m (g 0) o b mo i τ := by
    intro m
    induction m with
    | zero => intro i τ h1 h2 h3; omega
    | succ m ih =>
      intro i τ g1 g2 g3 J1 F1
      have tb := fg_tag F1.1 hb (by decide)
      have to := fg_tag F1.1 ho (by decide)
      have Z : ∀ τ2, yJ_ s g κ B n τ2 → fh_ g κ σ τ2 → wX11_sawFor_25 (wX11_sawFor_3 Q m) Q (g 0) o b mo i none τ2 := fun τ2 J2 F2 => ⟨fun a e => (by cases e), fun _ => kk i τ2 g1 g2 J2 F2⟩
      refine ⟨fun _ => kk mo τ h0 hm J1 F1, fun q => ⟨to, fun _ => Z τ J1 F1, fun _ => ⟨tb, ?_⟩⟩⟩
      rw [ki_le] at q
      obtain ⟨i', ei, ii⟩ := ki_incE (a := i) (by omega) (by omega)
      have a1 : 0 ≤ i'.toInt := by omega
      have a2 : i'.toInt ≤ 3 := by omega
      have a3 : 3 - i'.toInt < (m : Int) := by omega
      refine rx_takeFirst J1 tb to (Z τ J1 F1) (fun y τ2 ty J2 F2 => ⟨fun a ea => ?_, fun e => by cases e⟩)
      have e := Option.some.inj ea
      subst e
      have F12 := fh_trans F1 F2
      refine ⟨yg0 J2, ty, ty, fun τ3 e3 τ4 e4 => ?_⟩
      have J4 : yJ_ s g κ B n τ4 := by rw [e4, e3]; exact yI_si (by decide) (yI_si (by decide) J2)
      have F4 : fh_ g κ τ2 τ4 := by rw [e4, e3]; exact fh_trans (fh_si (by decide)) (fh_si (by decide))
      clear e3 e4
      refine ⟨yg0 J4, fg_tag F4.1 ty (by decide), fun τ5 e5 => ?_⟩
      have J5 : yJ_ s g κ B n τ5 := by rw [e5]; exact yI_si (by decide) J4
      have F5 : fh_ g κ σ τ5 := by rw [e5]; exact fh_trans (fh_trans F12 F4) (fh_si (by decide))
      clear e5
      refine ⟨fg_tag F5.1 ho (by decide), fun τ6 e6 w ew => ?_⟩
      rw [ew, ← ei, e6]
      exact ih i' _ a1 a2 a3 (yI_si (by decide) J5) (fh_trans F5 (fh_si (by decide)))
  have fin := L 4 0 σ (by decide) (by decide) (by decide) J fh_refl
  exact ⟨4, fin⟩
theorem rx_runMills {s : sz_T} {g κ : Nat → Nat} {B n : Nat} {σ : kx_S} {Q : kx_S → Prop} (J : yJ_ s g κ B n σ) (kk : ∀ τ, yJ_ s g κ B n τ → fh_ g κ σ τ → Q τ) : wX11_runMills (g 0) σ Q := by
  have L : ∀ (m : Nat) (r : Int32) (τ : kx_S), 0 ≤ r.toInt → r.toInt ≤ 400 → 400 - r.toInt < (m : Int) → yJ_ s g κ B n τ → fh_ g κ σ τ → wX11_runMills_2 Q m (g 0) r τ := by
    intro m
    induction m with
    | zero => intro r τ h1 h2 h3; omega
    | succ m ih =>
      intro r τ h1 h2 h3 J1 F1
      have G1 := yg1 J1
      have sz := ry_size J1.1 G1.2.1
      refine ⟨yg0 J1, g 1, G1.1, G1.2.1, G1.2.1, fun _ => kk τ J1 F1, fun q => ⟨yg0 J1, g 1, G1.1, G1.2.1, ?_⟩⟩
      rw [ki_le] at q
      obtain ⟨r', er, ii⟩ := ki_incE (a := r) (by omega) (by omega)
      have a1 : 0 ≤ r'.toInt := by omega
      have a2 : r'.toInt ≤ 400 := by omega
      have a3 : 400 - r'.toInt < (m : Int) := by omega
      have hr : r.toInt < (xi τ 18 (g 1)).toInt := by omega
      refine ry_get J1.1 G1.2.1 h1 hr (fun R eR tR => ?_)
      rw [G1.2.2] at tR
      have N : ∀ τ2, yJ_ s g κ B n τ2 → fh_ g κ σ τ2 → wX11_runMills_91 (wX11_runMills_2 Q m) Q (g 0) r τ2 := fun τ2 J2 F2 w ew => by
        rw [ew, ← er]
        exact ih r' τ2 a1 a2 a3 J2 F2
      refine ⟨R, rfl, tR, fun q46 e46 => ⟨fun b eb => ?_, fun _ => N τ J1 F1⟩⟩
      have tb : xt τ b = 2 := by
        rcases (yp10 J1 tR).2.2 with h | ⟨h, h1, h2⟩
        · rw [← e46, eb] at h; cases h
        · rw [← e46, eb] at h1; rw [Option.some.inj h1]; exact h2
      have L44 : ∀ (k : Nat) (left c : Int32) (τ2 : kx_S), left.toInt ≤ 3 → 0 ≤ c.toInt → c.toInt ≤ 400 → 400 - c.toInt < (k : Int) → yJ_ s g κ B n τ2 → fh_ g κ τ τ2 → wX11_runMills_44 (wX11_runMills_91 (wX11_runMills_2 Q m) Q) Q k (g 0) r (some b) left c τ2 := by
        intro k
        induction k with
        | zero => intro left c τ2 g0 g1 g2 g3; omega
        | succ k ihk =>
          intro left c τ2 g0 g1 g2 g3 J2 F2
          have tb2 := fg_tag F2.1 tb (by decide)
          obtain ⟨_, o, o1, o2, o3, o4⟩ := yp2 J2 tb2
          have szl := ry_size J2.1 o2
          have N2 := N τ2 J2 (fh_trans F1 F2)
          refine ⟨b, rfl, tb2, o, o1, o2, o2, fun _ => N2, fun p => ⟨fun _ => N2, fun pl => ⟨b, rfl, tb2, o, o1, o2, ?_⟩⟩⟩
          rw [ki_le] at p
          rw [ki_le, ki_z0] at pl
          obtain ⟨c', ec, jj⟩ := ki_incE (a := c) (by omega) (by omega)
          have b1 : 0 ≤ c'.toInt := by omega
          have b2 : c'.toInt ≤ 400 := by omega
          have b3 : 400 - c'.toInt < (k : Int) := by omega
          have b4 : 0 ≤ left.toInt := by omega
          refine ry_get J2.1 o2 g1 (by omega) (fun O _ tO => ?_)
          rw [o3] at tO
          refine ⟨O, rfl, tO, b, rfl, yg0 J2, ?_⟩
          refine rx_sawFor J2 tb2 tO g0 (fun v τ3 v1 v2 J3 F3 w ew x ex => ?_) b4
          have hw : w.toInt ≤ 3 := by
            rw [ew, ki_sub (by omega) (by omega)]
            omega
          rw [ex, ← ec]
          exact ihk w c' τ3 hw b1 b2 b3 J3 (fh_trans F2 F3)
      have f44 := L44 401 3 0 τ (by decide) (by decide) (by decide) (by decide) J1 fh_refl
      exact ⟨401, f44⟩
  have fin := L 401 0 σ (by decide) (by decide) (by decide) J fh_refl
  exact ⟨401, fin⟩
end
section
/-! the class's calls -/
def yc_ (f : Nat → Int32) : Nat → Nat
  | 0 => 0
  | n + 1 => yc_ f n + (if f n = 0 then 0 else 1)
theorem yc_le {f : Nat → Int32} : ∀ n, yc_ f n ≤ n := by
  intro n
  induction n with
  | zero => unfold yc_; omega
  | succ n ih => unfold yc_; split <;> omega
theorem yc_eq {f h : Nat → Int32} : ∀ n, (∀ q, q < n → (h q = 0 ↔ f q = 0)) → yc_ h n = yc_ f n := by
  intro n
  induction n with
  | zero => intro _; unfold yc_; rfl
  | succ n ih =>
    intro e
    unfold yc_
    rw [ih (fun q hq => e q (by omega))]
    have := e n (by omega)
    by_cases c : f n = 0
    · rw [if_pos c, if_pos (this.2 c)]
    · rw [if_neg c, if_neg (fun x => c (this.1 x))]
theorem yc_up {f : Nat → Int32} {r : Nat} {v : Int32} (hr : f r = 0) (hv : v ≠ 0) : ∀ n, r < n → yc_ (upd f r v) n = yc_ f n + 1 := by
  intro n
  induction n with
  | zero => intro h; omega
  | succ n ih =>
    intro h
    unfold yc_
    by_cases e : r = n
    · subst e
      rw [yc_eq (f := f) r (fun q hq => by rw [ku_ne (by omega)]), ku_self, if_neg hv, if_pos hr]
    · rw [ih (by omega), ku_ne (fun x => e x.symm)]
      omega
def yZ_ (k : Nat) (s : sz_T) (L O : Nat) (σ : kx_S) : Prop := ∃ g κ B n, g 0 = L ∧ g 10 = O ∧ yJ_ s g κ B n σ ∧ n ≤ 5 + 13 * s.1.1.toNatClampNeg + 2 * yc_ s.2.2.2.2.2 10 ∧ B ≤ 15 + 26 * s.1.1.toNatClampNeg + 3 * k
theorem yB_ {k : Nat} {s : sz_T} {E : Nat → Prop} {g κ : Nat → Nat} {B n : Nat} {σ : kx_S} (J : yI_ s E g κ B n σ) (hk : k < 600) (hn : n ≤ 5 + 13 * s.1.1.toNatClampNeg + 2 * yc_ s.2.2.2.2.2 10) (hB : B ≤ 15 + 26 * s.1.1.toNatClampNeg + 3 * k) : B ≤ 2100 ∧ n ≤ 155 := by
  have h1 : xi σ 18 (g 1) = s.1.1 := congrArg (fun p => p.1) J.2.2.2.2.1
  have h2 := J.2.2.2.2.2.2.2.1
  rw [h1] at h2
  have h3 := yc_le (f := s.2.2.2.2.2) 10
  rw [ki_nat] at hn hB
  omega
abbrev qz_ (k L O : Nat) (z : Int32 × Int32 × sz_T) : Int32 → kx_S → Prop := fun r σ => z.1 = 0 ∧ r = z.2.1 ∧ yZ_ (k + 1) z.2.2 L O σ
abbrev qe_ (k L O : Nat) (nm : String) (z : Int32 × Int32 × sz_T) : String → kx_S → Prop := fun e σ => e = nm ∧ z.1 = 1 ∧ yZ_ (k + 1) z.2.2 L O σ
theorem yZ_of {k : Nat} {s : sz_T} {g κ : Nat → Nat} {B n : Nat} {σ : kx_S} (J : yJ_ s g κ B n σ) (hn : n ≤ 5 + 13 * s.1.1.toNatClampNeg + 2 * yc_ s.2.2.2.2.2 10) (hB : B ≤ 15 + 26 * s.1.1.toNatClampNeg + 3 * (k + 1)) : yZ_ (k + 1) s (g 0) (g 10) σ := ⟨g, κ, B, n, rfl, rfl, J, hn, hB⟩
theorem yZ_bump {k : Nat} {s : sz_T} {g κ : Nat → Nat} {B n : Nat} {σ : kx_S} (J : yJ_ s g κ B n σ) (hn : n ≤ 5 + 13 * s.1.1.toNatClampNeg + 2 * yc_ s.2.2.2.2.2 10) (hB : B ≤ 15 + 26 * s.1.1.toNatClampNeg + 3 * k) : yZ_ (k + 1) s (g 0) (g 10) (xbump σ) := ⟨g, κ, B + 1, n, rfl, rfl, ⟨yL_bump J.1, J.2⟩, hn, by omega⟩
theorem rx_within {v a b : Int32} {σ : kx_S} {Q : Int32 → kx_S → Prop} (k0 : ¬ (a.toInt ≤ v.toInt ∧ v.toInt ≤ b.toInt) → Q 0 σ) (k1 : a.toInt ≤ v.toInt → v.toInt ≤ b.toInt → Q 1 σ) : wX11_isWithin v a b σ Q := by
  refine ⟨fun c => k0 ?_, fun c => ⟨fun d => k0 ?_, fun d => k1 ?_ ?_⟩⟩
  all_goals (simp only [ki_lt] at *; omega)
/-- one of a list, or none -/
theorem rx_reachAt {s : sz_T} {g κ : Nat → Nat} {B n : Nat} {σ : kx_S} {r : Int32} {Q : Nat → kx_S → Prop} {QX : String → kx_S → Prop} (J : yJ_ s g κ B n σ) (hB : B ≤ 3000) (hn : n ≤ 200) (k1 : z_is r s → ∀ R, xe σ (g 1) r.toNatClampNeg = some R → xt σ R = 10 → Q R σ) (k0 : ¬ z_is r s → QX pz_N (xbump σ)) : wX11_reachAt (g 0) r σ Q QX := by
  have G1 := yg1 J
  have sz := ry_size J.1 G1.2.1
  have e1 : xi σ 18 (g 1) = s.1.1 := congrArg (fun p => p.1) J.2.2.2.2.1
  obtain ⟨u, eu, dd⟩ := ki_dec2E (a := xi σ 18 (g 1)) (by omega)
  refine ⟨yg0 J, g 1, G1.1, G1.2.1, G1.2.1, ?_⟩
  show wX11_isWithin _ _ (xi σ 18 (g 1) - 1) _ _
  rw [← eu]
  refine rx_within (fun c => ⟨fun x => absurd rfl x, fun _ => ⟨ry_room J.1 hB hn, k0 (fun h => c ?_)⟩⟩) (fun c1 c2 => ⟨fun _ => ⟨yg0 J, g 1, G1.1, G1.2.1, ?_⟩, fun x => absurd x (by decide)⟩)
  · rw [ki_z0, dd, e1]
    exact ⟨h.1, by have := h.2; omega⟩
  · rw [ki_z0] at c1
    refine ry_get J.1 G1.2.1 c1 (by omega) (fun R eR tR => ?_)
    rw [G1.2.2] at tR
    exact ⟨R, rfl, tR, k1 ⟨c1, by rw [← e1]; omega⟩ R eR tR⟩
/-- the reach of a number -/
theorem yS_at {s : sz_T} {g : Nat → Nat} {σ : kx_S} {r R : Nat} (S : yS_ s g σ) (hr : (r : Int) < s.1.1.toInt) (e : xe σ (g 1) r = some R) : (xi σ 160 R).toInt = (r : Int) ∧ xi σ 165 R = s.2.1 r ∧ xi σ 168 R = s.2.2.1 r ∧ xi σ 164 R = s.2.2.2.1 r ∧ xi σ 171 R = s.2.2.2.2.1 r ∧ (xr σ 172 R = none ↔ s.2.2.2.2.2 r = 0) := by
  have e1 : xi σ 18 (g 1) = s.1.1 := congrArg (fun p => p.1) S.1
  obtain ⟨R', q, o⟩ := S.2.1 r (by rw [e1]; exact hr)
  rw [e] at q
  rw [Option.some.inj q]
  exact o
theorem yI_165 {s : sz_T} {E : Nat → Prop} {g κ : Nat → Nat} {B n : Nat} {σ : kx_S} {r R : Nat} {v : Int32} (I : yI_ s E g κ B n σ) (hr : (r : Int) < s.1.1.toInt) (e : xe σ (g 1) r = some R) : yI_ (s.1, upd s.2.1 r v, s.2.2) E g κ B n (xsi σ 165 R v) := by
  have S := I.2.2.2.2
  have e1 : xi σ 18 (g 1) = s.1.1 := congrArg (fun p => p.1) S.1
  have o0 := yS_at S hr e
  refine ⟨I.1, I.2.1, I.2.2.1, I.2.2.2.1, S.1, fun q hq => ?_, fun q hq => ?_, S.2.2.2⟩
  · obtain ⟨R2, oe, o1, o2, o3, o4, o5, o6⟩ := S.2.1 q hq
    by_cases c : q = r
    · subst c
      have eR : R2 = R := by rw [e] at oe; exact (Option.some.inj oe).symm
      subst eR
      exact ⟨R2, oe, o1, (by show va_up (xi σ 165) R2 v R2 = upd s.2.1 q v q; rw [va_up_self, ku_self]), o3, o4, o5, o6⟩
    · have ne : R2 ≠ R := fun x => by
        have t := o0.1
        rw [← x] at t
        omega
      exact ⟨R2, oe, o1, (by show va_up (xi σ 165) R v R2 = upd s.2.1 r v q; rw [va_up_ne _ _ ne, ku_ne c]; exact o2), o3, o4, o5, o6⟩
  · obtain ⟨z1, z2, z3, z4, z5⟩ := S.2.2.1 q hq
    have hq' : s.1.1.toInt ≤ (q : Int) := by rw [← e1]; exact hq
    exact ⟨(by show upd s.2.1 r v q = 0; rw [ku_ne (by omega)]; exact z1), z2, z3, z4, z5⟩
theorem yI_168 {s : sz_T} {E : Nat → Prop} {g κ : Nat → Nat} {B n : Nat} {σ : kx_S} {r R : Nat} {v : Int32} (I : yI_ s E g κ B n σ) (hr : (r : Int) < s.1.1.toInt) (e : xe σ (g 1) r = some R) : yI_ (s.1, s.2.1, upd s.2.2.1 r v, s.2.2.2) E g κ B n (xsi σ 168 R v) := by
  have S := I.2.2.2.2
  have e1 : xi σ 18 (g 1) = s.1.1 := congrArg (fun p => p.1) S.1
  have o0 := yS_at S hr e
  refine ⟨I.1, I.2.1, I.2.2.1, I.2.2.2.1, S.1, fun q hq => ?_, fun q hq => ?_, S.2.2.2⟩
  · obtain ⟨R2, oe, o1, o2, o3, o4, o5, o6⟩ := S.2.1 q hq
    by_cases c : q = r
    · subst c
      have eR : R2 = R := by rw [e] at oe; exact (Option.some.inj oe).symm
      subst eR
      exact ⟨R2, oe, o1, o2, (by show va_up (xi σ 168) R2 v R2 = upd s.2.2.1 q v q; rw [va_up_self, ku_self]), o4, o5, o6⟩
    · have ne : R2 ≠ R := fun x => by
        have t := o0.1
        rw [← x] at t
        omega
      exact ⟨R2, oe, o1, o2, (by show va_up (xi σ 168) R v R2 = upd s.2.2.1 r v q; rw [va_up_ne _ _ ne, ku_ne c]; exact o3), o4, o5, o6⟩
  · obtain ⟨z1, z2, z3, z4, z5⟩ := S.2.2.1 q hq
    have hq' : s.1.1.toInt ≤ (q : Int) := by rw [← e1]; exact hq
    exact ⟨z1, (by show upd s.2.2.1 r v q = 0; rw [ku_ne (by omega)]; exact z2), z3, z4, z5⟩
theorem yI_164 {s : sz_T} {E : Nat → Prop} {g κ : Nat → Nat} {B n : Nat} {σ : kx_S} {r R : Nat} {v : Int32} (I : yI_ s E g κ B n σ) (hr : (r : Int) < s.1.1.toInt) (e : xe σ (g 1) r = some R) : yI_ (s.1, s.2.1, s.2.2.1, upd s.2.2.2.1 r v, s.2.2.2.2) E g κ B n (xsi σ 164 R v) := by
  have S := I.2.2.2.2
  have e1 : xi σ 18 (g 1) = s.1.1 := congrArg (fun p => p.1) S.1
  have o0 := yS_at S hr e
  refine ⟨I.1, I.2.1, I.2.2.1, I.2.2.2.1, S.1, fun q hq => ?_, fun q hq => ?_, S.2.2.2⟩
  · obtain ⟨R2, oe, o1, o2, o3, o4, o5, o6⟩ := S.2.1 q hq
    by_cases c : q = r
    · subst c
      have eR : R2 = R := by rw [e] at oe; exact (Option.some.inj oe).symm
      subst eR
      exact ⟨R2, oe, o1, o2, o3, (by show va_up (xi σ 164) R2 v R2 = upd s.2.2.2.1 q v q; rw [va_up_self, ku_self]), o5, o6⟩
    · have ne : R2 ≠ R := fun x => by
        have t := o0.1
        rw [← x] at t
        omega
      exact ⟨R2, oe, o1, o2, o3, (by show va_up (xi σ 164) R v R2 = upd s.2.2.2.1 r v q; rw [va_up_ne _ _ ne, ku_ne c]; exact o4), o5, o6⟩
  · obtain ⟨z1, z2, z3, z4, z5⟩ := S.2.2.1 q hq
    have hq' : s.1.1.toInt ≤ (q : Int) := by rw [← e1]; exact hq
    exact ⟨z1, z2, (by show upd s.2.2.2.1 r v q = 0; rw [ku_ne (by omega)]; exact z3), z4, z5⟩
theorem yI_171 {s : sz_T} {E : Nat → Prop} {g κ : Nat → Nat} {B n : Nat} {σ : kx_S} {r R : Nat} {v : Int32} (I : yI_ s E g κ B n σ) (hr : (r : Int) < s.1.1.toInt) (e : xe σ (g 1) r = some R) (hv : v = 0 ∨ v = 1) : yI_ (s.1, s.2.1, s.2.2.1, s.2.2.2.1, upd s.2.2.2.2.1 r v, s.2.2.2.2.2) E g κ B n (xsi σ 171 R v) := by
  have S := I.2.2.2.2
  have e1 : xi σ 18 (g 1) = s.1.1 := congrArg (fun p => p.1) S.1
  have o0 := yS_at S hr e
  refine ⟨I.1, I.2.1, I.2.2.1, fun b => ?_, S.1, fun q hq => ?_, fun q hq => ?_, S.2.2.2⟩
  · obtain ⟨q1, q2, q3, q4, q5, q6, q7, q8⟩ := I.2.2.2.1 b
    refine ⟨q1, q2, q3, q4, q5, fun e => ?_, q7, q8⟩
    show va_up (xi σ 171) R v b = 0 ∨ va_up (xi σ 171) R v b = 1
    by_cases e2 : b = R
    · rw [e2, va_up_self]; exact hv
    · rw [va_up_ne _ _ e2]; exact q6 e
  · obtain ⟨R2, oe, o1, o2, o3, o4, o5, o6⟩ := S.2.1 q hq
    by_cases c : q = r
    · subst c
      have eR : R2 = R := by rw [e] at oe; exact (Option.some.inj oe).symm
      subst eR
      exact ⟨R2, oe, o1, o2, o3, o4, (by show va_up (xi σ 171) R2 v R2 = upd s.2.2.2.2.1 q v q; rw [va_up_self, ku_self]), o6⟩
    · have ne : R2 ≠ R := fun x => by
        have t := o0.1
        rw [← x] at t
        omega
      exact ⟨R2, oe, o1, o2, o3, o4, (by show va_up (xi σ 171) R v R2 = upd s.2.2.2.2.1 r v q; rw [va_up_ne _ _ ne, ku_ne c]; exact o5), o6⟩
  · obtain ⟨z1, z2, z3, z4, z5⟩ := S.2.2.1 q hq
    have hq' : s.1.1.toInt ≤ (q : Int) := by rw [← e1]; exact hq
    exact ⟨z1, z2, z3, (by show upd s.2.2.2.2.1 r v q = 0; rw [ku_ne (by omega)]; exact z4), z5⟩
end
