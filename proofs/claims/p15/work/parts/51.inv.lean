/-! the reference: what always holds of its state -/
def im_n (μ : km_S) : Prop := (0 ≤ (km_i μ 3).toInt ∧ (km_i μ 3).toInt ≤ 10) ∧ (0 ≤ (km_i μ 4).toInt ∧ (km_i μ 4).toInt ≤ 400) ∧ (0 ≤ (km_i μ 5).toInt ∧ (km_i μ 5).toInt ≤ 6) ∧ (0 ≤ (km_i μ 7).toInt ∧ (km_i μ 7).toInt ≤ 6) ∧ (0 ≤ (km_i μ 8).toInt ∧ (km_i μ 8).toInt ≤ 60) ∧ (0 ≤ (km_i μ 9).toInt ∧ (km_i μ 9).toInt ≤ 500)
def im_r (μ : km_S) : Prop := ∀ r : Nat, r < 10 → (-1 ≤ (km_a μ 13 r).toInt ∧ (km_a μ 13 r).toInt ≤ 9) ∧ (0 ≤ (km_a μ 14 r).toInt ∧ (km_a μ 14 r).toInt ≤ 12) ∧ (0 ≤ (km_a μ 15 r).toInt ∧ (km_a μ 15 r).toInt ≤ 20) ∧ (km_a μ 28 r).toInt ≤ 100 ∧ (km_a μ 23 r = 0 ∨ km_a μ 23 r = 1)
/-- cells: who lies there is afloat there, and lies there once -/
def im_c (μ : km_S) : Prop := ∀ k : Nat, k < 120 → (0 ≤ (km_a μ 31 k).toInt ∧ (km_a μ 31 k).toInt ≤ 20) ∧ ∀ i : Nat, (i : Int) < (km_a μ 31 k).toInt →
  (0 ≤ (km_a μ 32 (20 * k + i)).toInt ∧ (km_a μ 32 (20 * k + i)).toInt < 400) ∧ km_a μ 38 (km_a μ 32 (20 * k + i)).toNatClampNeg = 1 ∧ 12 * (km_a μ 39 (km_a μ 32 (20 * k + i)).toNatClampNeg).toInt + (km_a μ 40 (km_a μ 32 (20 * k + i)).toNatClampNeg).toInt = (k : Int) ∧
  ∀ j : Nat, (j : Int) < (km_a μ 31 k).toInt → km_a μ 32 (20 * k + j) = km_a μ 32 (20 * k + i) → j = i
/-- heaps: who lies there is heaped there, and lies there once -/
def im_h (μ : km_S) : Prop := ∀ r : Nat, r < 10 → (0 ≤ (km_a μ 29 r).toInt ∧ (km_a μ 29 r).toInt ≤ 100) ∧ ∀ i : Nat, (i : Int) < (km_a μ 29 r).toInt →
  (0 ≤ (km_a μ 30 (100 * r + i)).toInt ∧ (km_a μ 30 (100 * r + i)).toInt < 400) ∧ km_a μ 38 (km_a μ 30 (100 * r + i)).toNatClampNeg = 2 ∧ (km_a μ 39 (km_a μ 30 (100 * r + i)).toNatClampNeg).toInt = (r : Int) ∧
  ∀ j : Nat, (j : Int) < (km_a μ 29 r).toInt → km_a μ 30 (100 * r + j) = km_a μ 30 (100 * r + i) → j = i
/-- logs -/
def im_g (μ : km_S) : Prop := ∀ g : Nat, g < 400 → (0 ≤ (km_a μ 35 g).toInt ∧ (km_a μ 35 g).toInt ≤ 15) ∧ (0 ≤ (km_a μ 36 g).toInt ∧ (km_a μ 36 g).toInt ≤ 9) ∧ (km_a μ 38 g = 1 → (0 ≤ (km_a μ 39 g).toInt ∧ (km_a μ 39 g).toInt < 10) ∧ (0 ≤ (km_a μ 40 g).toInt ∧ (km_a μ 40 g).toInt < 12)) ∧ ((km_i μ 4).toInt ≤ (g : Int) → km_a μ 38 g = 0)
/-- how many of the first n logs are not sawn -/
def im_un (f : Nat → Int32) : Nat → Nat
  | 0 => 0
  | n + 1 => im_un f n + (if f n = 3 then 0 else 1)
def im_s (μ : km_S) : Prop := 0 ≤ (km_i μ 6).toInt ∧ (km_i μ 6).toInt + 9 * (im_un (km_a μ 38) 400 : Int) ≤ 3600
def im_w (μ : km_S) : Prop := ∀ k : Nat, k < 6 → 0 ≤ (km_a μ 44 k).toInt ∧ (km_a μ 44 k).toInt < 10
/-- a law's row of codes: from place k on, with d on the stack, up to e: it never asks for what isn't there, and ends with one -/
def im_run (f : Nat → Int32) : Nat → Nat → Nat → Nat → Prop
  | 0, _, _, _ => False
  | n + 1, k, e, d => if e ≤ k then k = e ∧ d = 1 else if f k = 0 then k + 1 < e ∧ d < 190 ∧ im_run f n (k + 2) e (d + 1) else if 20 ≤ f k then f k < 27 ∧ d < 190 ∧ im_run f n (k + 1) e (d + 1) else if f k = 9 then 1 ≤ d ∧ im_run f n (k + 1) e d else 2 ≤ d ∧ im_run f n (k + 1) e (d - 1)
def im_l (μ : km_S) : Prop := ∀ l : Nat, (l : Int) < (km_i μ 5).toInt → (0 ≤ (km_a μ 54 l).toInt ∧ (km_a μ 54 l).toInt ≤ 12) ∧ ∀ k : Nat, (k : Int) < (km_a μ 54 l).toInt →
  0 ≤ (km_a μ 55 (13 * l + k)).toInt ∧ (km_a μ 55 (13 * l + k + 1)).toInt ≤ 900 ∧ im_run (fun i => km_a μ 56 (900 * l + i)) 901 (km_a μ 55 (13 * l + k)).toNatClampNeg (km_a μ 55 (13 * l + k + 1)).toNatClampNeg 0
def im_ (μ : km_S) : Prop := im_n μ ∧ im_r μ ∧ im_c μ ∧ im_h μ ∧ im_g μ ∧ im_s μ ∧ im_w μ ∧ im_l μ
/-! what calls show that need no walk of logs: reaches, logs, crews, orders, taped, hour; by reach: dam, gate, melt, watch, boom -/
abbrev sz_T : Type := (Int32 × Int32 × Int32 × Int32 × Int32 × Int32) × (Nat → Int32) × (Nat → Int32) × (Nat → Int32) × (Nat → Int32) × (Nat → Int32)
def sm_ (μ : km_S) : sz_T := ((km_i μ 3, km_i μ 4, km_i μ 7, km_i μ 8, km_i μ 9, km_i μ 2), km_a μ 21, km_a μ 26, km_a μ 17, km_a μ 23, km_a μ 22)
/-- the code, scratch ints and scratch arrays are nothing to it -/
theorem im_code {μ : km_S} (v : Int32) (h : im_ μ) : im_ (km_si μ 1 v) := h
theorem sm_code {μ : km_S} (v : Int32) : sm_ (km_si μ 1 v) = sm_ μ := rfl
theorem im_un_eq {f g : Nat → Int32} (n : Nat) (h : ∀ k, k < n → (g k = 3 ↔ f k = 3)) : im_un g n = im_un f n := by
  induction n with
  | zero => unfold im_un; rfl
  | succ n ih =>
    unfold im_un
    rw [ih (fun k hk => h k (by omega))]
    have := h n (by omega)
    by_cases c : f n = 3
    · rw [if_pos c, if_pos (this.2 c)]
    · rw [if_neg c, if_neg (fun hh => c (this.1 hh))]
theorem rz_isReach {r : Int32} {μ : km_S} {Q : Int32 → km_S → Prop} (h0 : ¬ (0 ≤ r.toInt ∧ r.toInt < (km_i μ 3).toInt) → Q 0 μ) (h1 : 0 ≤ r.toInt → r.toInt < (km_i μ 3).toInt → Q 1 μ) : wX12_isReach r μ Q := by
  have z : (0 : Int32).toInt = 0 := by decide
  refine ⟨fun c => h0 ?_, fun c => ⟨fun d => h0 ?_, fun d => h1 ?_ ?_⟩⟩
  all_goals (simp only [ki_lt, ki_le, z] at *; omega)
