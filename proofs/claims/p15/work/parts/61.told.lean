/-! a law's rule told: only the stack and its top change -/
def kv_ (μ : km_S) (S : Nat → Int32) (t : Int32) : km_S := (upd μ.1 68 t, fun j => if j = 57 then S else μ.2.1 j, μ.2.2)
theorem kv_57 {μ : km_S} {S : Nat → Int32} {t v : Int32} {p : Nat} : km_sa (kv_ μ S t) 57 p v = kv_ μ (upd S p v) t := by
  refine Prod.ext rfl (Prod.ext ?_ rfl)
  funext j
  show (if j = 57 then _ else if j = 57 then S else μ.2.1 j) = (if j = 57 then _ else μ.2.1 j)
  by_cases a : j = 57
  · rw [if_pos a, if_pos a]; rfl
  · rw [if_neg a, if_neg a, if_neg a]
theorem kv_68 {μ : km_S} {S : Nat → Int32} {t v : Int32} : km_si (kv_ μ S t) 68 v = kv_ μ S v := by
  refine Prod.ext ?_ rfl
  funext j
  show upd (upd μ.1 68 t) 68 v j = upd μ.1 68 v j
  by_cases a : j = 68
  · rw [a, ku_self, ku_self]
  · rw [ku_ne a, ku_ne a, ku_ne a]
theorem kv_id {μ : km_S} {v : Int32} : km_si μ 68 v = kv_ μ (km_a μ 57) v := by
  refine Prod.ext rfl (Prod.ext ?_ rfl)
  funext j
  show _ = (if j = 57 then _ else _)
  by_cases a : j = 57
  · rw [if_pos a, a]; rfl
  · rw [if_neg a]; rfl
theorem ih_kv {σ : sz_T × Int32} {μ : km_S} {S : Nat → Int32} {t : Int32} (h : ih_ σ μ) : ih_ σ (kv_ μ S t) := h
theorem rz_value {a g r : Int32} {μ : km_S} {Q : Int32 → km_S → Prop} (hg : vp_in g 400) (h : ∀ v, Q v μ) : wX12_value a g r μ Q :=
  fun v _ => ⟨fun _ => ⟨hg, h _⟩, fun _ => ⟨hg, h _⟩, fun _ => ⟨hg, h _⟩, fun _ => h _, fun _ => h _, fun _ => h _, fun _ _ _ _ _ _ => ⟨hg, h _⟩⟩
theorem rz_two {c x y : Int32} {μ : km_S} {Q : Int32 → km_S → Prop} (h : ∀ v, Q v μ) : wX12_two c x y μ Q :=
  fun v _ => ⟨fun _ => h _, fun _ => h _, fun _ => h _, fun _ => ⟨fun q => ⟨fun _ => ⟨q, h _⟩, fun _ => h _⟩, fun _ => h _⟩, fun _ => ⟨fun _ => h _, fun _ => h _⟩, fun _ => ⟨fun _ => h _, fun _ => h _⟩, fun _ => ⟨fun _ => h _, fun _ => ⟨fun _ => h _, fun _ => h _⟩⟩, fun _ _ _ _ _ _ _ => ⟨fun _ => h _, fun _ => ⟨fun _ => h _, fun _ => h _⟩⟩⟩
theorem rz_told {f t g r : Int32} {μ : km_S} {Q : Int32 → km_S → Prop} {B k e : Nat} (hg : vp_in g 400) (hf : f.toInt = (B : Int) + k) (ht : t.toInt = (B : Int) + e) (hB : B + e ≤ 5400) (hrun : im_run (fun i => km_a μ 56 (B + i)) 901 k e 0) (h : ∀ v S u, Q v (kv_ μ S u)) : wX12_told f t g r μ Q := by
  intro μ1 e1
  refine ⟨901, ?_⟩
  rw [e1, kv_id]
  have L : ∀ (n k d : Nat) (i u : Int32) (S : Nat → Int32), i.toInt = (B : Int) + k → u.toInt = (d : Int) → d ≤ 190 → im_run (fun i => km_a μ 56 (B + i)) n k e d → wX12_told_8 (wX12_told_193 Q) Q n t g r i (kv_ μ S u) := by
    intro n
    induction n with
    | zero => intro k d i u S h1 h2 h3 h4; unfold im_run at h4; exact h4.elim
    | succ n ih =>
      intro k d i u S h1 h2 h3 h4
      refine ⟨fun _ => h _ _ _, fun c => ?_⟩
      rw [ki_le] at c
      unfold im_run at h4
      rw [if_neg (by omega)] at h4
      have z20 : (20 : Int32).toInt = 20 := by decide
      have pi : i.toNatClampNeg = B + k := by rw [ki_nat]; omega
      have ii := ki_inc (a := i) (by omega) (by omega)
      have ui := ki_inc (a := u) (by omega) (by omega)
      have ud := ki_dec2 (a := u) (by omega)
      have N : ∀ (k' d' : Nat) (j w : Int32) (S' : Nat → Int32), j.toInt + 1 = (B : Int) + k' → (k' : Int) ≤ e + 1 → w.toInt = (d' : Int) → d' ≤ 190 → im_run (fun i => km_a μ 56 (B + i)) n k' e d' → wX12_told_187 (wX12_told_8 (wX12_told_193 Q) Q n) Q t g r j (kv_ μ S' w) := by
        intro k' d' j w S' g1 g2 g3 g4 g5 v ev
        have := ki_inc (a := j) (by omega) (by omega)
        rw [ev]
        exact ih k' d' _ w S' (by omega) g3 g4 g5
      refine ⟨by rw [ki_in]; omega, fun v6 e6 => ⟨fun q => ⟨fun q2 => ⟨fun q3 => ?_, fun q3 => ?_⟩, fun q2 => ?_⟩, fun q v24 e24 => ?_⟩⟩
      all_goals (have e6' : v6 = km_a μ 56 (B + k) := by rw [e6, pi]; rfl)
      all_goals (rw [← e6'] at h4)
      · rw [if_neg q, if_neg (fun x => by rw [ki_lt] at q2; rw [ki_le] at x; omega), if_neg q3] at h4
        intro μ10 e10
        rw [kv_68] at e10
        have e10' : μ10 = kv_ μ S (u - 1) := e10
        subst e10'
        have ud2 := ki_dec2 (a := u - 1) (by omega)
        have a1 : vp_in (u - 1 - 1) 200 := by rw [ki_in]; omega
        refine ⟨a1, (by show vp_in (u - 1) 200; rw [ki_in]; omega), rz_two (fun v => ⟨a1, fun μ16 e16 => ?_⟩)⟩
        rw [e16, kv_57]
        exact N (k + 1) (d - 1) i _ _ (by omega) (by omega) (by omega) (by omega) h4.2
      · rw [if_neg q, if_neg (fun x => by rw [ki_lt] at q2; rw [ki_le] at x; omega), if_pos q3] at h4
        have a1 : vp_in (u - 1) 200 := by rw [ki_in]; omega
        refine ⟨a1, fun _ => ⟨a1, fun μ3 e3 => ?_⟩, fun _ => ⟨a1, fun μ3 e3 => ?_⟩⟩
        · rw [e3, kv_57]
          exact N (k + 1) d i _ _ (by omega) (by omega) h2 h3 h4.2
        · rw [e3, kv_57]
          exact N (k + 1) d i _ _ (by omega) (by omega) h2 h3 h4.2
      · rw [if_neg q, if_pos (by rw [ki_lt] at q2; rw [ki_le]; omega)] at h4
        refine rz_value hg (fun v => ⟨(by show vp_in u 200; rw [ki_in]; omega), fun μ22 e22 μ23 e23 => ?_⟩)
        rw [e23, e22, kv_57, kv_68]
        exact N (k + 1) (d + 1) i _ _ (by omega) (by omega) (by show (u + 1).toInt = _; omega) (by omega) h4.2.2
      · rw [if_pos q] at h4
        refine ⟨by rw [e24, ki_in]; omega, (by show vp_in u 200; rw [ki_in]; omega), fun μ27 e27 μ28 e28 => ?_⟩
        rw [e28, e27, kv_57, kv_68]
        exact N (k + 2) (d + 1) v24 _ _ (by rw [e24]; omega) (by omega) (by show (u + 1).toInt = _; omega) (by omega) h4.2.2
  exact L 901 k 0 f 0 _ hf (by decide) (by decide) hrun
