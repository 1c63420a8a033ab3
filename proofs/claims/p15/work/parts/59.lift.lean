/-! a log lifted out of its cell, a log laid into one -/
def kk_ (μ : km_S) (F A : Nat → Int32) : km_S := (μ.1, fun j => if j = 32 then F else if j = 31 then A else μ.2.1 j, μ.2.2)
theorem kk_32 {μ : km_S} {F A : Nat → Int32} {p : Nat} {v : Int32} : km_sa (kk_ μ F A) 32 p v = kk_ μ (upd F p v) A := by
  refine Prod.ext rfl (Prod.ext ?_ rfl)
  funext j
  show (if j = 32 then _ else if j = 32 then F else if j = 31 then A else μ.2.1 j) = (if j = 32 then _ else if j = 31 then A else μ.2.1 j)
  by_cases a : j = 32
  · rw [if_pos a, if_pos a]; rfl
  · rw [if_neg a, if_neg a, if_neg a]
theorem kk_31 {μ : km_S} {F A : Nat → Int32} {p : Nat} {v : Int32} : km_sa (kk_ μ F A) 31 p v = kk_ μ F (upd A p v) := by
  refine Prod.ext rfl (Prod.ext ?_ rfl)
  funext j
  show (if j = 31 then _ else if j = 32 then F else if j = 31 then A else μ.2.1 j) = (if j = 32 then F else if j = 31 then _ else μ.2.1 j)
  by_cases a : j = 31
  · rw [if_pos a, a]; rfl
  · rw [if_neg a]
    by_cases b : j = 32
    · rw [if_pos b, if_pos b]
    · rw [if_neg b, if_neg b, if_neg a, if_neg a]
theorem kk_id (μ : km_S) : kk_ μ (km_a μ 32) (km_a μ 31) = μ := by
  refine Prod.ext rfl (Prod.ext ?_ rfl)
  funext j
  show (if j = 32 then _ else if j = 31 then _ else _) = _
  by_cases a : j = 32
  · rw [if_pos a, a]; rfl
  · rw [if_neg a]
    by_cases b : j = 31
    · rw [if_pos b, b]; rfl
    · rw [if_neg b]
/-- a log lies in no cell -/
def im_free (g : Int32) (μ : km_S) : Prop := ∀ k : Nat, k < 120 → ∀ i : Nat, (i : Int) < (km_a μ 31 k).toInt → km_a μ 32 (20 * k + i) ≠ g
theorem ki_20 {k i : Int32} (h1 : 0 ≤ k.toInt) (h2 : k.toInt < 120) (h3 : 0 ≤ i.toInt) (h4 : i.toInt ≤ 20) : (20 * k + i).toInt = 20 * k.toInt + i.toInt := by
  have z : (20 : Int32).toInt = 20 := by decide
  have h : (20 * k).toInt = 20 * k.toInt := by rw [ki_mul (by rw [z]; omega) (by rw [z]; omega), z]
  rw [ki_add (by rw [h]; omega) (by rw [h]; omega), h]
theorem rz_lift {σ : sz_T × Int32} {g : Int32} {μ : km_S} {Q : km_S → Prop} (H : ih_ σ μ) (hg : vp_in g 400) (hp : km_a μ 38 g.toNatClampNeg = 1)
    (kk : ∀ F A : Nat → Int32, ih_ σ (kk_ μ F A) → im_free g (kk_ μ F A) → (∀ q : Nat, q < 120 → (A q).toInt ≤ (km_a μ 31 q).toInt) → Q (kk_ μ F A)) : wX12_lift g μ Q := by
  obtain ⟨⟨n1, n2, n3, n4, n5, n6, n7, n8⟩, hs⟩ := H
  have hg4 := ki_in.1 hg
  obtain ⟨gn, egn⟩ : ∃ gn, gn = g.toNatClampNeg := ⟨_, rfl⟩
  have hgn : (gn : Int) = g.toInt := by rw [egn, ki_nat]; omega
  rw [← egn] at hp
  have hrc := (n5 gn (by omega)).2.2.1 hp
  refine ⟨hg, hg, ⟨30, ?_⟩⟩
  rw [← egn]
  have hat := im_at hrc.1.1 hrc.1.2 hrc.2.1 hrc.2.2
  obtain ⟨K, eK⟩ : ∃ K, K = 12 * km_a μ 39 gn + km_a μ 40 gn := ⟨_, rfl⟩
  rw [← eK] at hat
  rw [← eK]
  have hK : vp_in K 120 := by rw [ki_in]; omega
  obtain ⟨k, ek⟩ : ∃ k, k = K.toNatClampNeg := ⟨_, rfl⟩
  have hk : (k : Int) = K.toInt := by rw [ek, ki_nat]; omega
  have hk120 : k < 120 := by omega
  have hh := (n3 k hk120).1
  have L : ∀ (n : Nat) (to i : Int32) (F : Nat → Int32), 0 ≤ to.toInt → to.toInt ≤ i.toInt → i.toInt ≤ (km_a μ 31 k).toInt → (km_a μ 31 k).toInt - i.toInt < (n : Int) →
      (∀ p : Nat, (p : Int) < 20 * k ∨ 20 * (k : Int) + to.toInt ≤ p → F p = km_a μ 32 p) →
      (∀ a : Nat, (a : Int) < to.toInt → ∃ b : Nat, (b : Int) < i.toInt ∧ F (20 * k + a) = km_a μ 32 (20 * k + b) ∧ km_a μ 32 (20 * k + b) ≠ g) →
      (∀ a c : Nat, (a : Int) < to.toInt → (c : Int) < to.toInt → F (20 * k + c) = F (20 * k + a) → c = a) →
      (∀ b : Nat, (b : Int) < i.toInt → True) →
      wX12_lift_21 (wX12_lift_77 Q) Q n g K to i (kk_ μ F (km_a μ 31)) := by
    intro n
    induction n with
    | zero => intro to i F h1 h2 h3 h4; omega
    | succ n ih =>
      intro to i F h1 h2 h3 h4 f1 f2 f3 _
      refine ⟨hK, fun c => ⟨hK, fun μ3 e3 => ?_⟩, fun c => ?_⟩
      · rw [e3, kk_31, ← ek]
        have c' : (km_a μ 31 k).toInt ≤ i.toInt := by
          have := ki_le.1 c
          rw [← ek] at this
          exact this
        have A0 : ∀ q : Nat, q ≠ k → upd (km_a μ 31) k to q = km_a μ 31 q := fun q hq => ku_ne hq
        have A1 : upd (km_a μ 31) k to k = to := ku_self
        refine kk _ _ ⟨⟨n1, n2, ?_, n4, n5, n6, n7, n8⟩, hs⟩ ?_ ?_
        · intro q hq
          show (0 ≤ (upd (km_a μ 31) k to q).toInt ∧ (upd (km_a μ 31) k to q).toInt ≤ 20) ∧ ∀ i : Nat, (i : Int) < (upd (km_a μ 31) k to q).toInt → (0 ≤ (F (20 * q + i)).toInt ∧ (F (20 * q + i)).toInt < 400) ∧ km_a μ 38 (F (20 * q + i)).toNatClampNeg = 1 ∧ 12 * (km_a μ 39 (F (20 * q + i)).toNatClampNeg).toInt + (km_a μ 40 (F (20 * q + i)).toNatClampNeg).toInt = (q : Int) ∧ ∀ j : Nat, (j : Int) < (upd (km_a μ 31) k to q).toInt → F (20 * q + j) = F (20 * q + i) → j = i
          by_cases e : q = k
          · subst e
            rw [A1]
            refine ⟨by omega, fun x hx => ?_⟩
            obtain ⟨b, hb, eb, _⟩ := f2 x hx
            have o := (n3 q hq).2 b (by omega)
            rw [← eb] at o
            exact ⟨o.1, o.2.1, o.2.2.1, fun j hj ej => f3 x j hx hj ej⟩
          · rw [A0 q e]
            have o := n3 q hq
            have same : ∀ x : Nat, (x : Int) < (km_a μ 31 q).toInt → F (20 * q + x) = km_a μ 32 (20 * q + x) := by
              intro x hx
              refine f1 _ ?_
              have : q < k ∨ k < q := by omega
              rcases this with t | t
              · left; omega
              · right; omega
            refine ⟨o.1, fun x hx => ?_⟩
            have o2 := o.2 x hx
            rw [same x hx]
            refine ⟨o2.1, o2.2.1, o2.2.2.1, fun j hj ej => ?_⟩
            rw [same j hj] at ej
            exact o2.2.2.2 j hj ej
        · intro q hq x hx
          by_cases e : q = k
          · subst e
            have hx' : (x : Int) < to.toInt := by
              have : (x : Int) < (upd (km_a μ 31) q to q).toInt := hx
              rw [A1] at this; exact this
            obtain ⟨b, hb, eb, nb⟩ := f2 x hx'
            show F (20 * q + x) ≠ g
            rw [eb]; exact nb
          · have hx' : (x : Int) < (km_a μ 31 q).toInt := by
              have : (x : Int) < (upd (km_a μ 31) k to q).toInt := hx
              rw [A0 q e] at this; exact this
            have o := n3 q hq
            have same : F (20 * q + x) = km_a μ 32 (20 * q + x) := by
              refine f1 _ ?_
              have : q < k ∨ k < q := by omega
              rcases this with t | t
              · left; omega
              · right; omega
            show F (20 * q + x) ≠ g
            rw [same]
            intro eg
            have o2 := (o.2 x hx').2.2.1
            rw [eg, ← egn, ← hat] at o2
            omega
        · intro q hq
          by_cases e : q = k
          · subst e; rw [A1]; omega
          · rw [A0 q e]; omega
      · have c' : i.toInt < (km_a μ 31 k).toInt := by
          have := fun h => c (ki_le.2 h)
          rw [← ek] at this
          have t : ¬ (km_a μ 31 k).toInt ≤ i.toInt := this
          omega
        have hi20 := ki_20 (k := K) (i := i) (by omega) (by omega) (by omega) (by omega)
        have ht20 := ki_20 (k := K) (i := to) (by omega) (by omega) (by omega) (by omega)
        have ii := ki_inc (a := i) (by omega) (by omega)
        have it := ki_inc (a := to) (by omega) (by omega)
        obtain ⟨x, ex⟩ : ∃ x, x = i.toNatClampNeg := ⟨_, rfl⟩
        have hx : (x : Int) = i.toInt := by rw [ex, ki_nat]; omega
        obtain ⟨y, ey⟩ : ∃ y, y = to.toNatClampNeg := ⟨_, rfl⟩
        have hy : (y : Int) = to.toInt := by rw [ey, ki_nat]; omega
        have pi : (20 * K + i).toNatClampNeg = 20 * k + x := by rw [ki_nat, hi20]; omega
        have pt : (20 * K + to).toNatClampNeg = 20 * k + y := by rw [ki_nat, ht20]; omega
        refine ⟨by rw [ki_in]; omega, fun v7 e7 => ?_⟩
        have e7' : v7 = km_a μ 32 (20 * k + x) := by
          rw [e7, pi]
          exact f1 _ (.inr (by omega))
        refine ⟨fun d => ⟨by rw [ki_in]; omega, fun μ10 e10 v11 e11 v12 e12 => ?_⟩, fun d v12 e12 => ?_⟩
        · rw [e10, kk_32, e11, e12, pt]
          refine ih (to + 1) (i + 1) _ (by omega) (by omega) (by omega) (by omega) ?_ ?_ ?_ (fun _ _ => trivial)
          · intro p hp
            rw [ku_ne (by omega)]
            exact f1 p (by omega)
          · intro a ha
            by_cases e : a = y
            · refine ⟨x, by omega, ?_, ?_⟩
              · rw [e, ku_self, e7']
              · rw [← e7']; exact d
            · obtain ⟨b, hb, eb, nb⟩ := f2 a (by omega)
              refine ⟨b, by omega, ?_, nb⟩
              rw [ku_ne (by omega)]; exact eb
          · have dist : ∀ a : Nat, (a : Int) < to.toInt → F (20 * k + a) ≠ v7 := by
              intro a ha ea
              obtain ⟨b, hb, eb, nb⟩ := f2 a ha
              rw [eb, e7'] at ea
              have := ((n3 k hk120).2 x (by omega)).2.2.2 b (by omega) ea
              omega
            intro a c2 ha hc2 ee
            by_cases e : a = y
            · by_cases f : c2 = y
              · omega
              · rw [e, ku_self, ku_ne (by omega)] at ee
                exact absurd ee (dist c2 (by omega))
            · by_cases f : c2 = y
              · rw [f, ku_self, ku_ne (by omega)] at ee
                exact absurd ee.symm (dist a (by omega))
              · rw [ku_ne (by omega), ku_ne (by omega)] at ee
                exact f3 a c2 (by omega) (by omega) ee
        · rw [e12]
          refine ih to (i + 1) F (by omega) (by omega) (by omega) (by omega) f1 ?_ f3 (fun _ _ => trivial)
          intro a ha
          obtain ⟨b, hb, eb, nb⟩ := f2 a ha
          exact ⟨b, by omega, eb, nb⟩
  have := L 30 0 0 (km_a μ 32) (by decide) (by decide) (by rw [ki_z0]; omega) (by rw [ki_z0]; omega) (fun _ _ => rfl) (fun a ha => by rw [ki_z0] at ha; omega) (fun a c ha => by rw [ki_z0] at ha; omega) (fun _ _ => trivial)
  rw [kk_id] at this
  exact this
