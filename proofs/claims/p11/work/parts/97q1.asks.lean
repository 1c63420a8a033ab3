/-! what is asked: the answers, once for both (none: there is no such thing) -/
abbrev in_ (l : Int32) (n : Nat) : Prop := 0 ≤ l.toInt ∧ l.toInt < (n : Int)
theorem in_of {l : Int32} {n q : Nat} (h : l.toInt = (q : Int)) (hq : q < n) : in_ l n := ⟨by omega, by omega⟩
def an_wants (no : Nat) (a : ra_T) (l : Int32) : Option Int32 := if in_ l no then some (a.1 50 l.toNatClampNeg) else none
def fl_ (w : Int32) : Option Nat := if w = 0 then some 35 else if w = 1 then some 36 else if w = 2 then some 37 else if w = 3 then some 38 else if w = 4 then some 39 else if w = 5 then some 40 else if w = 6 then some 41 else if w = 7 then some 42 else none
def an_log (nl : Nat) (a : ra_T) (l w : Int32) : Option Int32 := if in_ l nl then (fl_ w).map (fun f => a.1 f l.toNatClampNeg) else none
def b01_ (v : Int32) : Int32 := if v = 0 then 0 else 1
def an_cell (nr : Nat) (a : ra_T) (r c w : Int32) : Option Int32 := if in_ r nr ∧ in_ c (ln_ a r.toNatClampNeg) then (if w = 0 then some (nI (a.2 (12 * r.toNatClampNeg + c.toNatClampNeg)).length) else if w = 1 then some (b01_ (a.1 33 (12 * r.toNatClampNeg + c.toNatClampNeg))) else if w = 2 then some (b01_ (a.1 34 (12 * r.toNatClampNeg + c.toNatClampNeg))) else none) else none
def at_ (L : List Nat) (i : Int32) : Int32 := if 0 ≤ i.toInt then (match L[i.toNatClampNeg]? with
  | some x => nI x
  | none => -1) else -1
def an_inCell (nr : Nat) (a : ra_T) (r c i : Int32) : Option Int32 := if in_ r nr ∧ in_ c (ln_ a r.toNatClampNeg) then some (at_ (a.2 (12 * r.toNatClampNeg + c.toNatClampNeg)) i) else none
def an_heap (nr : Nat) (a : ra_T) (r i : Int32) : Option Int32 := if in_ r nr then (if a.1 22 r.toNatClampNeg = 0 then some (-1) else if i = -1 then some (nI (a.2 (120 + r.toNatClampNeg)).length) else some (at_ (a.2 (120 + r.toNatClampNeg)) i)) else none
def an_water (nr : Nat) (a : ra_T) (w : wt_T) (r i : Int32) : Option Int32 := if in_ r nr then (if i = 0 then some (w.2.2.2.1 r.toNatClampNeg) else if i = 1 then some (w.2.2.2.2.1 r.toNatClampNeg) else if i = 2 then some (if a.1 21 r.toNatClampNeg = 0 then -1 else w.2.2.1 r.toNatClampNeg) else if i = 3 then some (w.1 r.toNatClampNeg) else if i = 4 then some (nI (ln_ a r.toNatClampNeg)) else none) else none
theorem fl_no {w : Int32} (h0 : ¬ w = 0) (h1 : ¬ w = 1) (h2 : ¬ w = 2) (h3 : ¬ w = 3) (h4 : ¬ w = 4) (h5 : ¬ w = 5) (h6 : ¬ w = 6) (h7 : ¬ w = 7) : fl_ w = none := by
  unfold fl_
  rw [if_neg h0, if_neg h1, if_neg h2, if_neg h3, if_neg h4, if_neg h5, if_neg h6, if_neg h7]
theorem ki_pred {x : Int32} {n : Nat} (h : x.toInt = (n : Int)) (hb : n ≤ 100000) : (x - 1).toInt = (n : Int) - 1 := by
  rw [ki_sub (by rw [h, ki_z1]; omega) (by rw [h, ki_z1]; omega), h, ki_z1]
theorem nI_w {x : Int32} {n : Nat} (h : x.toInt = (n : Int)) (hb : n ≤ 500) : x = nI n := nI_at h hb
section
variable {T : Nat → Nat → Nat} {N : Nat → Nat} {g κ : Nat → Nat} {st na nr nl nc no m : Nat} {day : Nat → Int32} {RL : Nat → List (Bool × List Int32)} {s : sz_T} {B n : Nat} {a : ra_T} {w : wt_T} {σ : kx_S}
/-! the class -/
theorem vq_reachAt {l : Int32} {Q : Nat → kx_S → Prop} {QX : String → kx_S → Prop} (h10 : nr ≤ 10) (J : yJ_ s g κ B n σ) (h1 : q1_ T (g 1) nr a σ) (k1 : ∀ q : Nat, l.toInt = (q : Int) → q < nr → Q (T 10 q) σ) (k0 : ¬ in_ l nr → QX pz_N (xbump σ)) : vX11_reachAt (g 0) l σ Q QX := by
  unfold vX11_reachAt
  intro _ a2 e2 _
  obtain rfl := Option.some.inj ((yg1 J).1.symm.trans e2)
  unfold vJx4a65c_size_8abf5
  intro _
  have hs := ki_pred h1.1 (by omega)
  refine vy_within (fun d => ⟨fun x => absurd rfl x, fun _ _ => k0 (fun q => d ?_)⟩) (fun c1 c2 => ⟨fun _ _ a11 e11 _ => ?_, fun x => absurd x (by decide)⟩)
  · rw [ki_z0, hs]
    exact ⟨q.1, by have := q.2; omega⟩
  · rw [ki_z0] at c1
    rw [hs] at c2
    obtain rfl := Option.some.inj ((yg1 J).1.symm.trans e11)
    obtain ⟨q, hq⟩ : ∃ q : Nat, l.toInt = (q : Int) := ⟨l.toInt.toNat, by omega⟩
    refine vy_get (fun _ _ => ?_)
    rw [ki_toN hq, ((h1.2 q (by omega)).1).1]
    intro a16 e16 _
    obtain rfl := Option.some.inj e16
    exact k1 q hq (by omega)
theorem vq_logAt {l : Int32} {Q : Nat → kx_S → Prop} {QX : String → kx_S → Prop} (h4b : nl ≤ 400) (J : yJ_ s g κ B n σ) (h4 : q4_ T (g 2) nl a σ) (k1 : ∀ q : Nat, l.toInt = (q : Int) → q < nl → Q (T 8 q) σ) (k0 : ¬ in_ l nl → QX pz_N (xbump σ)) : vX11_logAt (g 0) l σ Q QX := by
  unfold vX11_logAt
  intro _ a2 e2 _
  obtain rfl := Option.some.inj ((yg2 J).1.symm.trans e2)
  unfold vJx4a65c_size_8abf5
  intro _
  have hs := ki_pred h4.1 (by omega)
  refine vy_within (fun d => ⟨fun x => absurd rfl x, fun _ _ => k0 (fun q => d ?_)⟩) (fun c1 c2 => ⟨fun _ _ a11 e11 _ => ?_, fun x => absurd x (by decide)⟩)
  · rw [ki_z0, hs]
    exact ⟨q.1, by have := q.2; omega⟩
  · rw [ki_z0] at c1
    rw [hs] at c2
    obtain rfl := Option.some.inj ((yg2 J).1.symm.trans e11)
    obtain ⟨q, hq⟩ : ∃ q : Nat, l.toInt = (q : Int) := ⟨l.toInt.toNat, by omega⟩
    refine vy_get (fun _ _ => ?_)
    rw [ki_toN hq, ((h4.2 q (by omega)).1).1]
    intro a16 e16 _
    obtain rfl := Option.some.inj e16
    exact k1 q hq (by omega)
theorem vq_checkCell {r : Nat} {c : Int32} {Q : kx_S → Prop} {QX : String → kx_S → Prop} (h1 : q1_ T (g 1) nr a σ) (hr : r < nr) (k1 : ∀ q : Nat, c.toInt = (q : Int) → q < ln_ a r → Q σ) (k0 : ¬ in_ c (ln_ a r) → QX pz_N (xbump σ)) : vX11_checkCell (T 10 r) c σ Q QX := by
  obtain ⟨_, _, _, _, _, b1, b2, b3, b4, b5⟩ := h1.2 r hr
  unfold vX11_checkCell
  intro _ a2 e2 _
  obtain rfl := Option.some.inj (b1.symm.trans e2)
  unfold vJx4a65c_size_8abf5
  intro _
  have hs := ki_pred b3 (by omega)
  refine vy_within (fun d => ⟨fun x => absurd rfl x, fun _ _ => k0 (fun q => d ?_)⟩) (fun c1 c2 => ⟨fun _ => ?_, fun x => absurd x (by decide)⟩)
  · rw [ki_z0, hs]
    exact ⟨q.1, by have := q.2; omega⟩
  · rw [ki_z0] at c1
    rw [hs] at c2
    obtain ⟨q, hq⟩ : ∃ q : Nat, c.toInt = (q : Int) := ⟨c.toInt.toNat, by omega⟩
    exact k1 q hq (by omega)
theorem vq_numberAt {k : Nat} {i : Int32} {Q : Int32 → kx_S → Prop} (hk : vk_ nr a k) (hl : (a.2 k).length ≤ 100) (h3 : q3_ T nr a σ) (h4 : q4_ T (g 2) nl a σ) (A2 : ∀ x, x ∈ a.2 k → x < nl) (l4 : nl ≤ 400) (kk : Q (at_ (a.2 k) i) σ) : vX11_numberAt (T 1 k) i σ Q := by
  obtain ⟨d1, d2, d3⟩ := h3 k hk
  unfold vX11_numberAt
  intro _
  unfold vJx4a65c_size_8abf5
  intro _
  have hs := ki_pred d2 (by omega)
  refine vy_within (fun d => ⟨fun _ => ?_, fun x => absurd rfl x⟩) (fun c1 c2 => ⟨fun x => absurd x (by decide), fun _ _ => ?_⟩)
  · rw [ki_z0, hs] at d
    have e : at_ (a.2 k) i = -1 := by
      unfold at_
      split
      · next h0 =>
        have : (a.2 k)[i.toNatClampNeg]? = none := by
          rw [List.getElem?_eq_none_iff, ki_nat]
          omega
        rw [this]
      · rfl
    rw [e] at kk
    exact kk
  · rw [ki_z0] at c1
    rw [hs] at c2
    obtain ⟨q, hq⟩ : ∃ q : Nat, i.toInt = (q : Int) := ⟨i.toInt.toNat, by omega⟩
    have hlt : q < (a.2 k).length := by omega
    have hx : (a.2 k)[q]? = some ((a.2 k)[q]) := List.getElem?_eq_getElem hlt
    refine vy_get (fun _ _ => ?_)
    rw [ki_toN hq, d3 q _ hx]
    intro a10 e10 _
    obtain rfl := Option.some.inj e10
    have hxl := A2 _ (List.getElem_mem hlt)
    have e128 := (h4.2 _ hxl).2.1
    have e : at_ (a.2 k) i = xi σ 128 (T 8 ((a.2 k)[q])) := by
      unfold at_
      rw [if_pos c1, ki_toN hq, hx]
      exact (nI_w e128 (by omega)).symm
    rw [e] at kk
    exact kk
theorem vq_wants {l : Int32} {Q : Int32 → kx_S → Prop} {QX : String → kx_S → Prop} (J : yJ_ s g κ B n σ) (h6 : q6_ T N (g 5) nr no a σ) (k1 : ∀ v, an_wants no a l = some v → Q v σ) (k0 : an_wants no a l = none → QX pz_N (xbump σ)) : vX11_wants (g 0) l σ Q QX := by
  unfold vX11_wants
  intro _ a2 e2 _
  obtain rfl := Option.some.inj ((yg5 J).1.symm.trans e2)
  unfold vJx4a65c_size_8abf5
  intro _
  have hs := ki_pred h6.1 (by have := h6.2.1; omega)
  refine vy_within (fun d => ⟨fun x => absurd rfl x, fun _ _ => k0 (if_neg (fun q => d ?_))⟩) (fun c1 c2 => ⟨fun _ _ a11 e11 _ => ?_, fun x => absurd x (by decide)⟩)
  · rw [ki_z0, hs]
    exact ⟨q.1, by have := q.2; omega⟩
  · rw [ki_z0] at c1
    rw [hs] at c2
    obtain rfl := Option.some.inj ((yg5 J).1.symm.trans e11)
    obtain ⟨q, hq⟩ : ∃ q : Nat, l.toInt = (q : Int) := ⟨l.toInt.toNat, by omega⟩
    obtain ⟨⟨b1, b2⟩, _, _, b5, _⟩ := h6.2.2.1 q (by omega)
    refine vy_get (fun _ _ => ?_)
    rw [ki_toN hq, b1]
    intro a16 e16 _
    obtain rfl := Option.some.inj e16
    rw [b5]
    refine k1 _ ?_
    unfold an_wants
    rw [if_pos (in_of hq (by omega)), ki_toN hq]
theorem vq_log {l i : Int32} {Q : Int32 → kx_S → Prop} {QX : String → kx_S → Prop} (l4 : nl ≤ 400) (J : yJ_ s g κ B n σ) (h4 : q4_ T (g 2) nl a σ) (k1 : ∀ v, an_log nl a l i = some v → Q v σ) (k0 : an_log nl a l i = none → QX pz_N (xbump σ)) : vX11_log (g 0) l i σ Q QX := by
  unfold vX11_log
  intro _
  refine vq_logAt l4 J h4 (fun q hq hlt => ?_) (fun h => k0 (if_neg h))
  obtain ⟨_, _, ⟨b1, b2, b3⟩, b4, b5, b6, b7, b8⟩ := h4.2 q hlt
  have z : ∀ {f : Nat}, fl_ i = some f → an_log nl a l i = some (a.1 f q) := fun {f} e => by
    unfold an_log
    rw [if_pos (in_of hq hlt), e, ki_toN hq]
    rfl
  rintro v4 rfl
  rw [b1, b2, b3, b4, b5, b6, b7, b8]
  refine ⟨fun c _ => k1 _ (z (by rw [c]; decide)), fun c _ => k1 _ (z (by rw [c]; decide)), fun c _ => k1 _ (z (by rw [c]; decide)), fun c _ => k1 _ (z (by rw [c]; decide)), fun c _ => k1 _ (z (by rw [c]; decide)), fun c _ => k1 _ (z (by rw [c]; decide)), fun c _ => k1 _ (z (by rw [c]; decide)), fun c _ => k1 _ (z (by rw [c]; decide)), fun h0 h1 h2 h3 h4 h5 h6 h7 _ => k0 ?_⟩
  unfold an_log
  rw [if_pos (in_of hq hlt), fl_no h0 h1 h2 h3 h4 h5 h6 h7]
  rfl
theorem vq_cellAt {r c : Int32} {Q : Nat → Nat → kx_S → Prop} {QX : String → kx_S → Prop} {P : Nat → kx_S → Prop} (h10 : nr ≤ 10) (H : qa_ T N g κ st na nr nl m day RL s B n a σ) (k0 : ¬ (in_ r nr ∧ in_ c (ln_ a r.toNatClampNeg)) → QX pz_N (xbump σ)) (k1 : ∀ q p : Nat, r.toInt = (q : Int) → c.toInt = (p : Int) → q < nr → p < ln_ a q → P (T 3 (12 * q + p)) σ) : vX11_reachAt (g 0) r σ (fun b2 σ1 => vX11_checkCell b2 c σ1 (fun σ4 => xt σ4 b2 = 10 → ∀ a6, xr σ4 163 b2 = some a6 → xt σ4 a6 = 1 → vJx4a65c_get_915e3 a6 c σ4 (fun q9 σ8 => ∀ a11, q9 = some a11 → xt σ8 a11 = 3 → P a11 σ8)) QX) QX := by
  obtain ⟨J, h0, h1, h2, h3, h4, h7, hj⟩ := H
  refine vq_reachAt h10 J h1 (fun q hq hlt => ?_) (fun h => k0 (fun z => h z.1))
  obtain ⟨_, _, _, _, _, b1, b2, b3, b4, b5⟩ := h1.2 q hlt
  refine vq_checkCell h1 hlt (fun p hp hpl => ?_) (fun h => k0 (fun z => h (by have := z.2; rw [ki_toN hq] at this; exact this)))
  intro _ a6 e6 _
  obtain rfl := Option.some.inj (b1.symm.trans e6)
  refine vy_get (fun _ _ => ?_)
  rw [ki_toN hp, ((h2 q hlt p hpl).1).1]
  intro a11 e11 _
  obtain rfl := Option.some.inj e11
  exact k1 q p hq hp hlt hpl
theorem vq_cell0 {r c i : Int32} {Q : Int32 → kx_S → Prop} {QX : String → kx_S → Prop} (h10 : nr ≤ 10) (A : ao_ nr nl a) (H : qa_ T N g κ st na nr nl m day RL s B n a σ) (k1 : ∀ v, an_cell nr a r c i = some v → Q v σ) (k0 : an_cell nr a r c i = none → QX pz_N (xbump σ)) : vX11_cell (g 0) r c i σ Q QX := by
  have HH := H
  obtain ⟨J, h0, h1, h2, h3, h4, h7, hj⟩ := H
  unfold vX11_cell
  intro _
  refine vq_cellAt (Q := fun _ _ _ => True) h10 HH (fun h => k0 (if_neg h)) (fun q p hq hp hlt hpl => ?_)
  obtain ⟨_, c3, c4, c5, c6⟩ := h2 q hlt p hpl
  obtain ⟨d1, d2, d3⟩ := h3 _ (vk_cell hlt hpl)
  have hin : in_ r nr ∧ in_ c (ln_ a r.toNatClampNeg) := ⟨in_of hq hlt, by rw [ki_toN hq]; exact in_of hp hpl⟩
  have ea : an_cell nr a r c i = if i = 0 then some (nI (a.2 (12 * q + p)).length) else if i = 1 then some (b01_ (a.1 33 (12 * q + p))) else if i = 2 then some (b01_ (a.1 34 (12 * q + p))) else none := by
    unfold an_cell
    rw [if_pos hin, ki_toN hq, ki_toN hp]
  have n20 : (a.2 (12 * q + p)).length ≤ 20 := by
    have := (A.2.2.2.1 q p hlt hpl).1
    have := (A.1 q hlt).2.2.1.2
    omega
  rintro v14 rfl
  refine ⟨fun c0 => ?_, fun c1 => ?_, fun c2 => ?_, fun n0 n1 n2 _ => k0 ?_⟩
  · intro a16 e16 _
    obtain rfl := Option.some.inj (c4.symm.trans e16)
    unfold vJx4a65c_size_8abf5
    intro _
    refine k1 _ ?_
    rw [ea, if_pos c0, nI_w d2 (by omega)]
  · rw [c5]
    refine ⟨fun z => k1 _ ?_, fun z => k1 _ ?_⟩
    · rw [ea, c1, if_neg (by decide), if_pos rfl]
      unfold b01_
      rw [if_pos z]
    · rw [ea, c1, if_neg (by decide), if_pos rfl]
      unfold b01_
      rw [if_neg z]
  · rw [c6]
    refine ⟨fun z => k1 _ ?_, fun z => k1 _ ?_⟩
    · rw [ea, c2, if_neg (by decide), if_neg (by decide), if_pos rfl]
      unfold b01_
      rw [if_pos z]
    · rw [ea, c2, if_neg (by decide), if_neg (by decide), if_pos rfl]
      unfold b01_
      rw [if_neg z]
  · rw [ea, if_neg n0, if_neg n1, if_neg n2]
theorem vq_inCell {r c i : Int32} {Q : Int32 → kx_S → Prop} {QX : String → kx_S → Prop} (h10 : nr ≤ 10) (l4 : nl ≤ 400) (A : ao_ nr nl a) (H : qa_ T N g κ st na nr nl m day RL s B n a σ) (k1 : ∀ v, an_inCell nr a r c i = some v → Q v σ) (k0 : an_inCell nr a r c i = none → QX pz_N (xbump σ)) : vX11_inCell (g 0) r c i σ Q QX := by
  have HH := H
  obtain ⟨J, h0, h1, h2, h3, h4, h7, hj⟩ := H
  unfold vX11_inCell
  intro _
  refine vq_cellAt (Q := fun _ _ _ => True) h10 HH (fun h => k0 (if_neg h)) (fun q p hq hp hlt hpl => ?_)
  obtain ⟨_, c3, c4, c5, c6⟩ := h2 q hlt p hpl
  have hin : in_ r nr ∧ in_ c (ln_ a r.toNatClampNeg) := ⟨in_of hq hlt, by rw [ki_toN hq]; exact in_of hp hpl⟩
  have n20 : (a.2 (12 * q + p)).length ≤ 20 := by
    have := (A.2.2.2.1 q p hlt hpl).1
    have := (A.1 q hlt).2.2.1.2
    omega
  intro a14 e14
  obtain rfl := Option.some.inj (c4.symm.trans e14)
  refine vq_numberAt (vk_cell hlt hpl) (by omega) h3 h4 (fun x hx => (A.2.1 _ x hx).1) l4 (k1 _ ?_)
  unfold an_inCell
  rw [if_pos hin, ki_toN hq, ki_toN hp]
theorem vq_heap {r i : Int32} {Q : Int32 → kx_S → Prop} {QX : String → kx_S → Prop} (h10 : nr ≤ 10) (l4 : nl ≤ 400) (A : ao_ nr nl a) (H : qa_ T N g κ st na nr nl m day RL s B n a σ) (k1 : ∀ v, an_heap nr a r i = some v → Q v σ) (k0 : an_heap nr a r i = none → QX pz_N (xbump σ)) : vX11_heap (g 0) r i σ Q QX := by
  obtain ⟨J, h0, h1, h2, h3, h4, h7, hj⟩ := H
  unfold vX11_heap
  intro _
  refine vq_reachAt h10 J h1 (fun q hq hlt => ?_) (fun h => k0 (if_neg h))
  obtain ⟨_, _, _, _, b172, _⟩ := h1.2 q hlt
  have ea : an_heap nr a r i = if a.1 22 q = 0 then some (-1) else if i = -1 then some (nI (a.2 (120 + q)).length) else some (at_ (a.2 (120 + q)) i) := by
    unfold an_heap
    rw [if_pos (in_of hq hlt), ki_toN hq]
  intro _
  refine ⟨fun a6 e6 => ?_, fun e6 => k1 _ ?_⟩
  · obtain ⟨z0, z1, z2, z3, _⟩ : ¬ a.1 22 q = 0 ∧ xr σ 172 (T 10 q) = some (T 2 q) ∧ xt σ (T 2 q) = 2 ∧ xr σ 32 (T 2 q) = some (T 1 (120 + q)) ∧ True := by
      rcases b172 with z | z
      · rw [z.1] at e6; exact absurd e6 (by simp)
      · exact ⟨z.1, z.2.1, z.2.2.1, z.2.2.2.1, trivial⟩
    have vk : vk_ nr a (120 + q) := .inr ⟨q, hlt, z0, rfl⟩
    have n100 : (a.2 (120 + q)).length ≤ 100 := by have := (A.2.2.2.2.1 q hlt).1; omega
    refine ⟨fun c a8 e8 _ a11 e11 => ?_, fun c a15 e15 _ a18 e18 _ => ?_⟩
    · obtain rfl := Option.some.inj (z1.symm.trans e8)
      obtain rfl := Option.some.inj (z3.symm.trans e11)
      refine vq_numberAt vk n100 h3 h4 (fun x hx => (A.2.1 _ x hx).1) l4 (k1 _ ?_)
      rw [ea, if_neg z0, if_neg c]
    · obtain rfl := Option.some.inj (z1.symm.trans e15)
      obtain rfl := Option.some.inj (z3.symm.trans e18)
      unfold vJx4a65c_size_8abf5
      intro _
      refine k1 _ ?_
      rw [ea, if_neg z0, if_pos c, nI_w (h3 _ vk).2.1 (by omega)]
  · have z0 : a.1 22 q = 0 := by
      rcases b172 with z | ⟨_, z, _⟩
      · exact z.2
      · rw [z] at e6; exact absurd e6 (by simp)
    rw [ea, if_pos z0]
theorem vq_water {r i : Int32} {Q : Int32 → kx_S → Prop} {QX : String → kx_S → Prop} (h10 : nr ≤ 10) (hs : s.1.1.toInt = (nr : Int)) (V : Yw_ nr w (g 0) σ) (H : qa_ T N g κ st na nr nl m day RL s B n a σ) (k1 : ∀ v, an_water nr a w r i = some v → Q v σ) (k0 : an_water nr a w r i = none → QX pz_N (xbump σ)) : vX11_water (g 0) r i σ Q QX := by
  obtain ⟨J, h0, h1, h2, h3, h4, h7, hj⟩ := H
  obtain ⟨ad, y⟩ := V
  unfold vX11_water
  intro _
  refine vq_reachAt h10 J h1 (fun q hq hlt => ?_) (fun h => k0 (if_neg h))
  obtain ⟨⟨b0, b00⟩, b160, ⟨b4, b5, b6, b7, b8⟩, b9, b10, b11, b12, b13, b14⟩ := h1.2 q hlt
  obtain ⟨y1, y2, y3, y4, y5, y6⟩ := y.2.1 q hlt
  have ead : ∀ p, p < nr → ad p = T 10 p := fun p hp => Option.some.inj ((yw_at J hs y hp).1.symm.trans ((h1.2 p hp).1).1)
  rw [ead q hlt] at y1 y2 y3 y4 y5 y6
  have ea : an_water nr a w r i = if i = 0 then some (w.2.2.2.1 q) else if i = 1 then some (w.2.2.2.2.1 q) else if i = 2 then some (if a.1 21 q = 0 then -1 else w.2.2.1 q) else if i = 3 then some (w.1 q) else if i = 4 then some (nI (ln_ a q)) else none := by
    unfold an_water
    rw [if_pos (in_of hq hlt), ki_toN hq]
  rintro v4 rfl
  refine ⟨fun c _ => k1 _ ?_, fun c _ => k1 _ ?_, fun c _ => ⟨fun z => k1 _ ?_, fun z => k1 _ ?_⟩, fun c _ => ⟨fun a15 _ a16 e16 _ => k1 _ ?_, fun e16 => k1 _ ?_⟩, fun c _ a21 e21 _ => ?_, fun n0 n1 n2 n3 n4 _ => k0 ?_⟩
  · rw [ea, if_pos c, y4]
  · rw [ea, c, if_neg (by decide), if_pos rfl, y5]
  · rw [b5] at z
    rw [ea, c, if_neg (by decide), if_neg (by decide), if_pos rfl, if_pos z]
  · rw [b5] at z
    rw [ea, c, if_neg (by decide), if_neg (by decide), if_pos rfl, if_neg z, y3]
  · rw [ea, c, if_neg (by decide), if_neg (by decide), if_neg (by decide), if_pos rfl]
    rcases y6 with z | ⟨p, p1, p2, p3⟩
    · rw [z.1] at e16; exact absurd e16 (by simp)
    · rw [p3] at e16
      obtain rfl := Option.some.inj e16
      have := (y.2.1 p (by omega)).1
      rw [ki_eq.2 (p1.trans this.symm)]
  · rw [ea, c, if_neg (by decide), if_neg (by decide), if_neg (by decide), if_pos rfl]
    rcases y6 with z | ⟨p, p1, p2, p3⟩
    · rw [z.2]
    · rw [p3] at e16; exact absurd e16 (by simp)
  · obtain rfl := Option.some.inj (b11.symm.trans e21)
    unfold vJx4a65c_size_8abf5
    intro _
    refine k1 _ ?_
    rw [ea, c, if_neg (by decide), if_neg (by decide), if_neg (by decide), if_neg (by decide), if_pos rfl, nI_w b13 (by omega)]
  · rw [ea, if_neg n0, if_neg n1, if_neg n2, if_neg n3, if_neg n4]
end
