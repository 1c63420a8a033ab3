/-! what a law says, told once for both -/
def e_join (c a b : Int32) : Int32 := if c = -8 then a + b else if c = -9 then a - b else if c = -10 then a * b else if c = -11 then (if b = 0 then 0 else a / b) else if c = -12 then (if b ≤ a then 0 else 1) else if c = -13 then (if a = b then 1 else 0) else if c = -14 then (if a = 0 then 0 else if b = 0 then 0 else 1) else (if a = 0 then (if b = 0 then 0 else 1) else 1)
abbrev e_T : Type := Nat × (Nat → Int32)
def e_st (nm : Nat → Int32) (s : e_T) (c : Int32) : e_T := if -8 < c.toInt then (s.1 + 1, upd s.2 s.1 (if 0 ≤ c.toInt then c else nm (-1 - c).toNatClampNeg)) else if c.toInt = -16 then (s.1, upd s.2 (s.1 - 1) (if s.2 (s.1 - 1) = 0 then 1 else 0)) else (s.1 - 1, upd s.2 (s.1 - 2) (e_join c (s.2 (s.1 - 2)) (s.2 (s.1 - 1))))
def e_run (nm : Nat → Int32) (L : List Int32) (s : e_T) : e_T := L.foldl (e_st nm) s
/-- the row never asks for what isn't there, nor goes above M; from d to e -/
def ed_ (M : Nat) : List Int32 → Nat → Nat → Prop
  | [], d, e => d = e
  | c :: L, d, e => if -8 < c.toInt then d < M ∧ ed_ M L (d + 1) e else if c.toInt = -16 then 1 ≤ d ∧ ed_ M L d e else -16 < c.toInt ∧ 2 ≤ d ∧ ed_ M L (d - 1) e
theorem ed_app {M : Nat} : ∀ (L L' : List Int32) (d e g : Nat), ed_ M L d e → ed_ M L' e g → ed_ M (L ++ L') d g := by
  intro L
  induction L with
  | nil => intro L' d e g h k; have h : d = e := h; rw [h]; exact k
  | cons c L ih =>
    intro L' d e g h k
    show ed_ M (c :: (L ++ L')) d g
    unfold ed_ at h ⊢
    split at h
    · next a => rw [if_pos a]; exact ⟨h.1, ih L' _ e g h.2 k⟩
    · next a =>
      rw [if_neg a]
      split at h
      · next b => rw [if_pos b]; exact ⟨h.1, ih L' _ e g h.2 k⟩
      · next b => rw [if_neg b]; exact ⟨h.1, h.2.1, ih L' _ e g h.2.2 k⟩
theorem ed_psh {M d : Nat} {c : Int32} (h : -8 < c.toInt) (k : d < M) : ed_ M [c] d (d + 1) := by
  unfold ed_
  rw [if_pos h]
  exact ⟨k, rfl⟩
theorem ed_bin {M d : Nat} {c : Int32} (h : ¬ -8 < c.toInt) (h2 : ¬ c.toInt = -16) (h3 : -16 < c.toInt) (k : 1 ≤ d) : ed_ M [c] (d + 1) d := by
  unfold ed_
  rw [if_neg h, if_neg h2]
  exact ⟨h3, by omega, rfl⟩
theorem ed_not {M d : Nat} {c : Int32} (h2 : c.toInt = -16) (k : 1 ≤ d) : ed_ M [c] d d := by
  unfold ed_
  rw [if_neg (by omega), if_pos h2]
  exact ⟨k, rfl⟩
/-- a piece of the grammar puts one more on the stack, and needs B of room -/
def pe_ (f : Nat → Int32) (n M B : Nat) (P : tk_T → pr_T) : Prop := ∀ t t' cs, tt_ f n t → P t = .inr (t', cs) → tt_ f n t' ∧ ∀ d, d + B ≤ M → ed_ M cs d (d + 1)
theorem p_bind_inv {r : pr_T} {k : tk_T → pr_T} {t' : tk_T} {cs : List Int32} (h : p_bind r k = .inr (t', cs)) : ∃ t1 c1 c2, r = .inr (t1, c1) ∧ k t1 = .inr (t', c2) ∧ cs = c1 ++ c2 := by
  cases r with
  | inl p => exact absurd h (by unfold p_bind; simp)
  | inr q =>
    obtain ⟨t1, c1⟩ := q
    cases e : k t1 with
    | inl p => rw [p_bind_l e] at h; exact absurd h (by simp)
    | inr q =>
      obtain ⟨t2, c2⟩ := q
      rw [p_bind_r e] at h
      have h := Sum.inr.inj h
      have h1 : t2 = t' := congrArg Prod.fst h
      have h2 : c1 ++ c2 = cs := congrArg Prod.snd h
      exact ⟨t1, c1, c2, rfl, by rw [← h1]; exact e, h2.symm⟩
theorem p_inr {t t' : tk_T} {cs ds : List Int32} (h : (.inr (t, cs) : pr_T) = .inr (t', ds)) : t = t' ∧ cs = ds := ⟨congrArg Prod.fst (Sum.inr.inj h), congrArg Prod.snd (Sum.inr.inj h)⟩
section
variable {f : Nat → Int32} {n M : Nat}
theorem pe_sg {b : Int32} {t t' : tk_T} {cs : List Int32} (ht : tt_ f n t) (h : p_sg f n b t = .inr (t', cs)) : tt_ f n t' ∧ cs = [] := by
  unfold p_sg at h
  split at h
  · obtain ⟨a, b⟩ := p_inr h
    rw [← a]
    exact ⟨(tt_adv ht).1, b.symm⟩
  · exact absurd h (by simp)
theorem p_nm_lo {t : tk_T} : -8 < (p_nm f t).toInt := by
  unfold p_nm
  repeat' split
  all_goals decide
theorem pe_part {B : Nat} {R : tk_T → pr_T} (h1 : 1 ≤ B) (hR : pe_ f n M B R) : pe_ f n M B (p_part f n R) := by
  intro t t' cs ht h
  unfold p_part at h
  split at h
  · next a =>
    split at h
    · exact absurd h (by simp)
    · next b =>
      obtain ⟨e1, e2⟩ := p_inr h
      rw [← e1, ← e2]
      have nn := t_num_lo (f := f) (t.2.2 - t.2.1) t.2.1 0 0 (by omega) (by decide) (by decide) (fun i a' b' => tt_dig ht a i a' (by omega))
      exact ⟨(tt_adv ht).1, fun d hd => ed_psh (by omega) (by omega)⟩
  · split at h
    · split at h
      · exact absurd h (by simp)
      · obtain ⟨e1, e2⟩ := p_inr h
        rw [← e1, ← e2]
        exact ⟨(tt_adv ht).1, fun d hd => ed_psh p_nm_lo (by omega)⟩
    · split at h
      · obtain ⟨t1, c1, c2, a1, a2, a3⟩ := p_bind_inv h
        obtain ⟨b1, b2⟩ := hR _ t1 c1 (tt_adv ht).1 a1
        obtain ⟨b3, b4⟩ := pe_sg b1 a2
        rw [a3, b4, List.append_nil]
        exact ⟨b3, b2⟩
      · exact absurd h (by simp)
/-- an operator after its second -/
theorem pe_put {B : Nat} {P : tk_T → pr_T} {v : Int32} {t t' : tk_T} {cs : List Int32} (hP : pe_ f n M B P) (h1 : ¬ -8 < v.toInt) (h2 : ¬ v.toInt = -16) (h3 : -16 < v.toInt) (ht : tt_ f n t) (h : p_bind (P t) (p_put v) = .inr (t', cs)) : tt_ f n t' ∧ ∀ d, 1 ≤ d → d + B ≤ M → ed_ M cs d d := by
  obtain ⟨t1, c1, c2, a1, a2, a3⟩ := p_bind_inv h
  obtain ⟨b1, b2⟩ := hP t t1 c1 ht a1
  obtain ⟨e1, e2⟩ := p_inr a2
  rw [← e1, a3, ← e2]
  exact ⟨b1, fun d hd hB => ed_app c1 [v] d (d + 1) d (b2 d hB) (ed_bin h1 h2 h3 hd)⟩
theorem pe_loop {B : Nat} {P : tk_T → pr_T} {op : tk_T → Int32} (hP : pe_ f n M B P) (ho : ∀ t, ¬ op t = 0 → ¬ -8 < (op t).toInt ∧ ¬ (op t).toInt = -16 ∧ -16 < (op t).toInt) : ∀ (m : Nat) (t t' : tk_T) (cs : List Int32), tt_ f n t → p_loop f n P op m t = .inr (t', cs) → tt_ f n t' ∧ ∀ d, 1 ≤ d → d + B ≤ M → ed_ M cs d d := by
  intro m
  induction m with
  | zero =>
    intro t t' cs ht h
    obtain ⟨e1, e2⟩ := p_inr h
    rw [← e1, ← e2]
    exact ⟨ht, fun d _ _ => rfl⟩
  | succ m ih =>
    intro t t' cs ht h
    have h : (if op t = 0 then .inr (t, []) else p_bind (p_bind (P (p_adv f n t)) (p_put (op t))) (p_loop f n P op m)) = (.inr (t', cs) : pr_T) := h
    split at h
    · obtain ⟨e1, e2⟩ := p_inr h
      rw [← e1, ← e2]
      exact ⟨ht, fun d _ _ => rfl⟩
    · next c =>
      obtain ⟨t1, c1, c2, a1, a2, a3⟩ := p_bind_inv h
      obtain ⟨o1, o2, o3⟩ := ho t c
      obtain ⟨b1, b2⟩ := pe_put hP o1 o2 o3 (tt_adv ht).1 a1
      obtain ⟨b3, b4⟩ := ih t1 t' c2 b1 a2
      rw [a3]
      exact ⟨b3, fun d hd hB => ed_app c1 c2 d d d (b2 d hd hB) (b4 d hd hB)⟩
theorem pe_seq {B : Nat} {P : tk_T → pr_T} {op : tk_T → Int32} {m : Nat} (hP : pe_ f n M B P) (ho : ∀ t, ¬ op t = 0 → ¬ -8 < (op t).toInt ∧ ¬ (op t).toInt = -16 ∧ -16 < (op t).toInt) : pe_ f n M (B + 1) (fun t => p_bind (P t) (p_loop f n P op m)) := by
  intro t t' cs ht h
  obtain ⟨t1, c1, c2, a1, a2, a3⟩ := p_bind_inv h
  obtain ⟨b1, b2⟩ := hP t t1 c1 ht a1
  obtain ⟨b3, b4⟩ := pe_loop hP ho m t1 t' c2 b1 a2
  rw [a3]
  exact ⟨b3, fun d hd => ed_app c1 c2 d (d + 1) (d + 1) (b2 d (by omega)) (b4 (d + 1) (by omega) (by omega))⟩
theorem pe_opT (t : tk_T) : ¬ p_opT t = 0 → ¬ -8 < (p_opT t).toInt ∧ ¬ (p_opT t).toInt = -16 ∧ -16 < (p_opT t).toInt := by
  unfold p_opT
  repeat' split
  all_goals (intro x; first | exact absurd rfl x | decide)
theorem pe_opS (t : tk_T) : ¬ p_opS t = 0 → ¬ -8 < (p_opS t).toInt ∧ ¬ (p_opS t).toInt = -16 ∧ -16 < (p_opS t).toInt := by
  unfold p_opS
  repeat' split
  all_goals (intro x; first | exact absurd rfl x | decide)
theorem pe_opC (t : tk_T) : ¬ p_opC t = 0 → ¬ -8 < (p_opC t).toInt ∧ ¬ (p_opC t).toInt = -16 ∧ -16 < (p_opC t).toInt := by
  unfold p_opC
  repeat' split
  all_goals (intro x; first | exact absurd rfl x | decide)
theorem pe_opE (t : tk_T) : ¬ p_opE f t = 0 → ¬ -8 < (p_opE f t).toInt ∧ ¬ (p_opE f t).toInt = -16 ∧ -16 < (p_opE f t).toInt := by
  unfold p_opE
  repeat' split
  all_goals (intro x; first | exact absurd rfl x | decide)
theorem pe_cmp {B : Nat} {R : tk_T → pr_T} (h1 : 1 ≤ B) (hR : pe_ f n M B R) : pe_ f n M (B + 3) (p_cmp f n R) := by
  have hs : pe_ f n M (B + 1 + 1) (p_sum f n R) := pe_seq (pe_seq (pe_part h1 hR) pe_opT) pe_opS
  intro t t' cs ht h
  obtain ⟨t1, c1, c2, a1, a2, a3⟩ := p_bind_inv h
  obtain ⟨b1, b2⟩ := hs t t1 c1 ht a1
  unfold p_cmp2 at a2
  split at a2
  · obtain ⟨e1, e2⟩ := p_inr a2
    rw [a3, ← e1, ← e2, List.append_nil]
    exact ⟨b1, fun d hd => b2 d (by omega)⟩
  · next c =>
    obtain ⟨o1, o2, o3⟩ := pe_opC t1 c
    obtain ⟨b3, b4⟩ := pe_put hs o1 o2 o3 (tt_adv b1).1 a2
    rw [a3]
    exact ⟨b3, fun d hd => ed_app c1 c2 d (d + 1) (d + 1) (b2 d (by omega)) (b4 (d + 1) (by omega) (by omega))⟩
theorem pe_test {B : Nat} {R : tk_T → pr_T} (h1 : 1 ≤ B) (hR : pe_ f n M B R) : pe_ f n M (B + 3) (p_test f n R) := by
  intro t t' cs ht h
  unfold p_test at h
  split at h
  · obtain ⟨t1, c1, c2, a1, a2, a3⟩ := p_bind_inv h
    obtain ⟨b1, b2⟩ := pe_cmp h1 hR _ t1 c1 (tt_adv ht).1 a1
    obtain ⟨e1, e2⟩ := p_inr a2
    rw [a3, ← e1, ← e2]
    exact ⟨b1, fun d hd => ed_app c1 _ d (d + 1) (d + 1) (b2 d hd) (ed_not (by decide) (by omega))⟩
  · exact pe_cmp h1 hR t t' cs ht h
theorem pe_expr : ∀ d : Nat, pe_ f n M (4 * d + 1) (p_expr f n d) := by
  intro d
  induction d with
  | zero => intro t t' cs ht h; exact absurd h (by show ¬ (.inl t.2.1 : pr_T) = _; simp)
  | succ d ih => exact pe_seq (pe_test (by omega) ih) pe_opE
theorem pe_rule {i : Nat} {t t' : tk_T} {cs : List Int32} (ht : tt_ f n t) (h : p_rule f n i t = .inr (t', cs)) : tt_ f n t' ∧ ed_ 33 cs 0 1 := by
  unfold p_rule at h
  split at h
  · split at h
    · exact absurd h (by simp)
    · obtain ⟨t1, c1, c2, a1, a2, a3⟩ := p_bind_inv h
      obtain ⟨b1, b2⟩ := pe_expr (f := f) (n := n) (M := 33) 8 _ t1 c1 (tt_adv ht).1 a1
      obtain ⟨b3, b4⟩ := pe_sg b1 a2
      rw [a3, b4, List.append_nil]
      exact ⟨b3, b2 0 (by omega)⟩
  · exact absurd h (by simp)
theorem pe_text : ∀ (m i : Nat) (t : tk_T) (rs : List (Bool × List Int32)), tt_ f n t → p_text f n m i t = .inr rs → ∀ r ∈ rs, ed_ 33 r.2 0 1 := by
  intro m
  induction m with
  | zero =>
    intro i t rs _ h
    have h : ([] : List (Bool × List Int32)) = rs := Sum.inr.inj h
    rw [← h]
    intro r hr
    exact absurd hr (List.not_mem_nil)
  | succ m ih =>
    intro i t rs ht h
    unfold p_text at h
    split at h
    · have h := Sum.inr.inj h
      rw [← h]
      intro r hr
      exact absurd hr (List.not_mem_nil)
    · cases e : p_rule f n i t with
      | inl p => rw [e] at h; exact absurd h (by simp)
      | inr q =>
        obtain ⟨t2, cs⟩ := q
        rw [e] at h
        obtain ⟨b1, b2⟩ := pe_rule ht e
        cases e2 : p_text f n m (i + 1) t2 with
        | inl p =>
          have h : (match p_text f n m (i + 1) t2 with
            | .inl p => (.inl p : pt_T)
            | .inr rs => .inr ((t_wd f t 7, cs) :: rs)) = .inr rs := h
          rw [e2] at h
          exact absurd h (by simp)
        | inr rs2 =>
          have h : (match p_text f n m (i + 1) t2 with
            | .inl p => (.inl p : pt_T)
            | .inr rs => .inr ((t_wd f t 7, cs) :: rs)) = .inr rs := h
          rw [e2] at h
          have h : (t_wd f t 7, cs) :: rs2 = rs := Sum.inr.inj h
          rw [← h]
          intro r hr
          rcases List.mem_cons.1 hr with q | q
          · rw [q]; exact b2
          · exact ih (i + 1) t2 rs2 b1 e2 r q
end
/-! values -/
theorem e_div (a : Int32) : a / (-1) = -a := by
  have z : (-1 : Int32).toInt = -1 := by decide
  have e1 : (a / (-1)).toInt = (a.toInt.tdiv (-1 : Int32).toInt).bmod (2 ^ 32) := Int32.toInt_div a (-1)
  have e2 : (-a).toInt = (-a.toInt).bmod (2 ^ 32) := Int32.toInt_neg a
  rw [ki_eq, e1, z, e2, Int.tdiv_neg, Int.tdiv_one]
/-- below its height two stacks are the same -/
def e_eq (s s' : e_T) : Prop := s.1 = s'.1 ∧ ∀ i, i < s.1 → s.2 i = s'.2 i
theorem e_run_ext {nm : Nat → Int32} {M : Nat} : ∀ (L : List Int32) (s s' : e_T) (e : Nat), ed_ M L s.1 e → e_eq s s' → e_eq (e_run nm L s) (e_run nm L s') ∧ (e_run nm L s).1 = e := by
  intro L
  induction L with
  | nil => intro s s' e h k; exact ⟨k, h⟩
  | cons c L ih =>
    intro s s' e h k
    obtain ⟨k1, k2⟩ := k
    show e_eq (e_run nm L (e_st nm s c)) (e_run nm L (e_st nm s' c)) ∧ (e_run nm L (e_st nm s c)).1 = e
    unfold ed_ at h
    unfold e_st
    split at h
    · next a =>
      rw [if_pos a, if_pos a]
      refine ih _ _ e h.2 ⟨by show s.1 + 1 = s'.1 + 1; rw [k1], fun i hi => ?_⟩
      have hi : i < s.1 + 1 := hi
      show upd s.2 s.1 _ i = upd s'.2 s'.1 _ i
      rw [← k1]
      by_cases q : i = s.1
      · rw [q, w_updS, w_updS]
      · rw [w_updN q, w_updN q]; exact k2 i (by omega)
    · next a =>
      rw [if_neg a, if_neg a]
      split at h
      · next b =>
        rw [if_pos b, if_pos b]
        refine ih _ _ e h.2 ⟨k1, fun i hi => ?_⟩
        have hi : i < s.1 := hi
        show upd s.2 (s.1 - 1) _ i = upd s'.2 (s'.1 - 1) _ i
        have h1 := h.1
        rw [← k1, k2 (s.1 - 1) (by omega)]
        by_cases q : i = s.1 - 1
        · rw [q, w_updS, w_updS]
        · rw [w_updN q, w_updN q]; exact k2 i hi
      · next b =>
        rw [if_neg b, if_neg b]
        have h1 := h.2.1
        refine ih _ _ e h.2.2 ⟨by show s.1 - 1 = s'.1 - 1; rw [k1], fun i hi => ?_⟩
        have hi : i < s.1 - 1 := hi
        show upd s.2 (s.1 - 2) _ i = upd s'.2 (s'.1 - 2) _ i
        rw [← k1, k2 (s.1 - 1) (by omega), k2 (s.1 - 2) (by omega)]
        by_cases q : i = s.1 - 2
        · rw [q, w_updS, w_updS]
        · rw [w_updN q, w_updN q]; exact k2 i (by omega)
/-- a rule's value; whether some 'bar' isn't 0 -/
def e_val (nm : Nat → Int32) (L : List Int32) : Int32 := (e_run nm L (0, fun _ => 0)).2 0
def e_bar (nm : Nat → Int32) (rs : List (Bool × List Int32)) : Bool := rs.any (fun r => !r.1 && decide (¬ e_val nm r.2 = 0))
/-- the law in force -/
def lf_n (day : Nat → Int32) (D : Int32) (i : Nat) (l : Option Nat) : Option Nat := if D < day i then l else l.elim (some i) (fun q => if day i < day q then some q else some i)
def lf_ (day : Nat → Int32) (D : Int32) : Nat → Nat → Option Nat → Option Nat
  | 0, _, l => l
  | m + 1, i, l => lf_ day D m (i + 1) (lf_n day D i l)
theorem lf_succ {day : Nat → Int32} {D : Int32} {m i : Nat} {l : Option Nat} : lf_ day D (m + 1) i l = lf_ day D m (i + 1) (lf_n day D i l) := rfl
theorem lf_n1 {day : Nat → Int32} {D : Int32} {i : Nat} {l : Option Nat} (h : D < day i) : lf_n day D i l = l := if_pos h
theorem lf_n2 {day : Nat → Int32} {D : Int32} {i : Nat} (h : ¬ D < day i) : lf_n day D i none = some i := if_neg h
theorem lf_n3 {day : Nat → Int32} {D : Int32} {i q : Nat} (h : ¬ D < day i) : lf_n day D i (some q) = if day i < day q then some q else some i := if_neg h
