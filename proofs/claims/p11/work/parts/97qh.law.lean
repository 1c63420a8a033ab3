/-! law: a text that is read; both sides -/
abbrev lw_T : Type := Nat × (Nat → Int32) × (Nat → List (Bool × List Int32))
def ab_law (l1 l2 : Int32) (s : sz_T) (F : Nat → Int32) (w : lw_T) (flt : Int32) : lw_T × Int32 := if l1 < 0 ∨ s.1.2.2.2.2.1 < l1 ∨ l2 < 0 ∨ ¬ l2 ≤ 1000 then (w, flt) else if w.1 = 6 then (w, -1) else match p_text F l1.toNatClampNeg 13 0 (t_tok F l1.toNatClampNeg 0) with
  | .inl p => (w, nI p)
  | .inr rs => ((w.1 + 1, upd w.2.1 w.1 l2, fun i => if i = w.1 then rs else w.2.2 i), -1)
/-! what is told of the laws, apart from both -/
def kL_ (w : lw_T) : Prop := w.1 ≤ 6 ∧ ∀ l, l < w.1 → (w.2.2 l).length ≤ 12 ∧ (∀ x ∈ w.2.2 l, ed_ 33 x.2 0 1) ∧ (p_ops (w.2.2 l)).length ≤ 500
theorem enc_len3 {M : Nat} : ∀ (L : List Int32) (d e : Nat), ed_ M L d e → 2 * (enc L).length + d ≤ 3 * L.length + e := by
  intro L
  induction L with
  | nil => intro d e h; have h : d = e := h; rw [h]; exact Nat.le_of_eq (by simp [enc])
  | cons c L ih =>
    intro d e h
    have el : (enc (c :: L)).length = (enc1 c).length + (enc L).length := by
      unfold enc
      rw [List.flatMap_cons, List.length_append]
    have l2 : (enc1 c).length ≤ 2 := by
      unfold enc1
      split
      · exact Nat.le_refl 2
      · split
        · exact Nat.le_succ 1
        · exact Nat.le_succ 1
    have l1 : ¬ -8 < c.toInt → (enc1 c).length = 1 := by
      intro q
      have z8 : (-8 : Int32).toInt = -8 := by decide
      unfold enc1
      rw [if_neg (by rw [ki_le, ki_z0]; omega), if_neg (by rw [ki_lt, z8]; omega)]
      rfl
    rw [el, List.length_cons]
    unfold ed_ at h
    split at h
    · have := ih _ _ h.2
      omega
    · next q =>
      have l1 := l1 q
      split at h
      · have := ih _ _ h.2
        omega
      · have := ih _ _ h.2.2
        have := h.2.1
        omega
theorem enc_ops : ∀ (R : List (Bool × List Int32)), (∀ x ∈ R, ed_ 33 x.2 0 1) → 2 * (enc (p_ops R)).length ≤ 3 * (p_ops R).length + R.length := by
  intro R
  induction R with
  | nil => intro _; exact Nat.le_of_eq (by simp [enc, p_ops])
  | cons r R ih =>
    intro h
    have e1 : p_ops (r :: R) = r.2 ++ p_ops R := by
      unfold p_ops
      rw [List.flatMap_cons]
    have e2 : enc (r.2 ++ p_ops R) = enc r.2 ++ enc (p_ops R) := by
      unfold enc
      rw [List.flatMap_append]
    have h1 := enc_len3 r.2 0 1 (h r (List.mem_cons_self))
    have h2 := ih (fun x hx => h x (List.mem_cons_of_mem r hx))
    rw [e1, e2, List.length_append, List.length_append, List.length_cons]
    omega
theorem ops_flat : ∀ R : List (Bool × List Int32), (p_ops R).length ≤ (p_flat R).length := by
  intro R
  induction R with
  | nil => exact Nat.le_refl _
  | cons r R ih =>
    have e1 : p_ops (r :: R) = r.2 ++ p_ops R := by
      unfold p_ops
      rw [List.flatMap_cons]
    have e2 : p_flat (r :: R) = (r.2 ++ [if r.1 = true then -18 else -17]) ++ p_flat R := by
      unfold p_flat
      rw [List.flatMap_cons]
    rw [e1, e2, List.length_append, List.length_append, List.length_append]
    omega
theorem text12 {f : Nat → Int32} {n : Nat} : ∀ (m i : Nat) (t : tk_T) (rs : List (Bool × List Int32)), i ≤ 12 → p_text f n m i t = .inr rs → rs.length + i ≤ 12 := by
  intro m
  induction m with
  | zero =>
    intro i t rs hi h
    have h : (.inr [] : pt_T) = .inr rs := h
    rw [← Sum.inr.inj h]
    exact (Nat.zero_add i).symm ▸ hi
  | succ m ih =>
    intro i t rs hi h
    have h : (if t.1 = 0 then (.inr [] : pt_T) else match p_rule f n i t with
      | .inl p => .inl p
      | .inr (t2, cs) => match p_text f n m (i + 1) t2 with
        | .inl p => .inl p
        | .inr rs => .inr ((t_wd f t 7, cs) :: rs)) = .inr rs := h
    by_cases c : t.1 = 0
    · rw [if_pos c] at h
      rw [← Sum.inr.inj h]
      exact (Nat.zero_add i).symm ▸ hi
    · rw [if_neg c] at h
      have i11 : i ≠ 12 := by
        intro e
        subst e
        have er : p_rule f n 12 t = .inl t.2.1 := by
          unfold p_rule
          split
          · rfl
          · rfl
        rw [er] at h
        cases h
      revert h
      cases p_rule f n i t with
      | inl p => intro h; cases h
      | inr y =>
        obtain ⟨t2, cs⟩ := y
        intro h
        have h : (match p_text f n m (i + 1) t2 with
          | .inl p => (.inl p : pt_T)
          | .inr rs => .inr ((t_wd f t 7, cs) :: rs)) = .inr rs := h
        revert h
        cases e2 : p_text f n m (i + 1) t2 with
        | inl p => intro h; cases h
        | inr rs2 =>
          intro h
          rw [← Sum.inr.inj h, List.length_cons]
          have := ih (i + 1) t2 rs2 (by omega) e2
          omega
theorem kL_law {l1 l2 flt : Int32} {s : sz_T} {F : Nat → Int32} {w : lw_T} (h : kL_ w) (h5 : ∀ l, l < (ab_law l1 l2 s F w flt).1.1 → (p_flat ((ab_law l1 l2 s F w flt).1.2.2 l)).length ≤ 500) : kL_ (ab_law l1 l2 s F w flt).1 := by
  revert h5
  unfold ab_law
  split
  · intro _; exact h
  · split
    · intro _; exact h
    · next c6 =>
      cases e : p_text F l1.toNatClampNeg 13 0 (t_tok F l1.toNatClampNeg 0) with
      | inl p => intro _; exact h
      | inr rs =>
        intro h5
        have h5 : ∀ l, l < w.1 + 1 → (p_flat (if l = w.1 then rs else w.2.2 l)).length ≤ 500 := h5
        refine ⟨by show w.1 + 1 ≤ 6; have := h.1; omega, fun l hl => ?_⟩
        have hl : l < w.1 + 1 := hl
        show (if l = w.1 then rs else w.2.2 l).length ≤ 12 ∧ (∀ x ∈ (if l = w.1 then rs else w.2.2 l), ed_ 33 x.2 0 1) ∧ (p_ops (if l = w.1 then rs else w.2.2 l)).length ≤ 500
        by_cases c : l = w.1
        · have h5 := h5 l hl
          rw [if_pos c] at h5 ⊢
          refine ⟨text12 13 0 _ rs (by decide) e, pe_text (n := l1.toNatClampNeg) (f := F) 13 0 _ rs ⟨0, Nat.zero_le _, rfl⟩ e, Nat.le_trans (ops_flat rs) h5⟩
        · rw [if_neg c]
          exact h.2 l (by omega)
theorem nI_ofN {x : Int32} {p : Nat} (h : x.toInt = (p : Int)) : x = nI p := ki_eq.2 (by
  have := Int32.toInt_lt x
  rw [h, nI_toInt (n := p) (by omega)])
/-! the reference -/
def mM_ (l : Nat) (R : List (Bool × List Int32)) (μ : km_S) : Prop := (km_a μ 54 l).toInt = (R.length : Int) ∧ mR_ l R μ ∧ (km_a μ 55 (13 * l + R.length)).toInt = ((enc (p_ops R)).length : Int) ∧ ∀ i, i < (enc (p_ops R)).length → km_a μ 56 (900 * l + i) = (enc (p_ops R)).getD i 0
def fL_ (w : lw_T) (μ : km_S) : Prop := (km_i μ 5).toInt = (w.1 : Int) ∧ (∀ i, i < w.1 → km_a μ 53 i = w.2.1 i) ∧ ∀ l, l < w.1 → mM_ l (w.2.2 l) μ
theorem mM_L {w : lw_T} {μ : km_S} (K : kL_ w) (h : fL_ w μ) : ∀ l, l < w.1 → mL_ l (w.2.2 l) μ := fun l hl => by
  obtain ⟨a, b, c, d⟩ := h.2.2 l hl
  obtain ⟨k1, k2, k3⟩ := K.2 l hl
  exact ⟨a, k1, b, c, d, k2, k3⟩
theorem mM_gu {l lw : Nat} {R : List (Bool × List Int32)} {μ u : km_S} (h : mM_ l R μ) (k : gu_ lw μ u) (hl : l < lw) (h12 : R.length ≤ 12) (he : (enc (p_ops R)).length ≤ 900) : mM_ l R u := by
  obtain ⟨a, b, c, d⟩ := h
  obtain ⟨g1, g2, g3, g4, g5, g6, g7⟩ := k
  refine ⟨by rw [g6 l (by omega)]; exact a, fun i r hr => ?_, by rw [g4 _ (by omega)]; exact c, fun i hi => by rw [g3 _ (by omega)]; exact d i hi⟩
  have hlt := (List.getElem?_eq_some_iff.1 hr).1
  rw [g5 _ (by omega), g4 _ (by omega)]
  exact b i r hr
theorem fL_nm {w : lw_T} {μ u : km_S} {W : List Nat} (h : fL_ w μ) (F : nm_ W μ u) (hW : ∀ f ∈ W, f ∉ [5, 53, 54, 55, 56, 58]) : fL_ w u := by
  have k : ∀ f, f ∈ [5, 53, 54, 55, 56, 58] → f ∉ W := fun f hf q => hW f q hf
  have e5 := F.1 5 (k 5 (by decide))
  have e53 := F.2 53 (k 53 (by decide))
  have e54 := F.2 54 (k 54 (by decide))
  have e55 := F.2 55 (k 55 (by decide))
  have e56 := F.2 56 (k 56 (by decide))
  have e58 := F.2 58 (k 58 (by decide))
  unfold fL_ mM_ mR_ at h ⊢
  rw [e5, e53, e54, e55, e56, e58]
  exact h
section
variable {μ : km_S} {s : sz_T} {F : Nat → Int32} {L : Nat} {w : lw_T} {flt l1 l2 : Int32}
theorem vr_law (hs : sm_ μ = s) (hL : s.1.2.2.2.2.1.toInt = (L : Int)) (L5 : L ≤ 500) (hF : ∀ i, i < 500 → km_a μ 52 i = F i) (hb : ∀ i, i < 500 → ¬ F i = -1) (K : kL_ w) (h : fL_ w μ) (hf : km_i μ 10 = flt) : vX12_law l1 l2 μ (fun _ u => fL_ (ab_law l1 l2 s F w flt).1 u ∧ km_i u 10 = (ab_law l1 l2 s F w flt).2) := by
  have e9 : km_i μ 9 = s.1.2.2.2.2.1 := congrArg (fun s : sz_T => s.1.2.2.2.2.1) hs
  have z6 : (6 : Int32).toInt = 6 := by decide
  unfold vX12_law
  rintro μ1 rfl
  have e9' : km_i (km_si μ 1 0) 9 = s.1.2.2.2.2.1 := e9
  rw [e9']
  have no_ : (l1 < 0 ∨ s.1.2.2.2.2.1 < l1 ∨ l2 < 0 ∨ ¬ l2 ≤ 1000) → vX12_law_28 (fun _ u => fL_ (ab_law l1 l2 s F w flt).1 u ∧ km_i u 10 = (ab_law l1 l2 s F w flt).2) (km_si μ 1 0) := by
    intro c
    unfold vX12_law_28 vX12_fail
    rintro _ rfl
    have ea : ab_law l1 l2 s F w flt = (w, flt) := if_pos c
    rw [ea]
    exact ⟨h, hf⟩
  refine ⟨fun c => no_ (.inl c), fun c1 => ⟨fun c => no_ (.inr (.inl c)), fun c2 => ⟨fun c => no_ (.inr (.inr (.inl c))), fun c3 => ⟨fun c4 => ?_, fun c => no_ (.inr (.inr (.inr c)))⟩⟩⟩⟩
  have ok : ¬ (l1 < 0 ∨ s.1.2.2.2.2.1 < l1 ∨ l2 < 0 ∨ ¬ l2 ≤ 1000) := by
    rintro (q | q | q | q)
    · exact c1 q
    · exact c2 q
    · exact c3 q
    · exact q c4
  clear no_
  rintro μ8 rfl μ9 rfl
  have e5 : (km_i (km_si (km_si (km_si μ 1 0) 9 0) 10 (-1)) 5).toInt = (w.1 : Int) := h.1
  refine ⟨fun c5 => ?_, fun c5 => ?_⟩
  · have n6 : ¬ w.1 = 6 := fun e => c5 (ki_eq.2 (by rw [e5, z6, e]; rfl))
    have w6 : w.1 < 6 := by have := K.1; omega
    rw [ki_lt, ki_z0] at c1
    rw [ki_lt, hL] at c2
    obtain ⟨n, hn⟩ : ∃ n : Nat, l1.toInt = (n : Int) := ⟨l1.toInt.toNat, by omega⟩
    have n5 : n ≤ 500 := by omega
    rintro μ11 rfl μ12 rfl μ13 rfl μ14 rfl
    have C : m0_ F n w.1 (km_si (km_si (km_si (km_si (km_si (km_si (km_si μ 1 0) 9 0) 10 (-1)) 61 l1) 60 0) 66 0) 59 0) := ⟨⟨hn, n5, fun i hi => hF i (by omega)⟩, fun i hi => hb i (by omega), h.1, w6⟩
    refine ve_text C rfl rfl rfl (fun u hz => ?_)
    have ea : ab_law l1 l2 s F w flt = match p_text F n 13 0 (t_tok F n 0) with
        | .inl p => (w, nI p)
        | .inr rs => ((w.1 + 1, upd w.2.1 w.1 l2, fun i => if i = w.1 then rs else w.2.2 i), -1) := by
      unfold ab_law
      rw [if_neg ok, if_neg n6, ki_toN hn]
    rw [ea]
    clear ea
    have old : gu_ w.1 (km_si (km_si (km_si (km_si (km_si (km_si (km_si μ 1 0) 9 0) 10 (-1)) 61 l1) 60 0) 66 0) 59 0) u → (∀ i, i < w.1 → km_a u 53 i = w.2.1 i) ∧ (∀ l, l < w.1 → mM_ l (w.2.2 l) u) ∧ km_i u 5 = km_i μ 5 ∧ km_i u 10 = -1 := by
      intro G
      refine ⟨fun i hi => ?_, fun l hl => ?_, G.1 5 (by decide) (by decide) (by decide) (by decide) (by decide) (by decide) (by decide) (by decide), G.1 10 (by decide) (by decide) (by decide) (by decide) (by decide) (by decide) (by decide) (by decide)⟩
      · rw [G.2.1 53 (by decide) (by decide) (by decide) (by decide)]
        exact h.2.1 i hi
      · obtain ⟨k1, k2, k3⟩ := K.2 l hl
        have := enc_ops _ k2
        exact mM_gu (μ := km_si (km_si (km_si (km_si (km_si (km_si (km_si μ 1 0) 9 0) 10 (-1)) 61 l1) 60 0) 66 0) 59 0) (h.2.2 l hl) G hl k1 (by omega)
    generalize km_si (km_si (km_si (km_si (km_si (km_si (km_si μ 1 0) 9 0) 10 (-1)) 61 l1) 60 0) 66 0) 59 0 = μ14 at hz old
    revert hz
    cases p_text F n 13 0 (t_tok F n 0) with
    | inl p =>
      intro hz
      obtain ⟨G, b1, b2⟩ := hz
      obtain ⟨o1, o2, o3, o4⟩ := old G
      refine ⟨fun q => absurd q b1, fun _ => ?_⟩
      rintro μ20 rfl
      refine ⟨⟨?_, o1, o2⟩, ?_⟩
      · show (km_i u 5).toInt = _
        rw [o3]
        exact h.1
      · have e : km_i (km_si u 10 (km_i u 67)) 10 = km_i u 67 := (w_updS : upd u.1 10 (km_i u 67) 10 = km_i u 67)
        rw [e]
        exact nI_ofN b2
    | inr rs =>
      intro hz
      obtain ⟨G, b1, b2, b3, b4, b5⟩ := hz
      obtain ⟨o1, o2, o3, o4⟩ := old G
      have e5' : (km_i u 5).toInt = (w.1 : Int) := by rw [o3]; exact h.1
      refine ⟨fun _ _ => ?_, fun q => absurd b1 q⟩
      rw [ki_toN e5']
      rintro μ18 rfl μ19 rfl
      refine ⟨⟨?_, fun i hi => ?_, fun l hl => ?_⟩, o4⟩
      · have e : km_i (km_si (km_sa u 53 w.1 l2) 5 (km_i (km_sa u 53 w.1 l2) 5 + 1)) 5 = km_i u 5 + 1 := (w_updS : upd u.1 5 (km_i u 5 + 1) 5 = km_i u 5 + 1)
        rw [e]
        exact ki_addN e5' ki_z1 (by omega)
      · have hi : i < w.1 + 1 := hi
        show upd (u.2.1 53) w.1 l2 i = upd w.2.1 w.1 l2 i
        by_cases c : i = w.1
        · rw [c, w_updS, w_updS]
        · rw [w_updN c, w_updN c]
          exact o1 i (by omega)
      · have hl : l < w.1 + 1 := hl
        show mM_ l (if l = w.1 then rs else w.2.2 l) u
        by_cases c : l = w.1
        · rw [if_pos c, c]
          exact ⟨b5, b3, b4, b2.2⟩
        · rw [if_neg c]
          exact o2 l (by omega)
  · have n6 : w.1 = 6 := by
      have := congrArg Int32.toInt c5
      rw [e5, z6] at this
      omega
    have ea : ab_law l1 l2 s F w flt = (w, -1) := by
      unfold ab_law
      rw [if_neg ok, if_pos n6]
    rw [ea]
    exact ⟨h, rfl⟩
end
/-! the class -/
theorem hx_newA {X : Nat → Prop} {W : List Nat} {σ τ : kx_S} {p t n B0 n0 : Nat} {g κ : Nat → Nat} (h : hx_ X W σ τ) (Ly : yL_ g κ B0 n0 τ) (hp : xt τ p = 0) : hx_ X W σ (xnewA τ p t n) := by
  obtain ⟨h1, h2, h3, h4, h5⟩ := h
  have ne : ∀ b, xt σ b ≠ 0 → b ≠ p := fun b hb e => hb (by rw [← h1.1 b hb, e]; exact hp)
  refine ⟨fg_trans h1 (fg_newA hp), h2, h3, fun l a1 => ⟨(h4 l a1).1, fun i hi => ?_⟩, fun b hb => (va_up_ne _ _ (ne b hb)).trans (h5 b hb)⟩
  obtain ⟨d, d1, d2, d3, d4⟩ := Ly.1 l (fg_tag h1 a1 (by decide))
  have sz := (h4 l a1).1
  refine Eq.trans ?_ ((h4 l a1).2 i hi)
  rcases d4 with ⟨_, z2⟩ | ⟨_, z2, _⟩
  · exfalso
    rw [z2, ki_z0] at sz
    omega
  · have dp : d ≠ p := fun e => by rw [e, hp] at z2; omega
    have e1 : xr (xnewA τ p t n) 17 l = some d := d1
    unfold xe
    rw [e1, d1]
    show va_up τ.2.2.2.2.2.2.2.1 p (fun _ => none) d i = τ.2.2.2.2.2.2.2.1 d i
    rw [va_up_ne _ _ dp]
theorem hx_sAIP {X : Nat → Prop} {W : List Nat} {σ τ : kx_S} {p : Nat} {f : Nat → Int32} (h : hx_ X W σ τ) (hp : xt σ p = 0) : hx_ X W σ (xsAI τ p f) := by
  obtain ⟨h1, h2, h3, h4, h5⟩ := h
  exact ⟨h1, h2, h3, h4, fun b hb => (va_up_ne _ _ (fun e => hb (by rw [e]; exact hp))).trans (h5 b hb)⟩
theorem vq_copyOf {X : Nat → Prop} {W : List Nat} {σ0 σ : kx_S} {h k B0 n0 : Nat} {g κ : Nat → Nat} {v : Int32} {Q : Nat → kx_S → Prop} (F : hx_ X W σ0 σ) (Ly : yL_ g κ B0 n0 σ) (th : xt σ h = 20) (nh : xn σ h = 500) (hv : v.toInt = (k : Int)) (k5 : k ≤ 500) (kk : ∀ p τ, xt σ p = 0 → hx_ X W σ0 τ → xt τ p = 20 → xn τ p = k → (∀ i, i < k → xai τ p i = xai σ h i) → (∀ f x, xi τ f x = xi σ f x) → (∀ x, x ≠ p → xt τ x = xt σ x) → Q p τ) : vJ7_copyOf_59c91 h v σ Q := by
  have e500 : (nI (xn σ h)).toInt = 500 := by rw [nh]; decide
  have z0 : Int32.toNatClampNeg 0 = 0 := by decide
  unfold vJ7_copyOf_59c91
  intro _
  refine ⟨fun c _ _ _ p hp hz σ9 e9 _ v12 e12 _ _ _ _ _ σ18 e18 => ?_, fun c _ _ p hp hz σ26 e26 => ?_⟩
  · have hph : h ≠ p := fun e => by rw [e, hp] at th; omega
    have hp0 := hx_0 F hp
    have F9 : hx_ X W σ0 σ9 := by rw [e9]; exact hx_newA F Ly hp
    have nh9 : xn σ9 h = 500 := by rw [e9]; exact (va_up_ne _ _ hph).trans nh
    have np9 : xn σ9 p = v.toNatClampNeg := by rw [e9]; exact va_up_self _ _ _
    have tp9 : xt σ9 p = 20 := by rw [e9]; exact va_up_self _ _ _
    have ah9 : xai σ9 h = xai σ h := by rw [e9]; exact va_up_ne _ _ hph
    have i9 : ∀ f x, xi σ9 f x = xi σ f x := fun f x => by rw [e9]; rfl
    have t9 : ∀ x, x ≠ p → xt σ9 x = xt σ x := fun x hx => by rw [e9]; exact va_up_ne _ _ hx
    clear e9
    have hw : v12 = v := by
      rw [e12, nh9]
      have e5 : (nI 500).toInt = 500 := by decide
      by_cases q : v < nI 500
      · rw [if_pos q]
      · rw [if_neg q]
        rw [ki_lt, e5] at q
        exact ki_eq.2 (by rw [e5]; omega)
    rw [hw, z0, ki_toN hv] at e18
    refine kk p σ18 hp (by rw [e18]; exact hx_sAIP F9 hp0) (by rw [e18]; exact tp9) (by rw [e18]; exact np9.trans (ki_toN hv)) (fun i hi => ?_) (fun f x => by rw [e18]; exact i9 f x) (fun x hx => by rw [e18]; exact t9 x hx)
    have e : xai σ18 p = va_cpy (xai σ9 h) (xai σ9 p) 0 0 k := by rw [e18]; exact va_up_self _ _ _
    rw [e]
    unfold va_cpy
    rw [if_pos ⟨Nat.zero_le i, by omega⟩, Nat.sub_zero, Nat.zero_add, ah9]
  · have hp0 := hx_0 F hp
    have ek : k = 500 := by
      have := congrArg Int32.toInt c
      rw [e500, hv] at this
      omega
    have F9 : hx_ X W σ0 (xnewA σ p 20 (xn σ h)) := hx_newA F Ly hp
    refine kk p σ26 hp (by rw [e26]; exact hx_sAIP F9 hp0) (by rw [e26]; exact va_up_self _ _ _) ?_ (fun i hi => ?_) (fun f x => by rw [e26]; rfl) (fun x hx => by rw [e26]; exact va_up_ne _ _ hx)
    · rw [e26, ek, ← nh]
      exact va_up_self _ _ _
    · have e : xai σ26 p = xai σ h := by rw [e26]; exact va_up_self _ _ _
      rw [e]
section
variable {T : Nat → Nat → Nat} {N : Nat → Nat} {g κ : Nat → Nat} {st na nr nl nc no m tk ca tb : Nat} {day : Nat → Int32} {RL : Nat → List (Bool × List Int32)} {s : sz_T} {B n : Nat} {a b : ra_T} {σ τ : kx_S} {F : Nat → Int32} {flt : Int32}
theorem qE_rf (h : qE_ T N g st na nr nl m day RL no nc a σ) (k : rf_ (g 7) tk ca σ τ) (h20 : ∀ i, i < m → T 20 i ≠ ca) : qE_ T N g st na nr nl m day RL no nc a τ := by
  obtain ⟨n1, n2, n3, n4, n5, n6, n7⟩ := k
  have kr : ∀ f x, xr τ f x = xr σ f x := fun f x => congrFun (congrFun n3 f) x
  have ka : τ.2.2.2.2.2.2.2.1 = σ.2.2.2.2.2.2.2.1 := congrArg (fun q => q.2.1) n7
  refine qE_same h (fun f hf x => n1 f x (fun y => ?_) (fun y => ?_)) kr (fun x => congrFun n2 x) (xe_eq kr ka) (fun x => congrFun n5 x) (fun i hi j => by rw [n6 _ (h20 i hi)])
  · rcases y.2 with e | e | e | e <;> (rw [e] at hf; exact absurd hf (by decide))
  · rcases y.2 with e | e | e <;> (rw [e] at hf; exact absurd hf (by decide))
theorem fT_rf (t : fT_ g T m st na tk ca tb F flt σ) (k : rf_ (g 7) tk ca σ τ) : fT_ g T m st na tk ca tb F flt τ := by
  obtain ⟨⟨t1, t2, t3, t4⟩, ⟨t5, t6, t7, t8, t9⟩, t10, t11, t12, t13⟩ := t
  obtain ⟨n1, n2, n3, n4, n5, n6, n7⟩ := k
  have kr : ∀ f x, xr τ f x = xr σ f x := fun f x => congrFun (congrFun n3 f) x
  have kt : ∀ x, xt τ x = xt σ x := fun x => congrFun n2 x
  have kn : ∀ x, xn τ x = xn σ x := fun x => congrFun n5 x
  refine ⟨⟨by rw [kr]; exact t1, by rw [kr]; exact t2, by rw [kr]; exact t3, by rw [kr]; exact t4⟩, ⟨by rw [kt]; exact t5, by rw [kt]; exact t6, by rw [kt]; exact t7, by rw [kn]; exact t8, by rw [kn]; exact t9⟩, t10, t11, fun i hi => by rw [n6 tb t10.1]; exact t12 i hi, ?_⟩
  rw [n1 219 _ (fun y => by rcases y.2 with e | e | e | e <;> exact absurd e (by decide)) (fun y => by rcases y.2 with e | e | e <;> exact absurd e (by decide))]
  exact t13
theorem fT_hx {X : Nat → Prop} {W : List Nat} (t : fT_ g T m st na tk ca tb F flt σ) (k : hx_ X W σ τ) (h0 : xt σ (g 0) ≠ 0) (h6 : xt σ (g 6) ≠ 0) (h7 : xt σ (g 7) ≠ 0) (hW : 219 ∉ W) : fT_ g T m st na tk ca tb F flt τ := by
  obtain ⟨⟨t1, t2, t3, t4⟩, ⟨t5, t6, t7, t8, t9⟩, t10, t11, t12, t13⟩ := t
  have o5 : xt σ tk ≠ 0 := by rw [t5]; decide
  have o6 : xt σ ca ≠ 0 := by rw [t6]; decide
  have o7 : xt σ tb ≠ 0 := by rw [t7]; decide
  obtain ⟨⟨f1, f2, f3, f4⟩, k2, k3, k4, k5⟩ := k
  exact ⟨⟨by rw [f2 112 _ (by decide) h7]; exact t1, by rw [f2 113 _ (by decide) h7]; exact t2, by rw [f2 192 _ (by decide) o5]; exact t3, by rw [f2 176 _ (by decide) h6]; exact t4⟩, ⟨by rw [f1 _ o5]; exact t5, by rw [f1 _ o6]; exact t6, by rw [f1 _ o7]; exact t7, by rw [f3 _ o6]; exact t8, by rw [f3 _ o7]; exact t9⟩, t10, t11, fun i hi => by rw [k5 _ o7]; exact t12 i hi, by rw [k2 219 _ hW (by decide) (by decide) h0]; exact t13⟩
theorem nW_2 {f1 f2 x y : Nat} {v w : Int32} : nW_ [f1, f2] σ (xsi (xsi σ f1 x v) f2 y w) := by
  refine ⟨fun f b hf => ?_, rfl, fun _ _ _ => rfl, rfl, rfl, rfl, rfl⟩
  have h1 : f ≠ f1 := fun e => hf (by rw [e]; exact List.mem_cons_self)
  have h2 : f ≠ f2 := fun e => hf (by rw [e]; exact List.mem_cons_of_mem _ (List.mem_cons_self))
  show (if f = f2 then va_up ((xsi σ f1 x v).2.1 f2) y w else (if f = f1 then va_up (σ.2.1 f1) x v else σ.2.1 f)) b = σ.2.1 f b
  rw [if_neg h2, if_neg h1]
theorem vq_law {l1 l2 : Int32} {L : Nat} (hB : B + 2 ≤ 3000) (hn : n ≤ 200) (hL : s.1.2.2.2.2.1.toInt = (L : Int)) (L5 : L ≤ 500) (J : yJ_ s g κ B n σ) (t : fT_ g T m st na tk ca tb F flt σ) (n22 : n22_ T N nr a) (h : qE_ T N g st na nr nl m day RL no nc a σ) : vX11_law (g 0) l1 l2 σ (fun _ u => ∃ T' N', n22_ T' N' nr a ∧ qE_ T' N' g st na nr nl (ab_law l1 l2 s F (m, day, RL) flt).1.1 (ab_law l1 l2 s F (m, day, RL) flt).1.2.1 (ab_law l1 l2 s F (m, day, RL) flt).1.2.2 no nc a u ∧ fT_ g T' (ab_law l1 l2 s F (m, day, RL) flt).1.1 st na tk ca tb F (ab_law l1 l2 s F (m, day, RL) flt).2 u) (fun _ u => ∃ T' N', n22_ T' N' nr a ∧ qE_ T' N' g st na nr nl (ab_law l1 l2 s F (m, day, RL) flt).1.1 (ab_law l1 l2 s F (m, day, RL) flt).1.2.1 (ab_law l1 l2 s F (m, day, RL) flt).1.2.2 no nc a u ∧ fT_ g T' (ab_law l1 l2 s F (m, day, RL) flt).1.1 st na tk ca tb F (ab_law l1 l2 s F (m, day, RL) flt).2 u) := by
  have G6 := yg6 J
  have ids := yG_idx J
  have z1000 : (1000 : Int32).toInt = 1000 := by decide
  have z6 : (6 : Int32).toInt = 6 := by decide
  have m6 := h.2.2.2.2.2.1.2.1
  have no_ : (l1 < 0 ∨ s.1.2.2.2.2.1 < l1 ∨ l2 < 0 ∨ ¬ l2 ≤ 1000) → ∀ u, (u = σ ∨ u = xbump σ) → ∃ T' N', n22_ T' N' nr a ∧ qE_ T' N' g st na nr nl (ab_law l1 l2 s F (m, day, RL) flt).1.1 (ab_law l1 l2 s F (m, day, RL) flt).1.2.1 (ab_law l1 l2 s F (m, day, RL) flt).1.2.2 no nc a u ∧ fT_ g T' (ab_law l1 l2 s F (m, day, RL) flt).1.1 st na tk ca tb F (ab_law l1 l2 s F (m, day, RL) flt).2 u := by
    intro c u hu
    have ea : ab_law l1 l2 s F (m, day, RL) flt = ((m, day, RL), flt) := if_pos c
    rw [ea]
    rcases hu with e | e
    · rw [e]; exact ⟨T, N, n22, h, t⟩
    · rw [e]; exact ⟨T, N, n22, qE_bump h, t⟩
  unfold vX11_law
  intro _ a3 e3 _
  obtain rfl := Option.some.inj (G6.1.symm.trans e3)
  rw [ids.2.2.2.2.1]
  refine vy_within (fun c => ⟨fun _ => ?_, fun x => absurd rfl x⟩) (fun c1 c2 => ⟨fun x => absurd x (by decide), fun _ => ?_⟩)
  · unfold vX11_law_26
    intro _
    refine no_ ?_ _ (.inr rfl)
    rw [ki_z0] at c
    rw [ki_lt, ki_z0, ki_lt]
    by_cases q : l1.toInt < 0
    · exact .inl q
    · exact .inr (.inl (by omega))
  rw [ki_z0] at c1
  refine vy_within (fun c => ⟨fun x => absurd rfl x, fun _ => ?_⟩) (fun c3 c4 => ⟨fun _ _ a13 e13 _ τ1 e1 τ2 e2 a22 e22 _ => ?_, fun x => absurd x (by decide)⟩)
  · unfold vX11_law_26
    intro _
    refine no_ (.inr (.inr ?_)) _ (.inr rfl)
    rw [ki_z0, z1000] at c
    rw [ki_lt, ki_z0, ki_le, z1000]
    by_cases q : l2.toInt < 0
    · exact .inl q
    · exact .inr (by omega)
  rw [ki_z0] at c3
  rw [z1000] at c4
  have ok : ¬ (l1 < 0 ∨ s.1.2.2.2.2.1 < l1 ∨ l2 < 0 ∨ ¬ l2 ≤ 1000) := by
    intro q
    rw [ki_lt, ki_lt, ki_lt, ki_le, ki_z0, z1000] at q
    omega
  clear no_
  obtain rfl := Option.some.inj (G6.1.symm.trans e13)
  have J2 : yJ_ (zt_ s 0) g κ B n τ2 := by rw [e2, e1]; exact yI_si (by decide) (yI_177 (by decide) J)
  have h2 : qE_ T N g st na nr nl m day RL no nc a τ2 := by rw [e2, e1]; exact qE_nW h nW_2 (by decide)
  have t2 : fT_ g T m st na tk ca tb F (-1) τ2 := by
    obtain ⟨t1', t2', t3', t4', t5', t6'⟩ := t
    rw [e2, e1]
    exact ⟨t1', t2', t3', t4', t5', va_up_self _ _ _⟩
  clear e1 e2
  obtain rfl := Option.some.inj ((yg3 J2).1.symm.trans e22)
  have s3 : (xi τ2 18 (g 3)).toInt = (m : Int) := h2.2.2.2.2.2.1.1
  unfold vJx4a65c_size_8abf5
  intro _
  rw [ki_lt, z6, s3]
  refine ⟨fun c5 _ a29 e29 _ => ?_, fun c5 => ?_⟩
  rotate_left
  · have ea : ab_law l1 l2 s F (m, day, RL) flt = ((m, day, RL), -1) := by
      unfold ab_law
      rw [if_neg ok, if_pos (show m = 6 by omega)]
    rw [ea]
    exact ⟨T, N, n22, h2, t2⟩
  obtain rfl := Option.some.inj ((yg7 J2).1.symm.trans e29)
  obtain ⟨n', hn'⟩ : ∃ n : Nat, l1.toInt = (n : Int) := ⟨l1.toInt.toNat, by omega⟩
  have n5 : n' ≤ 500 := by omega
  have ea : ab_law l1 l2 s F (m, day, RL) flt = match p_text F n' 13 0 (t_tok F n' 0) with
      | .inl p => ((m, day, RL), nI p)
      | .inr rs => ((m + 1, upd day m l2, fun i => if i = m then rs else RL i), -1) := by
    unfold ab_law
    rw [if_neg ok, if_neg (show ¬ m = 6 by omega), ki_toN hn']
  rw [ea]
  clear ea
  have C : c0_ F n' (g 7) tk ca (g 6) tb τ2 := by
    obtain ⟨⟨x1, x2, x3, x4⟩, ⟨x5, x6, x7, x8, x9⟩, x10, x11, x12, x13⟩ := t2
    exact ⟨x1, x2, x8, x3, x4, x9, x10.1, fun i hi => x12 i (by omega), n5⟩
  refine jaX5_readText (Q := fun u => yJ_ (zt_ s 0) g κ B n u ∧ cz_ n' (g 7) tk ca τ2 [] (p_text F n' 13 0 (t_tok F n' 0)) u) (fun τ3 hh _ a34 e34 _ => ?_) _ _ _ (jcX5_readText (Q := fun u => yJ_ (zt_ s 0) g κ B n u) (Q' := fun u => cz_ n' (g 7) tk ca τ2 [] (p_text F n' 13 0 (t_tok F n' 0)) u) (fun _ x y => ⟨x, y⟩) _ _ _ (rx_readText J2 (yg7 J2).2 (fun τ3 K3 => K3.1)) (vc_text C hn' (fun u hu => hu)))
  obtain ⟨J3, hz⟩ := hh
  obtain rfl := Option.some.inj ((yg7 J3).1.symm.trans e34)
  have R : rf_ (g 7) tk ca τ2 τ3 := by
    revert hz
    cases p_text F n' 13 0 (t_tok F n' 0) with
    | inl p => exact fun hz => hz.1.1
    | inr rs => exact fun hz => hz.1.1
  have h3 := qE_rf h2 R (fun i hi => (t2.2.2.2.1 i hi).2)
  have t3 := fT_rf t2 R
  clear t2 h2 C t R
  revert hz
  cases ep : p_text F n' 13 0 (t_tok F n' 0) with
  | inl p =>
    intro hz
    obtain ⟨_, b1, b2⟩ := hz
    refine ⟨fun q => absurd q b1, fun _ a67 e67 _ σ70 e70 a74 e74 _ => ?_⟩
    obtain rfl := Option.some.inj ((yg7 J3).1.symm.trans e67)
    refine ⟨T, N, n22, ?_, ?_⟩
    · rw [e70]
      exact qE_nW h3 (W := [219]) ⟨fun f b hf => by
        have h2 : f ≠ 219 := fun e => hf (by rw [e]; exact List.mem_cons_self)
        show (if f = 219 then va_up (τ3.2.1 219) (g 0) _ else τ3.2.1 f) b = τ3.2.1 f b
        rw [if_neg h2], rfl, fun _ _ _ => rfl, rfl, rfl, rfl, rfl⟩ (by decide)
    · obtain ⟨t1', t2', t3', t4', t5', t6'⟩ := t3
      rw [e70]
      refine ⟨t1', t2', t3', t4', t5', ?_⟩
      have e : xi (xsi τ3 219 (g 0) (xi τ3 116 (g 7))) 219 (g 0) = xi τ3 116 (g 7) := va_up_self _ _ _
      rw [e]
      exact nI_ofN b2
  | inr rs =>
    intro hz
    have hz : cX_ n' (g 7) tk ca τ2 τ3 ∧ xi τ3 115 (g 7) = 0 ∧ cC_ (g 7) ca (p_flat rs) τ3 := hz
    obtain ⟨_, b1, b2, b3⟩ := hz
    refine ⟨fun _ a38 e38 _ p hp hpz τ4 e4 _ a47 e47 _ a50 e50 a52 e52 _ => ?_, fun q => absurd b1 q⟩
    obtain rfl := Option.some.inj ((yg3 J3).1.symm.trans e38)
    have ca3 := t3.1.2.1
    have tca3 := t3.2.1.2.1
    have nca3 := t3.2.1.2.2.2.1
    have p0 : p ≠ g 0 := fun e => by have := yg0 J3; rw [← e, hp] at this; omega
    have p7 : g 7 ≠ p := fun e => by have := (yg7 J3).2; rw [e, hp] at this; omega
    have pca : ca ≠ p := fun e => by rw [e, hp] at tca3; omega
    have I4 : yI_ (zt_ s 0) (fun a => False ∨ a = p) g κ (B + 1) n τ4 := by rw [e4]; exact yI_new J3 hp hpz (by decide)
    have F4 : hx_ (fun x => x = g 3) [] τ3 τ4 := by rw [e4]; exact hx_new hx_refl hp
    have tp4 : xt τ4 p = 6 := by rw [e4]; exact va_up_self _ _ _
    have i4 : ∀ f x, x ≠ p → xi τ4 f x = xi τ3 f x := fun f x hx => by rw [e4]; exact va_up_ne _ _ hx
    have aca4 : xai τ4 ca = xai τ3 ca := by rw [e4]; rfl
    clear e4
    obtain rfl := Option.some.inj ((yg7 I4).1.symm.trans e47)
    obtain rfl := Option.some.inj ((yg7 I4).1.symm.trans e52)
    have eca : ca = a50 := by
      have := F4.1.2.1 113 (g 7) (by decide) (by rw [(yg7 J3).2]; decide)
      rw [ca3] at this
      exact Option.some.inj (this.symm.trans e50)
    subst eca
    have v114 : (xi τ4 114 (g 7)).toInt = ((p_flat rs).length : Int) := by rw [i4 114 _ p7]; exact b2
    have h4 := (I4.2.2.2.1 (g 7)).2.2.2.1 (yg7 I4).2
    have k5 : (p_flat rs).length ≤ 500 := by omega
    have tca4 : xt τ4 ca = 20 := fg_tag F4.1 tca3 (by decide)
    have nca4 : xn τ4 ca = 500 := (F4.1.2.2.1 ca (by rw [tca3]; decide)).trans nca3
    refine jaJ7_copyOf_59c91 (Q := fun q τ5 => yI_ (zt_ s 0) (fun a => False ∨ a = p) g κ (B + 1 + 1) n τ5 ∧ (xt τ4 q = 0 ∧ hx_ (fun x => x = g 3) [] τ3 τ5 ∧ xt τ5 q = 20 ∧ xn τ5 q = (p_flat rs).length ∧ (∀ i, i < (p_flat rs).length → xai τ5 q i = xai τ4 ca i) ∧ (∀ f x, xi τ5 f x = xi τ4 f x) ∧ (∀ x, x ≠ q → xt τ5 x = xt τ4 x))) (fun q τ5 hh => ?_) _ _ _ (jcJ7_copyOf_59c91 (Q := fun q τ5 => yI_ (zt_ s 0) (fun a => False ∨ a = p) g κ (B + 1 + 1) n τ5) (Q' := fun q τ5 => xt τ4 q = 0 ∧ hx_ (fun x => x = g 3) [] τ3 τ5 ∧ xt τ5 q = 20 ∧ xn τ5 q = (p_flat rs).length ∧ (∀ i, i < (p_flat rs).length → xai τ5 q i = xai τ4 ca i) ∧ (∀ f x, xi τ5 f x = xi τ4 f x) ∧ (∀ x, x ≠ q → xt τ5 x = xt τ4 x)) (fun _ _ x y => ⟨x, y⟩) _ _ _ (rx_copyOf I4 (by omega) hn tca4 nca4 h4 (fun q τ5 I5 F5 tq5 nq5 i5 => I5)) (vq_copyOf F4 I4.1 tca4 nca4 v114 k5 (fun q τ5 x1 x2 x3 x4 x5 x6 x7 => ⟨x1, x2, x3, x4, x5, x6, x7⟩)))
    obtain ⟨I5, q0, F5, tq5, nq5, aq5, i5, t5⟩ := hh
    have pq : p ≠ q := fun e => by rw [e, q0] at tp4; omega
    have tp5 : xt τ5 p = 6 := (t5 p pq).trans tp4
    have q03 : xt τ3 q = 0 := hx_0 F4 q0
    unfold vX4_init
    intro _ τ6 e6 τ7 e7 _
    have I7' : yI_ (zt_ s 0) (fun a => False ∨ a = p) g κ (B + 1 + 1) n τ7 := by rw [e7, e6]; exact yI_srE (yI_si (by decide) I5) (.inr rfl) (by decide) (by decide) p0
    have F7 : hx_ (fun x => x = g 3) [] τ3 τ7 := by rw [e7, e6]; exact hx_srP (hx_siP F5 hp) hp
    have tp7 : xt τ7 p = 6 := by rw [e7, e6]; exact tp5
    have tq7 : xt τ7 q = 20 := by rw [e7, e6]; exact tq5
    have nq7 : xn τ7 q = (p_flat rs).length := by rw [e7, e6]; exact nq5
    have r7 : xr τ7 97 p = some q := by rw [e7, e6]; exact va_up_self _ _ _
    have v96 : xi τ7 96 p = l2 := by rw [e7, e6]; exact va_up_self _ _ _
    have aq7 : ∀ i, i < (p_flat rs).length → xai τ7 q i = (p_flat rs).getD i 0 := fun i hi => by
      rw [e7, e6]
      show xai τ5 q i = _
      rw [aq5 i hi, aca4]
      exact b3 i hi
    have p3 : g 3 ≠ p := fun e => by have := (yg3 J3).2.1; rw [e, hp] at this; omega
    have s7 : xi τ7 18 (g 3) = xi τ3 18 (g 3) := by
      rw [e7, e6]
      show xi τ5 18 (g 3) = _
      rw [i5, i4 18 _ p3]
    clear e7 e6 i5 t5 aq5 I5 F5
    have I7 : yJ_ (zt_ s 0) g κ (B + 1 + 1) n τ7 := ⟨I7'.1, yP_add I7'.2.1 tp7 (fun x => absurd x (by decide)) (fun x => absurd x (by decide)) (fun x => absurd x (by decide)) (fun _ => ⟨q, r7, tq7, by omega⟩) (fun x => absurd x (by decide)) (by decide), I7'.2.2⟩
    clear I7'
    have G3 := yg3 I7
    have sg : (xi τ7 18 (g 3)).toInt = (m : Int) := by rw [s7]; exact h3.2.2.2.2.2.1.1
    have bl : (xi τ7 18 (g 3)).toInt < (ylb g (g 3) : Int) := by
      have : ylb g (g 3) ≥ 100 := by unfold ylb; split <;> omega
      omega
    refine jaJx4a65c_add_9ea2d (Q := fun _ u => ya_ (g 3) p τ7 u ∧ ∀ b, xt τ7 b ≠ 0 → xt u b = xt τ7 b ∧ xai u b = xai τ7 b) (fun _ u hh _ a62 e62 _ _ => ?_) _ _ _ (jcJx4a65c_add_9ea2d (Q := fun _ u => ya_ (g 3) p τ7 u) (Q' := fun _ u => ∀ b, xt τ7 b ≠ 0 → xt u b = xt τ7 b ∧ xai u b = xai τ7 b) (fun _ _ x y => ⟨x, y⟩) _ _ _ (ry_add I7.1 (by omega) hn G3.2.1 (by rw [tp7, G3.2.2]) bl (fun _ _ A => A)) vy_xai)
    obtain ⟨A, XA⟩ := hh
    have Fu : hx_ (fun x => x = g 3) [] τ3 u := hx_ya F7 A rfl (by omega) (fun b hb => (XA b hb).2)
    obtain ⟨Q0, Q22⟩ := qE_q0 J3 h3
    obtain ⟨f0, f1, f2, f3, f4, f7, fj, f6, fb, f5⟩ := h3
    have ne3 : ∀ x, κ x ≠ 6 → ¬ x = g 3 := fun x hx e => hx (by rw [e]; exact (yg3 J3).2.2)
    have nn : ∀ f ∈ ([] : List Nat), ∀ L : List Nat, f ∉ L := fun f hf => absurd hf (List.not_mem_nil)
    have r1 := q1_hx f1 Fu (yg1 J3).2.1 (ne3 _ (by rw [(yg1 J3).2.2]; decide)) (fun r hr => ne3 _ (by rw [(Q0.2.2.1 r hr).1]; decide)) (fun f hf => nn f hf _)
    have r2 := q2_hx f2 f1 Fu (fun f hf => nn f hf _)
    have r3 := q3_hx f3 Fu (fun k hk => ne3 _ (by rw [(Q0.1 k hk).1]; decide))
    have r4 := q4_hx f4 Fu (yg2 J3).2.1 (ne3 _ (by rw [(yg2 J3).2.2]; decide)) (fun f hf => nn f hf _)
    have r5 := q5_hx f5 Fu (yg4 J3).2.1 (ne3 _ (by rw [(yg4 J3).2.2]; decide)) (List.not_mem_nil)
    have r6 := q6_hx f6 Fu (yg5 J3).2.1 (ne3 _ (by rw [(yg5 J3).2.2]; decide)) (fun r hr hb => ne3 _ (by rw [(Q22 r hr hb).1]; decide)) (fun f hf => nn f hf _)
    have rj := qj_hx fj Fu
    have rb : xi u 218 (g 0) = a.1 6 0 := by rw [Fu.2.1 218 _ (List.not_mem_nil) (by decide) (by decide) (by rw [yg0 J3]; decide)]; exact fb
    have tu := fT_hx t3 Fu (by rw [yg0 J3]; decide) (by rw [(yg6 J3).2]; decide) (by rw [(yg7 J3).2]; decide) (List.not_mem_nil)
    have wt : ∀ x, xt τ7 x ≠ 0 → xt u x = xt τ7 x := fun x hx => A.1.1 x hx
    have ex := A.2.2.2.2.2.2.1
    rw [ki_toN sg] at ex
    refine ⟨t8_ (t8_ T 6 m p) 20 m q, N, n22, ⟨f0, r1, r2, r3, r4, ⟨?_, by show m + 1 ≤ 6; omega, fun i hi => ?_⟩, rj, r6, rb, r5⟩, ?_⟩
    · show (xi u 18 (g 3)).toInt = ((m + 1 : Nat) : Int)
      rw [A.2.2.2.1, va_up_self]
      exact ki_addN sg ki_z1 (by omega)
    · have hi : i < m + 1 := hi
      show (xe u (g 3) i = some (va_up (T 6) m p i) ∧ xt u (va_up (T 6) m p i) = 6) ∧ xi u 96 (va_up (T 6) m p i) = upd day m l2 i ∧ (lc_ (va_up (T 6) m p i) (va_up (T 20) m q i) (p_flat (if i = m then rs else RL i)) u ∧ xt u (va_up (T 20) m q i) = 20) ∧ va_up (T 20) m q i ≠ st ∧ va_up (T 20) m q i ≠ na ∧ ∀ x ∈ (if i = m then rs else RL i), ed_ 33 x.2 0 1
      by_cases c : i = m
      · rw [c, va_up_self, va_up_self, w_updS, if_pos rfl]
        have qst : q ≠ st := fun e => by have := fj.2.2.1; rw [← e, q03] at this; omega
        have qna : q ≠ na := fun e => by have := fj.2.2.2; rw [← e, q03] at this; omega
        refine ⟨⟨ex, (wt p (by rw [tp7]; decide)).trans tp7⟩, by rw [A.2.2.1 96 (by decide) (by decide)]; exact v96, ⟨⟨by rw [A.2.2.2.2.1 97 (by decide)]; exact r7, ?_, k5, fun i hi => ?_⟩, (wt q (by rw [tq7]; decide)).trans tq7⟩, qst, qna, pe_text (n := n') (f := F) 13 0 _ rs ⟨0, Nat.zero_le _, rfl⟩ ep⟩
        · rw [A.1.2.2.1 q (by rw [tq7]; decide)]
          exact nq7
        · rw [(XA q (by rw [tq7]; decide)).2]
          exact aq7 i hi
      · rw [va_up_ne _ _ c, va_up_ne _ _ c, w_updN c, if_neg c]
        obtain ⟨⟨a1, a2⟩, a3, ⟨⟨b1', b2', b3', b4'⟩, b5'⟩, a4, a5, a6⟩ := f7.2.2 i (by omega)
        have s3' := f7.1
        have o6 : xt τ3 (T 6 i) ≠ 0 := by rw [a2]; decide
        have o20 : xt τ3 (T 20 i) ≠ 0 := by rw [b5']; decide
        refine ⟨⟨by rw [(Fu.2.2.2.1 (g 3) (yg3 J3).2.1).2 i (by omega)]; exact a1, fg_tag Fu.1 a2 (by decide)⟩, by rw [Fu.2.1 96 _ (List.not_mem_nil) (by decide) (by decide) o6]; exact a3, ⟨⟨by rw [Fu.1.2.1 97 _ (by decide) o6]; exact b1', by rw [Fu.1.2.2.1 _ o20]; exact b2', b3', fun j hj => by rw [Fu.2.2.2.2 _ o20]; exact b4' j hj⟩, fg_tag Fu.1 b5' (by decide)⟩, a4, a5, a6⟩
    · obtain ⟨x1, x2, x3, x4, x5, x6⟩ := tu
      refine ⟨x1, x2, x3, fun i hi => ?_, x5, x6⟩
      have hi : i < m + 1 := hi
      show va_up (T 20) m q i ≠ tb ∧ va_up (T 20) m q i ≠ ca
      by_cases c : i = m
      · rw [c, va_up_self]
        exact ⟨fun e => by have := t3.2.1.2.2.1; rw [← e, q03] at this; omega, fun e => by rw [← e, q03] at tca3; omega⟩
      · rw [va_up_ne _ _ c]
        exact x4 i (by omega)
end
