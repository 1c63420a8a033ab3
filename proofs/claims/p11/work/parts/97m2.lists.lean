/-! the class's rows of logs -/
theorem vy_xai {σ : kx_S} {l y : Nat} : vJx4a65c_add_9ea2d l y σ (fun _ u => ∀ a, xt σ a ≠ 0 → xt u a = xt σ a ∧ xai u a = xai σ a) := by
  refine jfJx4a65c_add_9ea2d (I := fun u => ∀ a, xt σ a ≠ 0 → xt u a = xt σ a ∧ xai u a = xai σ a) ?_ (fun _ _ h => h) _ _ _ (fun _ _ => ⟨rfl, rfl⟩)
  intro u h
  refine ⟨fun f _ => ⟨fun a v => h, fun a v => h, fun a v => h⟩, fun q => absurd q (by decide), fun q => absurd q (by decide), fun _ => ⟨fun a i v => h, fun a f => h⟩, fun q => absurd q (by decide), fun q => absurd q (by decide), fun t ht p hp => ?_, fun t ht p hp n a ha => ?_⟩
  · have : 1100 + t = 1222 := by
      simp at ht
      omega
    intro a ha
    have ne : a ≠ p := fun e => ha (by rw [← (h a ha).1, e]; exact hp)
    refine ⟨?_, (h a ha).2⟩
    show va_up (xt u) p t a = _
    rw [va_up_ne _ _ ne]
    exact (h a ha).1
  · have ne : a ≠ p := fun e => ha (by rw [← (h a ha).1, e]; exact hp)
    refine ⟨?_, ?_⟩
    · show va_up (xt u) p t a = _
      rw [va_up_ne _ _ ne]
      exact (h a ha).1
    · show va_up u.2.2.2.2.2.1 p _ a = _
      rw [va_up_ne _ _ ne]
      exact (h a ha).2
theorem vy_xaiR {σ : kx_S} {l : Nat} {i : Int32} : vJx4a65c_remove_915e3 l i σ (fun _ u => ∀ a, xai u a = xai σ a) := by
  refine jfJx4a65c_remove_915e3 (I := fun u => ∀ a, xai u a = xai σ a) ?_ (fun _ _ h => h) _ _ _ (fun _ => rfl)
  intro u h
  refine ⟨fun f _ => ⟨fun a v => h, fun a v => h, fun a v => h⟩, fun q => absurd q (by decide), fun q => absurd q (by decide), fun _ => ⟨fun a i v => h, fun a f => h⟩, fun q => absurd q (by decide), fun q => absurd q (by decide), fun t ht p hp => h, fun t ht p hp n a => ?_⟩
  exfalso
  simp at ht
  omega
theorem vy_rem0 {σ : kx_S} {l d : Nat} {i : Int32} {p m : Nat} {Q : Option Nat → kx_S → Prop} (hd : xr σ 17 l = some d) (hi : i.toInt = (p : Int)) (hs : (xi σ 18 l).toInt = (m : Int)) (hm : m ≤ 400) (kk : ∀ q τ, (∀ f, xr τ f = xr σ f) → (∀ j, j < p → xar τ d j = xar σ d j) → (∀ j, p ≤ j → j + 1 < m → xar τ d j = xar σ d (j + 1)) → Q q τ) : vJx4a65c_remove_915e3 l i σ Q := by
  unfold vJx4a65c_remove_915e3
  intro _
  unfold vJ15_checkIndex_7cf53 vJ3_checkIndex_8e157
  refine ⟨fun _ => trivial, fun c => ⟨fun c2 => ?_, fun _ => trivial⟩⟩
  rw [ki_lt, hi, hs] at c2
  intro _ a5 e5 _ _ q9 _
  obtain rfl := Option.some.inj (hd.symm.trans e5)
  unfold vJx4a65c_fastRemove_b59b0
  rintro _ σ10 rfl v12 e12
  have x18 : xi (xsi σ 16 l (xi σ 16 l + 1)) 18 l = xi σ 18 l := rfl
  rw [x18] at e12
  rw [x18]
  have hv : v12.toInt = ((m - 1 : Nat) : Int) := by
    rw [e12, ki_sub (by rw [hs, ki_z1]; omega) (by rw [hs, ki_z1]; omega), hs, ki_z1]
    omega
  have ev : v12.toNatClampNeg = m - 1 := by rw [ki_nat, hv]; omega
  rw [← e12, ki_le, hv, hi]
  have last : ∀ τ1 : kx_S, (∀ f, xr τ1 f = xr σ f) → (∀ j, j < p → xar τ1 d j = xar σ d j) → (∀ j, p ≤ j → j + 1 < m → xar τ1 d j = xar σ d (j + 1)) → vJx4a65c_fastRemove_b59b0_34 (fun σ10 => Q q9 σ10) l d v12 τ1 := by
    intro τ1 u1 u2 u3
    unfold vJx4a65c_fastRemove_b59b0_34
    rintro _ σ2 rfl _ _ σ6 rfl
    rw [ev]
    refine kk q9 _ u1 (fun j hj => ?_) (fun j h1 h2 => ?_)
    · show va_up (xar τ1) d (va_up (xar τ1 d) (m - 1) none) d j = _
      rw [va_up_self, va_up_ne _ _ (by omega)]
      exact u2 j hj
    · show va_up (xar τ1) d (va_up (xar τ1 d) (m - 1) none) d j = _
      rw [va_up_self, va_up_ne _ _ (by omega)]
      exact u3 j h1 h2
  refine ⟨fun c3 => last _ (fun _ => rfl) (fun _ _ => rfl) (fun j h1 h2 => by omega), fun c3 => ?_⟩
  have h1 : (i + 1).toNatClampNeg = p + 1 := by
    rw [ki_nat, ki_add (by rw [hi, ki_z1]; omega) (by rw [hi, ki_z1]; omega), hi, ki_z1]
    omega
  have h2 : i.toNatClampNeg = p := by rw [ki_nat, hi]; omega
  have h3 : (v12 - i).toNatClampNeg = m - 1 - p := by
    rw [ki_nat, ki_sub (by rw [hv, hi]; omega) (by rw [hv, hi]; omega), hv, hi]
    omega
  rw [h1, h2, h3]
  rintro _ _ _ _ _ _ _ σ21 rfl
  refine last _ (fun _ => rfl) (fun j hj => ?_) (fun j g1 g2 => ?_)
  · show va_up (xar σ) d (va_cpy (xar σ d) (xar σ d) (p + 1) p (m - 1 - p)) d j = _
    rw [va_up_self]
    unfold va_cpy
    rw [if_neg (by omega)]
  · show va_up (xar σ) d (va_cpy (xar σ d) (xar σ d) (p + 1) p (m - 1 - p)) d j = _
    rw [va_up_self]
    unfold va_cpy
    rw [if_pos (by omega)]
    congr 1
    omega
/-- a log comes into a row: what is known after -/
theorem vy_addlog {s : sz_T} {g κ : Nat → Nat} {B n : Nat} {σ : kx_S} {l y : Nat} {Q : Int32 → kx_S → Prop} (J : yJ_ s g κ B n σ) (hB : B ≤ 3000) (hn : n ≤ 200) (hl : xt σ l = 1) (k8 : κ l = 8) (h2 : l ≠ g 2) (hy : xt σ y = 8) (hs : (xi σ 18 l).toInt < 100) (kk : ∀ τ, yJ_ s g κ B n τ → ya_ l y σ τ → (∀ a, xt σ a ≠ 0 → xai τ a = xai σ a) → Q 1 τ) : vJx4a65c_add_9ea2d l y σ Q := by
  have w1 : wJx4a65c_add_9ea2d l y σ (fun r τ => r = 1 ∧ yJ_ s g κ B n τ ∧ ya_ l y σ τ) := by
    refine ry_add J.1 hB hn hl (by rw [hy, k8]) (by unfold ylb; rw [if_neg h2]; omega) (fun τ L A => ⟨rfl, ?_, A⟩)
    obtain ⟨a1, a2, a3, a4, a5, a6, a7, a8⟩ := A
    have S : ∀ l', xt σ l' = 1 → (κ l' ≠ 8 ∨ l' = g 2) → xi τ 18 l' = xi σ 18 l' := fun l' _ h => by
      rw [a4, va_up_ne _ _ (fun e => ?_)]
      rw [e] at h
      rcases h with h | h
      · exact h k8
      · exact h2 h
    refine yI_tr J L a1 a2 (fun f hf => a3 f ?_ ?_) S (fun i hi => a6 (g 1) J.2.2.1.2.1.2.1 i hi)
    · intro e; subst e; exact absurd hf (by decide)
    · intro e; subst e; exact absurd hf (by decide)
  have w2 := jcJx4a65c_add_9ea2d (Q'' := fun r τ => (r = 1 ∧ yJ_ s g κ B n τ ∧ ya_ l y σ τ) ∧ ∀ a, xt σ a ≠ 0 → xt τ a = xt σ a ∧ xai τ a = xai σ a) (fun _ _ a b => ⟨a, b⟩) _ _ _ w1 vy_xai
  refine jaJx4a65c_add_9ea2d (fun r τ h => ?_) _ _ _ w2
  rw [h.1.1]
  exact kk τ h.1.2.1 h.1.2.2 (fun a ha => (h.2 a ha).2)
theorem vy_remlog {s : sz_T} {g κ : Nat → Nat} {B n : Nat} {σ : kx_S} {l p m : Nat} {i : Int32} {Q : Option Nat → kx_S → Prop} (J : yJ_ s g κ B n σ) (hl : xt σ l = 1) (k8 : κ l = 8) (h2 : l ≠ g 2) (hi : i.toInt = (p : Int)) (hs : (xi σ 18 l).toInt = (m : Int)) (hp : p < m) (kk : ∀ q τ, yJ_ s g κ B n τ → yr_ l σ τ → (∀ j, j < p → xe τ l j = xe σ l j) → (∀ j, p ≤ j → j + 1 < m → xe τ l j = xe σ l (j + 1)) → (∀ a, xai τ a = xai σ a) → Q q τ) : vJx4a65c_remove_915e3 l i σ Q := by
  have w1 : wJx4a65c_remove_915e3 l i σ (fun q τ => yJ_ s g κ B n τ ∧ yr_ l σ τ) := by
    refine ry_remove J.1 hl (by omega) (by omega) (fun q τ L A => ⟨?_, A⟩)
    obtain ⟨a1, a2, a3, a4, a5, a6, a7⟩ := A
    have S : ∀ l', xt σ l' = 1 → (κ l' ≠ 8 ∨ l' = g 2) → xi τ 18 l' = xi σ 18 l' := fun l' _ h => by
      rw [a4, va_up_ne _ _ (fun e => ?_)]
      rw [e] at h
      rcases h with h | h
      · exact h k8
      · exact h2 h
    refine yI_tr J L a1 (fun a => .inl (by rw [a2])) (fun f hf => a3 f ?_ ?_) S (fun j hj => a6 (g 1) J.2.2.1.2.1.2.1 (fun e => ?_) (by omega) j)
    · intro e; subst e; exact absurd hf (by decide)
    · intro e; subst e; exact absurd hf (by decide)
    · have := J.2.2.1.2.1.2.2
      rw [e, k8] at this
      omega
  obtain ⟨d, hd, _, hb, _⟩ := J.1.1 l hl
  have hm : m ≤ 400 := by have := ry_size J.1 hl; omega
  have w2 := jcJx4a65c_remove_915e3 (Q'' := fun q τ => (yJ_ s g κ B n τ ∧ yr_ l σ τ) ∧ (∀ j, j < p → xe τ l j = xe σ l j) ∧ (∀ j, p ≤ j → j + 1 < m → xe τ l j = xe σ l (j + 1))) (Q' := fun q τ => (∀ j, j < p → xe τ l j = xe σ l j) ∧ (∀ j, p ≤ j → j + 1 < m → xe τ l j = xe σ l (j + 1))) (fun _ _ a b => ⟨a, b⟩) _ _ _ w1 (vy_rem0 hd hi hs hm (fun q τ u1 u2 u3 => by
    have hd' : xr τ 17 l = some d := by rw [u1]; exact hd
    refine ⟨fun j hj => ?_, fun j h1 h2 => ?_⟩
    · rw [xe_some hd', xe_some hd]; exact u2 j hj
    · rw [xe_some hd', xe_some hd]; exact u3 j h1 h2))
  have w3 := jcJx4a65c_remove_915e3 (Q'' := fun q τ => ((yJ_ s g κ B n τ ∧ yr_ l σ τ) ∧ (∀ j, j < p → xe τ l j = xe σ l j) ∧ (∀ j, p ≤ j → j + 1 < m → xe τ l j = xe σ l (j + 1))) ∧ ∀ a, xai τ a = xai σ a) (fun _ _ a b => ⟨a, b⟩) _ _ _ w2 vy_xaiR
  exact jaJx4a65c_remove_915e3 (fun q τ h => kk q τ h.1.1.1 h.1.1.2 h.1.2.1 h.1.2.2 h.2) _ _ _ w3
/-! what a step leaves as it was: W are the int fields that it may write -/
def hf_ (W : List Nat) (g κ : Nat → Nat) (st na : Nat) (σ τ : kx_S) : Prop :=
  fg_ σ τ ∧ (∀ f a, f ∉ W → f ≠ 16 → f ≠ 18 → xt σ a ≠ 0 → xi τ f a = xi σ f a) ∧
  (∀ l, xt σ l = 1 → (κ l ≠ 8 ∨ l = g 2) → xi τ 18 l = xi σ 18 l ∧ ∀ i : Nat, (i : Int) < (xi σ 18 l).toInt → xe τ l i = xe σ l i) ∧
  (∀ a, xt σ a ≠ 0 → a ≠ st → a ≠ na → xai τ a = xai σ a) ∧ ∀ a, xt τ a = xt σ a ∨ xt σ a = 0 ∧ xt τ a = 22
section
variable {W : List Nat} {g κ : Nat → Nat} {st na : Nat}
theorem hf_refl {σ : kx_S} : hf_ W g κ st na σ σ := ⟨fg_refl, fun _ _ _ _ _ _ => rfl, fun _ _ _ => ⟨rfl, fun _ _ => rfl⟩, fun _ _ _ _ => rfl, fun _ => .inl rfl⟩
theorem hf_trans {a b c : kx_S} (h : hf_ W g κ st na a b) (k : hf_ W g κ st na b c) : hf_ W g κ st na a c := by
  have tg : ∀ x, xt a x ≠ 0 → xt b x ≠ 0 := fun x hx => by rw [h.1.1 x hx]; exact hx
  refine ⟨fg_trans h.1 k.1, fun f x h1 h2 h3 h4 => (k.2.1 f x h1 h2 h3 (tg x h4)).trans (h.2.1 f x h1 h2 h3 h4), fun l h1 h2 => ?_, fun x h1 h2 h3 => (k.2.2.2.1 x (tg x h1) h2 h3).trans (h.2.2.2.1 x h1 h2 h3), fun x => ?_⟩
  · obtain ⟨p1, p2⟩ := h.2.2.1 l h1 h2
    obtain ⟨q1, q2⟩ := k.2.2.1 l (fg_tag h.1 h1 (by decide)) h2
    exact ⟨q1.trans p1, fun i hi => (q2 i (by rw [p1]; exact hi)).trans (p2 i hi)⟩
  · rcases h.2.2.2.2 x with e | ⟨e1, e2⟩
    · rcases k.2.2.2.2 x with d | ⟨d1, d2⟩
      · exact .inl (d.trans e)
      · exact .inr ⟨e.symm.trans d1, d2⟩
    · rcases k.2.2.2.2 x with d | ⟨d1, d2⟩
      · exact .inr ⟨e1, d.trans e2⟩
      · exact .inr ⟨e1, d2⟩
theorem hf_sub {V : List Nat} {σ τ : kx_S} (h : hf_ V g κ st na σ τ) (s : ∀ f ∈ V, f ∈ W) : hf_ W g κ st na σ τ := ⟨h.1, fun f a h1 => h.2.1 f a (fun q => h1 (s f q)), h.2.2⟩
theorem hf_si {σ τ : kx_S} {f x : Nat} {v : Int32} (h : hf_ W g κ st na σ τ) (hf : f ∈ W) (h18 : f ≠ 18) : hf_ W g κ st na σ (xsi τ f x v) := by
  refine hf_trans h ⟨⟨fun _ _ => rfl, fun _ _ _ _ => rfl, fun _ _ => rfl, rfl⟩, fun e a h1 h2 h3 _ => ?_, fun l _ _ => ⟨?_, fun _ _ => rfl⟩, fun _ _ _ _ => rfl, fun _ => .inl rfl⟩
  · show (if e = f then va_up (τ.2.1 f) x v else τ.2.1 e) a = τ.2.1 e a
    rw [if_neg (fun q => h1 (by rw [q]; exact hf))]
  · show (if 18 = f then va_up (τ.2.1 f) x v else τ.2.1 18) l = τ.2.1 18 l
    rw [if_neg (Ne.symm h18)]
theorem hf_sal {σ τ : kx_S} {x i : Nat} {v : Int64} (h : hf_ W g κ st na σ τ) : hf_ W g κ st na σ (xsal τ x i v) := h
theorem hf_jr {σ τ u : kx_S} {Jd : Nat} (h : hf_ W g κ st na σ τ) (k : jr_ Jd st na τ u) (h1 : 82 ∈ W) (h2 : 83 ∈ W) : hf_ W g κ st na σ u := by
  obtain ⟨k1, k2, k3, k4, k5, k6, k7⟩ := k
  have ex : ∀ l i, xe u l i = xe τ l i := by
    intro l i
    have e1 : xr u 17 l = xr τ 17 l := by show u.2.2.1 17 l = τ.2.2.1 17 l; rw [k3]
    unfold xe
    rw [e1]
    split
    · show u.2.2.2.2.2.2.2.1 _ _ = τ.2.2.2.2.2.2.2.1 _ _
      rw [k7]
    · rfl
  refine hf_trans h ⟨⟨fun a _ => ?_, fun f a _ _ => ?_, fun a _ => ?_, ?_⟩, fun f a p1 p2 p3 _ => k1 f a ?_, fun l _ _ => ⟨k1 18 l ?_, fun i _ => ex l i⟩, fun a _ p2 p3 => k6 a p2 p3, fun a => .inl ?_⟩
  · show u.1 a = τ.1 a; rw [k2]
  · show u.2.2.1 f a = τ.2.2.1 f a; rw [k3]
  · show u.2.2.2.2.1 a = τ.2.2.2.2.1 a; rw [k5]
  · show u.2.2.2.2.2.2.2.2.2 = τ.2.2.2.2.2.2.2.2.2; rw [k7]
  · rintro ⟨_, q | q⟩
    · exact p1 (by rw [q]; exact h1)
    · exact p1 (by rw [q]; exact h2)
  · rintro ⟨_, q | q⟩ <;> exact absurd q (by decide)
  · show u.1 a = τ.1 a; rw [k2]
theorem hf_add {σ τ u : kx_S} {l y : Nat} (h : hf_ W g κ st na σ τ) (A : ya_ l y τ u) (X : ∀ a, xt τ a ≠ 0 → xai u a = xai τ a) (k8 : κ l = 8) (h2 : l ≠ g 2) : hf_ W g κ st na σ u := by
  obtain ⟨a1, a2, a3, a4, a5, a6, a7, a8⟩ := A
  refine hf_trans h ⟨a1, fun f a _ p2 p3 _ => by rw [a3 f p2 p3], fun l' p1 p2 => ⟨?_, fun i hi => a6 l' p1 i hi⟩, fun a p1 _ _ => X a p1, a2⟩
  rw [a4, va_up_ne _ _ (fun e => ?_)]
  rw [e] at p2
  rcases p2 with q | q
  · exact q k8
  · exact h2 q
theorem hf_rem {σ τ u : kx_S} {l : Nat} (h : hf_ W g κ st na σ τ) (A : yr_ l τ u) (X : ∀ a, xai u a = xai τ a) (k8 : κ l = 8) (h2 : l ≠ g 2) : hf_ W g κ st na σ u := by
  obtain ⟨a1, a2, a3, a4, a5, a6, a7⟩ := A
  have ne : ∀ l', (κ l' ≠ 8 ∨ l' = g 2) → l' ≠ l := by
    intro l' p e
    rw [e] at p
    rcases p with q | q
    · exact q k8
    · exact h2 q
  refine hf_trans h ⟨a1, fun f a _ p2 p3 _ => by rw [a3 f p2 p3], fun l' p1 p2 => ⟨by rw [a4, va_up_ne _ _ (ne l' p2)], fun i hi => a6 l' p1 (ne l' p2) (by omega) i⟩, fun a _ _ _ => X a, fun a => .inl (by rw [a2])⟩
end
/-! the class's river: T k i is where the i-th thing of kind k lies; N is the way back -/
/-- the places are places of their kind, and no two are one -/
def q0_ (T : Nat → Nat → Nat) (N g κ : Nat → Nat) (nr nl : Nat) (a : ra_T) : Prop :=
  (∀ k, vk_ nr a k → κ (T 1 k) = 8 ∧ T 1 k ≠ g 2 ∧ N (T 1 k) = k) ∧ (∀ r c, r < nr → c < ln_ a r → N (T 3 (12 * r + c)) = 12 * r + c) ∧ (∀ r, r < nr → κ (T 21 r) = 3 ∧ N (T 10 r) = r) ∧ ∀ j, j < nl → N (T 8 j) = j
def q1_ (T : Nat → Nat → Nat) (g1 nr : Nat) (a : ra_T) (σ : kx_S) : Prop := (xi σ 18 g1).toInt = (nr : Int) ∧ ∀ r, r < nr →
  (xe σ g1 r = some (T 10 r) ∧ xt σ (T 10 r) = 10) ∧ (xi σ 160 (T 10 r)).toInt = (r : Int) ∧ (xi σ 162 (T 10 r) = a.1 16 r ∧ xi σ 165 (T 10 r) = a.1 21 r ∧ xi σ 169 (T 10 r) = a.1 18 r ∧ xi σ 170 (T 10 r) = a.1 19 r ∧ xi σ 171 (T 10 r) = a.1 23 r) ∧
  ((xr σ 161 (T 10 r) = none ∧ a.1 13 r = -1) ∨ ∃ q : Nat, (a.1 13 r).toInt = (q : Int) ∧ q < r ∧ xr σ 161 (T 10 r) = some (T 10 q)) ∧
  ((xr σ 172 (T 10 r) = none ∧ a.1 22 r = 0) ∨ (¬ a.1 22 r = 0 ∧ xr σ 172 (T 10 r) = some (T 2 r) ∧ xt σ (T 2 r) = 2 ∧ xr σ 32 (T 2 r) = some (T 1 (120 + r)) ∧ xr σ 33 (T 2 r) = some (T 22 r) ∧ xi σ 34 (T 2 r) = a.1 27 r ∧ xi σ 35 (T 2 r) = a.1 28 r)) ∧
  (xr σ 163 (T 10 r) = some (T 21 r) ∧ xt σ (T 21 r) = 1 ∧ (xi σ 18 (T 21 r)).toInt = (ln_ a r : Int) ∧ ln_ a r ≤ 12 ∧ 1 ≤ ln_ a r)
def q2_ (T : Nat → Nat → Nat) (nr : Nat) (a : ra_T) (σ : kx_S) : Prop := ∀ r, r < nr → ∀ c, c < ln_ a r → (xe σ (T 21 r) c = some (T 3 (12 * r + c)) ∧ xt σ (T 3 (12 * r + c)) = 3) ∧ xi σ 48 (T 3 (12 * r + c)) = a.1 15 r ∧ xr σ 49 (T 3 (12 * r + c)) = some (T 1 (12 * r + c)) ∧ xi σ 50 (T 3 (12 * r + c)) = a.1 33 (12 * r + c) ∧ xi σ 51 (T 3 (12 * r + c)) = a.1 34 (12 * r + c)
def q3_ (T : Nat → Nat → Nat) (nr : Nat) (a : ra_T) (σ : kx_S) : Prop := ∀ k, vk_ nr a k → xt σ (T 1 k) = 1 ∧ (xi σ 18 (T 1 k)).toInt = ((a.2 k).length : Int) ∧ ∀ i g, (a.2 k)[i]? = some g → xe σ (T 1 k) i = some (T 8 g)
def q4_ (T : Nat → Nat → Nat) (g2 nl : Nat) (a : ra_T) (σ : kx_S) : Prop := (xi σ 18 g2).toInt = (nl : Int) ∧ ∀ j, j < nl → (xe σ g2 j = some (T 8 j) ∧ xt σ (T 8 j) = 8) ∧ (xi σ 128 (T 8 j)).toInt = (j : Int) ∧ (xi σ 129 (T 8 j) = a.1 35 j ∧ xi σ 130 (T 8 j) = a.1 36 j ∧ xi σ 131 (T 8 j) = a.1 37 j) ∧ xi σ 132 (T 8 j) = a.1 38 j ∧ xi σ 133 (T 8 j) = a.1 39 j ∧ xi σ 134 (T 8 j) = a.1 40 j ∧ xi σ 135 (T 8 j) = a.1 41 j ∧ xi σ 136 (T 8 j) = a.1 42 j
section
variable {T : Nat → Nat → Nat} {W : List Nat} {g κ : Nat → Nat} {st na nr nl : Nat} {a : ra_T}
theorem q1_hf {σ τ : kx_S} (h : q1_ T (g 1) nr a σ) (F : hf_ W g κ st na σ τ) (t1 : xt σ (g 1) = 1) (k1 : κ (g 1) = 10) (kc : ∀ r, r < nr → κ (T 21 r) = 3) (hW : ∀ f ∈ W, f ∉ [160, 162, 165, 169, 170, 171, 34, 35]) : q1_ T (g 1) nr a τ := by
  obtain ⟨h1, h2⟩ := h
  obtain ⟨f1, f2⟩ := F.2.2.1 (g 1) t1 (.inl (by rw [k1]; decide))
  refine ⟨by rw [f1]; exact h1, fun r hr => ?_⟩
  obtain ⟨⟨a1, a2⟩, a3, ⟨a4, a5, a6, a7, a8⟩, a9, a10, a11, a12, a13, a14⟩ := h2 r hr
  have tR : xt σ (T 10 r) ≠ 0 := by rw [a2]; decide
  have xk : ∀ {f b : Nat}, f ∈ [160, 162, 165, 169, 170, 171, 34, 35] → xt σ b ≠ 0 → xi τ f b = xi σ f b := fun {f b} hf hb => F.2.1 f b (fun q => hW f q hf) (by intro e; rw [e] at hf; exact absurd hf (by decide)) (by intro e; rw [e] at hf; exact absurd hf (by decide)) hb
  obtain ⟨c1, c2⟩ := F.2.2.1 (T 21 r) a12 (.inl (by rw [kc r hr]; decide))
  refine ⟨⟨by rw [f2 r (by omega)]; exact a1, fg_tag F.1 a2 (by decide)⟩, by rw [xk (by decide) tR]; exact a3, ⟨by rw [xk (by decide) tR]; exact a4, by rw [xk (by decide) tR]; exact a5, by rw [xk (by decide) tR]; exact a6, by rw [xk (by decide) tR]; exact a7, by rw [xk (by decide) tR]; exact a8⟩, ?_, ?_, by rw [F.1.2.1 163 _ (by decide) tR]; exact a11, fg_tag F.1 a12 (by decide), by rw [c1]; exact a13, a14⟩
  · rw [F.1.2.1 161 _ (by decide) tR]
    exact a9
  · rw [F.1.2.1 172 _ (by decide) tR]
    rcases a10 with q | ⟨q1, q2, q3, q4, q5, q6, q7⟩
    · exact .inl q
    · have tB : xt σ (T 2 r) ≠ 0 := by rw [q3]; decide
      exact .inr ⟨q1, q2, fg_tag F.1 q3 (by decide), by rw [F.1.2.1 32 _ (by decide) tB]; exact q4, by rw [F.1.2.1 33 _ (by decide) tB]; exact q5, by rw [xk (by decide) tB]; exact q6, by rw [xk (by decide) tB]; exact q7⟩
theorem q2_hf {σ τ : kx_S} (h : q2_ T nr a σ) (h1 : q1_ T (g 1) nr a σ) (F : hf_ W g κ st na σ τ) (kc : ∀ r, r < nr → κ (T 21 r) = 3) (hW : ∀ f ∈ W, f ∉ [48, 50, 51]) : q2_ T nr a τ := by
  intro r hr c hc
  obtain ⟨⟨a1, a2⟩, a3, a4, a5, a6⟩ := h r hr c hc
  obtain ⟨_, _, _, _, _, b1, b2, b3, b4⟩ := h1.2 r hr
  obtain ⟨c1, c2⟩ := F.2.2.1 (T 21 r) b2 (.inl (by rw [kc r hr]; decide))
  have tC : xt σ (T 3 (12 * r + c)) ≠ 0 := by rw [a2]; decide
  have xk : ∀ {f : Nat}, f ∈ [48, 50, 51] → xi τ f (T 3 (12 * r + c)) = xi σ f (T 3 (12 * r + c)) := fun {f} hf => F.2.1 f _ (fun q => hW f q hf) (by intro e; rw [e] at hf; exact absurd hf (by decide)) (by intro e; rw [e] at hf; exact absurd hf (by decide)) tC
  exact ⟨⟨by rw [c2 c (by omega)]; exact a1, fg_tag F.1 a2 (by decide)⟩, by rw [xk (by decide)]; exact a3, by rw [F.1.2.1 49 _ (by decide) tC]; exact a4, by rw [xk (by decide)]; exact a5, by rw [xk (by decide)]; exact a6⟩
end
