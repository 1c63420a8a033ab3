/-! the class: its lists -/
/-- the i-th of a list -/
def xe (σ : kx_S) (l i : Nat) : Option Nat := match xr σ 17 l with
  | some d => xar σ d i
  | none => none
theorem xe_some {σ : kx_S} {l d i : Nat} (h : xr σ 17 l = some d) : xe σ l i = xar σ d i := by unfold xe; rw [h]
/-- the list of all logs (g 2) may hold 400, every other 100 -/
def ylb (g : Nat → Nat) (a : Nat) : Nat := if a = g 2 then 400 else 100
def ylc (g : Nat → Nat) (a : Nat) : Nat := if a = g 2 then 600 else 150
def yl_ (g κ : Nat → Nat) (σ : kx_S) (a : Nat) : Prop := ∃ d, xr σ 17 a = some d ∧ 0 ≤ (xi σ 18 a).toInt ∧ (xi σ 18 a).toInt ≤ (ylb g a : Int) ∧ ((d = xz σ ∧ xi σ 18 a = 0) ∨ (d ≠ xz σ ∧ xt σ d = 22 ∧ 10 ≤ xn σ d ∧ xn σ d ≤ ylc g a ∧ (xi σ 18 a).toInt ≤ (xn σ d : Int) ∧ ∀ i : Nat, (i : Int) < (xi σ 18 a).toInt → ∃ y, xar σ d i = some y ∧ xt σ y = κ a))
def ycap (σ : kx_S) (a : Nat) : Nat := match xr σ 17 a with
  | some d => if d = xz σ then 0 else xn σ d
  | none => 0
theorem ycap_some {σ : kx_S} {a d : Nat} (h : xr σ 17 a = some d) : ycap σ a = if d = xz σ then 0 else xn σ d := by unfold ycap; rw [h]
def yb_ (B n : Nat) (σ : kx_S) : Prop := ∃ LS : List Nat, LS.length = n ∧ LS.Nodup ∧ (∀ a, a ∈ LS ↔ xt σ a = 1) ∧ 5 * xc σ ≤ 5 * B + (LS.map (ycap σ)).sum
def yo_ (σ : kx_S) : Prop := ∀ a b d, xt σ a = 1 → xt σ b = 1 → xr σ 17 a = some d → xr σ 17 b = some d → d ≠ xz σ → a = b
def yL_ (g κ : Nat → Nat) (B n : Nat) (σ : kx_S) : Prop := (∀ a, xt σ a = 1 → yl_ g κ σ a) ∧ yo_ σ ∧ (∀ a, xt σ a = 1 → kx_el (κ a)) ∧ yb_ B n σ
theorem ysum_le {f : Nat → Nat} {z : Nat} : ∀ LS : List Nat, LS.Nodup → (∀ a ∈ LS, f a ≤ if a = z then 600 else 150) → (LS.map f).sum ≤ 150 * LS.length + (if z ∈ LS then 450 else 0) := by
  intro LS
  induction LS with
  | nil => intro _ _; simp
  | cons b LS ih =>
    intro nd h
    have ih := ih (List.nodup_cons.1 nd).2 (fun a ha => h a (List.mem_cons_of_mem b ha))
    have hb := h b (List.mem_cons_self)
    rw [List.map_cons, List.sum_cons, List.length_cons]
    by_cases e : b = z
    · subst e
      rw [if_neg (List.nodup_cons.1 nd).1] at ih
      rw [if_pos rfl] at hb
      rw [if_pos (List.mem_cons_self)]
      omega
    · rw [if_neg e] at hb
      by_cases m : z ∈ LS
      · rw [if_pos m] at ih
        rw [if_pos (List.mem_cons_of_mem b m)]
        omega
      · rw [if_neg m] at ih
        omega
theorem ysum_up {f f' : Nat → Nat} {l k : Nat} : ∀ LS : List Nat, LS.Nodup → l ∈ LS → (∀ a ∈ LS, a ≠ l → f' a = f a) → f l + k ≤ f' l → (LS.map f).sum + k ≤ (LS.map f').sum := by
  intro LS
  induction LS with
  | nil => intro _ h; exact absurd h (List.not_mem_nil)
  | cons b LS ih =>
    intro nd hm hs hl
    have nd2 := List.nodup_cons.1 nd
    rw [List.map_cons, List.sum_cons, List.map_cons, List.sum_cons]
    by_cases e : b = l
    · subst e
      have : LS.map f' = LS.map f := List.map_congr_left (fun a ha => hs a (List.mem_cons_of_mem b ha) (fun q => nd2.1 (q ▸ ha)))
      rw [this]
      omega
    · have hm2 : l ∈ LS := (List.mem_cons.1 hm).elim (fun q => absurd q.symm e) id
      have := ih nd2.2 hm2 (fun a ha => hs a (List.mem_cons_of_mem b ha)) hl
      rw [hs b (List.mem_cons_self) e]
      omega
theorem ycap_le {g κ : Nat → Nat} {B n : Nat} {σ : kx_S} (H : yL_ g κ B n σ) {a : Nat} (h : xt σ a = 1) : ycap σ a ≤ if a = g 2 then 600 else 150 := by
  obtain ⟨d, hd, _, _, o⟩ := H.1 a h
  rw [ycap_some hd]
  rcases o with o | o
  · rw [if_pos o.1]; omega
  · rw [if_neg o.1]; exact o.2.2.2.1
theorem ry_room {g κ : Nat → Nat} {B n : Nat} {σ : kx_S} (H : yL_ g κ B n σ) (hB : B ≤ 3000) (hn : n ≤ 200) : xc σ < kx_N := by
  obtain ⟨LS, e, nd, m, b⟩ := H.2.2.2
  have := ysum_le (f := ycap σ) (z := g 2) LS nd (fun a ha => ycap_le H ((m a).1 ha))
  have q : (if g 2 ∈ LS then 450 else 0) ≤ 450 := by split <;> omega
  show xc σ < 10000
  omega
/-! reading a list -/
theorem ry_check {i n : Int32} {σ : kx_S} {Q : Int32 → kx_S → Prop} (h0 : 0 ≤ i.toInt) (h1 : i.toInt < n.toInt) (k : Q i σ) : wJ15_checkIndex_7cf53 i n σ Q := by
  refine ⟨fun c => ?_, fun _ => ⟨fun _ => k, fun c => ?_⟩⟩
  · rw [ki_lt, ki_z0] at c; omega
  · rw [ki_lt] at c; omega
theorem ry_get {g κ : Nat → Nat} {B n : Nat} {σ : kx_S} {l : Nat} {i : Int32} {Q : Option Nat → kx_S → Prop} (H : yL_ g κ B n σ) (hl : xt σ l = 1) (h0 : 0 ≤ i.toInt) (h1 : i.toInt < (xi σ 18 l).toInt) (kk : ∀ y, xe σ l i.toNatClampNeg = some y → xt σ y = κ l → Q (some y) σ) : wJx4a65c_get_915e3 l i σ Q := by
  obtain ⟨d, hd, _, _, o⟩ := H.1 l hl
  rcases o with o | o
  · rw [o.2, ki_z0] at h1; omega
  · obtain ⟨y, ey, ty⟩ := o.2.2.2.2.2 i.toNatClampNeg (by rw [ki_nat]; omega)
    refine ⟨hl, ry_check h0 h1 ⟨hl, hl, d, hd, o.2.1, by rw [ki_in]; omega, ?_⟩⟩
    rw [ey]
    exact kk y (by rw [xe_some hd]; exact ey) ty
theorem ry_size {g κ : Nat → Nat} {B n : Nat} {σ : kx_S} {l : Nat} (H : yL_ g κ B n σ) (hl : xt σ l = 1) : 0 ≤ (xi σ 18 l).toInt ∧ (xi σ 18 l).toInt ≤ 400 := by
  obtain ⟨d, _, a, b, _⟩ := H.1 l hl
  unfold ylb at b
  split at b <;> omega
theorem ry_size1 {g κ : Nat → Nat} {B n : Nat} {σ : kx_S} {l : Nat} (H : yL_ g κ B n σ) (hl : xt σ l = 1) (h2 : l ≠ g 2) : (xi σ 18 l).toInt ≤ 100 := by
  obtain ⟨d, _, a, b, _⟩ := H.1 l hl
  unfold ylb at b
  rw [if_neg h2] at b
  omega
theorem ry_el {g κ : Nat → Nat} {B n : Nat} {σ : kx_S} {l i : Nat} (H : yL_ g κ B n σ) (hl : xt σ l = 1) (hi : (i : Int) < (xi σ 18 l).toInt) : ∃ y, xe σ l i = some y ∧ xt σ y = κ l := by
  obtain ⟨d, hd, _, _, o⟩ := H.1 l hl
  rcases o with o | o
  · rw [o.2, ki_z0] at hi; omega
  · obtain ⟨y, ey, ty⟩ := o.2.2.2.2.2 i hi
    exact ⟨y, by rw [xe_some hd]; exact ey, ty⟩
/-! what every step keeps of what is there already -/
def fg_ (σ τ : kx_S) : Prop := (∀ a, xt σ a ≠ 0 → xt τ a = xt σ a) ∧ (∀ f a, f ≠ 17 → xt σ a ≠ 0 → xr τ f a = xr σ f a) ∧ (∀ a, xt σ a ≠ 0 → xn τ a = xn σ a) ∧ xz τ = xz σ
theorem fg_refl {σ : kx_S} : fg_ σ σ := ⟨fun _ _ => rfl, fun _ _ _ _ => rfl, fun _ _ => rfl, rfl⟩
theorem fg_trans {a b c : kx_S} (h : fg_ a b) (k : fg_ b c) : fg_ a c :=
  ⟨fun x q => by rw [k.1 x (by rw [h.1 x q]; exact q), h.1 x q], fun f x q r => by rw [k.2.1 f x q (by rw [h.1 x r]; exact r), h.2.1 f x q r], fun x q => by rw [k.2.2.1 x (by rw [h.1 x q]; exact q), h.2.2.1 x q], k.2.2.2.trans h.2.2.2⟩
theorem fg_tag {σ τ : kx_S} {a t : Nat} (h : fg_ σ τ) (e : xt σ a = t) (ht : t ≠ 0) : xt τ a = t := (h.1 a (by rw [e]; exact ht)).trans e
theorem fg_ref {σ τ : kx_S} {f a t : Nat} {v : Option Nat} (h : fg_ σ τ) (e : xt σ a = t) (ht : t ≠ 0) (hf : f ≠ 17) (hv : xr σ f a = v) : xr τ f a = v := (h.2.1 f a hf (by rw [e]; exact ht)).trans hv
/-! an array of the list grows -/
theorem yL_grow {g κ : Nat → Nat} {B n : Nat} {σ τ : kx_S} {l d p N : Nat} (H : yL_ g κ B n σ) (hl : xt σ l = 1) (hd : xr σ 17 l = some d) (hp : xt σ p = 0) (hz : p ≠ xz σ)
    (t1 : xt τ = va_up (xt σ) p 22) (t2 : xi τ 18 = xi σ 18) (t3 : xr τ 17 = va_up (xr σ 17) l (some p)) (t4 : xn τ = va_up (xn σ) p N) (t5 : ∀ a, a ≠ p → xar τ a = xar σ a) (t6 : ∀ i : Nat, (i : Int) < (xi σ 18 l).toInt → xar τ p i = xar σ d i) (t7 : xc τ = xc σ + 1) (t8 : xz τ = xz σ)
    (n1 : 10 ≤ N) (n2 : N ≤ ylc g l) (n3 : ycap σ l + 5 ≤ N) (n4 : (xi σ 18 l).toInt ≤ (N : Int)) : yL_ g κ B n τ := by
  have hlp : l ≠ p := fun e => by rw [e, hp] at hl; omega
  have tag : ∀ a, xt σ a ≠ 0 → xt τ a = xt σ a := fun a h => by rw [t1, va_up_ne _ _ (fun e => h (by rw [e]; exact hp))]
  have one : ∀ a, xt τ a = 1 ↔ xt σ a = 1 := by
    intro a
    by_cases e : a = p
    · rw [t1, e, va_up_self, hp]; omega
    · rw [t1, va_up_ne _ _ e]
  have el : ∀ y a, xt σ a = 1 → xt σ y = κ a → xt τ y = κ a := fun y a ha hy => by rw [tag y (by rw [hy]; exact (H.2.2.1 a ha).ne), hy]
  refine ⟨fun a ha => ?_, fun a b x ha hb xa xb hx => ?_, fun a ha => H.2.2.1 a ((one a).1 ha), ?_⟩
  · have ha' := (one a).1 ha
    obtain ⟨d2, hd2, s1, s2, o⟩ := H.1 a ha'
    by_cases e : a = l
    · subst e
      rw [hd] at hd2
      have ed : d = d2 := Option.some.inj hd2
      subst ed
      refine ⟨p, by rw [t3, va_up_self], by rw [t2]; exact s1, by rw [t2]; exact s2, .inr ⟨by rw [t8]; exact hz, by rw [t1, va_up_self], by rw [t4, va_up_self]; exact n1, by rw [t4, va_up_self]; exact n2, by rw [t4, va_up_self, t2]; exact n4, fun i hi => ?_⟩⟩
      rw [t2] at hi
      rw [t6 i hi]
      rcases o with o | o
      · rw [o.2, ki_z0] at hi; omega
      · obtain ⟨y, ey, ty⟩ := o.2.2.2.2.2 i hi
        exact ⟨y, ey, el y a ha' ty⟩
    · refine ⟨d2, by rw [t3, va_up_ne _ _ e]; exact hd2, by rw [t2]; exact s1, by rw [t2]; exact s2, ?_⟩
      rcases o with o | o
      · exact .inl ⟨by rw [t8]; exact o.1, by rw [t2]; exact o.2⟩
      · have dp : d2 ≠ p := fun q => by have := o.2.1; rw [q, hp] at this; omega
        refine .inr ⟨by rw [t8]; exact o.1, by rw [tag d2 (by rw [o.2.1]; decide)]; exact o.2.1, by rw [t4, va_up_ne _ _ dp]; exact o.2.2.1, by rw [t4, va_up_ne _ _ dp]; exact o.2.2.2.1, by rw [t4, va_up_ne _ _ dp, t2]; exact o.2.2.2.2.1, fun i hi => ?_⟩
        rw [t2] at hi
        rw [t5 d2 dp]
        obtain ⟨y, ey, ty⟩ := o.2.2.2.2.2 i hi
        exact ⟨y, ey, el y a ha' ty⟩
  · have ha' := (one a).1 ha
    have hb' := (one b).1 hb
    have np : ∀ c, xt σ c = 1 → xr σ 17 c ≠ some p := by
      intro c hc q
      obtain ⟨d2, hd2, _, _, o⟩ := H.1 c hc
      rw [q] at hd2
      have := Option.some.inj hd2
      rcases o with o | o
      · exact hz (this.trans o.1)
      · have t := o.2.1
        rw [← this, hp] at t
        omega
    rw [t3] at xa xb
    rw [t8] at hx
    by_cases ea : a = l
    · by_cases eb : b = l
      · rw [ea, eb]
      · rw [ea, va_up_self] at xa
        rw [va_up_ne _ _ eb, ← xa] at xb
        exact absurd xb (np b hb')
    · by_cases eb : b = l
      · rw [eb, va_up_self] at xb
        rw [va_up_ne _ _ ea, ← xb] at xa
        exact absurd xa (np a ha')
      · rw [va_up_ne _ _ ea] at xa
        rw [va_up_ne _ _ eb] at xb
        exact H.2.1 a b x ha' hb' xa xb hx
  · obtain ⟨LS, e, nd, m, b⟩ := H.2.2.2
    refine ⟨LS, e, nd, fun a => (m a).trans (one a).symm, ?_⟩
    have := ysum_up (f := ycap σ) (f' := ycap τ) (l := l) (k := 5) LS nd ((m l).2 hl) (fun a ha hal => ?_) ?_
    · rw [t7]; omega
    · have ha' := (m a).1 ha
      obtain ⟨d2, hd2, _, _, o⟩ := H.1 a ha'
      have hd3 : xr τ 17 a = some d2 := by rw [t3, va_up_ne _ _ hal]; exact hd2
      rw [ycap_some hd2, ycap_some hd3, t8]
      rcases o with o | o
      · rw [if_pos o.1, if_pos o.1]
      · rw [if_neg o.1, if_neg o.1, t4, va_up_ne _ _ (fun q => by have := o.2.1; rw [q, hp] at this; omega)]
    · have hd3 : xr τ 17 l = some p := by rw [t3, va_up_self]
      rw [ycap_some hd3, t8, if_neg hz, t4, va_up_self]
      exact n3
