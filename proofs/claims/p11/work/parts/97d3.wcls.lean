/-! the class's water -/
theorem vy_get {σ : kx_S} {l : Nat} {i : Int32} {Q : Option Nat → kx_S → Prop} (kk : 0 ≤ i.toInt → i.toInt < (xi σ 18 l).toInt → Q (xe σ l i.toNatClampNeg) σ) : vJx4a65c_get_915e3 l i σ Q := by
  have z : (0 : Int32).toInt = 0 := by decide
  unfold vJx4a65c_get_915e3
  intro _
  unfold vJ15_checkIndex_7cf53 vJ3_checkIndex_8e157
  refine ⟨fun _ => trivial, fun c => ⟨fun d => ?_, fun _ => trivial⟩⟩
  intro _
  unfold vJx4a65c_elementData_915e3
  intro _ a e _ _
  rw [← xe_some e]
  rw [ki_lt] at c d
  exact kk (by omega) d
/-- the reaches: ad r is the r-th -/
def tg_ (ad : Nat → Nat) (n : Nat) (σ : kx_S) : Prop := (∀ R, xt σ R = 10 → ∃ r, r < n ∧ R = ad r) ∧ ∀ r, r < n → xt σ (ad r) = 10
def yv_ (ad : Nat → Nat) (n l1 L : Nat) (dm gt ml nx rm : Nat → Int32) (x : wx_T) (M : Int64) (σ : kx_S) : Prop :=
  xr σ 208 L = some l1 ∧ (xi σ 18 l1).toInt = (n : Int) ∧
  (∀ r, r < n → xe σ l1 r = some (ad r) ∧ (xi σ 160 (ad r)).toInt = (r : Int) ∧ xi σ 165 (ad r) = dm r ∧ xi σ 168 (ad r) = gt r ∧ xi σ 164 (ad r) = ml r ∧ xi σ 166 (ad r) = rm r ∧ ((xr σ 161 (ad r) = none ∧ nx r = -1) ∨ ∃ q : Nat, (nx r).toInt = (q : Int) ∧ q < r ∧ xr σ 161 (ad r) = some (ad q))) ∧
  (∀ r, r < n → xi σ 169 (ad r) = x.1 r ∧ xi σ 170 (ad r) = x.2.1 r ∧ xi σ 167 (ad r) = x.2.2.1 r) ∧ xl σ 220 L = M ∧ xl σ 221 L = x.2.2.2 ∧ tg_ ad n σ
section
variable {ad : Nat → Nat} {n l1 L : Nat} {dm gt ml nx rm : Nat → Int32} {x : wx_T} {M : Int64} {σ : kx_S}
theorem yv_inj (h : yv_ ad n l1 L dm gt ml nx rm x M σ) {r q : Nat} (hr : r < n) (hq : q < n) (e : ad r = ad q) : r = q := by
  have a := (h.2.2.1 r hr).2.1
  have b := (h.2.2.1 q hq).2.1
  rw [e, b] at a
  omega
theorem yv_169 {k : Nat} {v : Int32} (h : yv_ ad n l1 L dm gt ml nx rm x M σ) (hk : k < n) : yv_ ad n l1 L dm gt ml nx rm (upd x.1 k v, x.2) M (xsi σ 169 (ad k) v) := by
  refine ⟨h.1, h.2.1, h.2.2.1, fun r hr => ⟨?_, (h.2.2.2.1 r hr).2⟩, h.2.2.2.2⟩
  show va_up (xi σ 169) (ad k) v (ad r) = upd x.1 k v r
  by_cases c : r = k
  · rw [c, va_up_self, w_updS]
  · rw [va_up_ne _ _ (fun e => c (yv_inj h hr hk e)), w_updN c]
    exact (h.2.2.2.1 r hr).1
theorem yv_170 {k : Nat} {v : Int32} (h : yv_ ad n l1 L dm gt ml nx rm x M σ) (hk : k < n) : yv_ ad n l1 L dm gt ml nx rm (x.1, upd x.2.1 k v, x.2.2) M (xsi σ 170 (ad k) v) := by
  refine ⟨h.1, h.2.1, h.2.2.1, fun r hr => ⟨(h.2.2.2.1 r hr).1, ?_, (h.2.2.2.1 r hr).2.2⟩, h.2.2.2.2⟩
  show va_up (xi σ 170) (ad k) v (ad r) = upd x.2.1 k v r
  by_cases c : r = k
  · rw [c, va_up_self, w_updS]
  · rw [va_up_ne _ _ (fun e => c (yv_inj h hr hk e)), w_updN c]
    exact (h.2.2.2.1 r hr).2.1
theorem yv_167 {k : Nat} {v : Int32} (h : yv_ ad n l1 L dm gt ml nx rm x M σ) (hk : k < n) : yv_ ad n l1 L dm gt ml nx rm (x.1, x.2.1, upd x.2.2.1 k v, x.2.2.2) M (xsi σ 167 (ad k) v) := by
  refine ⟨h.1, h.2.1, h.2.2.1, fun r hr => ⟨(h.2.2.2.1 r hr).1, (h.2.2.2.1 r hr).2.1, ?_⟩, h.2.2.2.2⟩
  show va_up (xi σ 167) (ad k) v (ad r) = upd x.2.2.1 k v r
  by_cases c : r = k
  · rw [c, va_up_self, w_updS]
  · rw [va_up_ne _ _ (fun e => c (yv_inj h hr hk e)), w_updN c]
    exact (h.2.2.2.1 r hr).2.2
theorem yv_220 {v : Int64} (h : yv_ ad n l1 L dm gt ml nx rm x M σ) : yv_ ad n l1 L dm gt ml nx rm x v (xsl σ 220 L v) :=
  ⟨h.1, h.2.1, h.2.2.1, h.2.2.2.1, va_up_self _ _ _, h.2.2.2.2.2⟩
theorem yv_221 {v : Int64} (h : yv_ ad n l1 L dm gt ml nx rm x M σ) : yv_ ad n l1 L dm gt ml nx rm (x.1, x.2.1, x.2.2.1, v) M (xsl σ 221 L v) :=
  ⟨h.1, h.2.1, h.2.2.1, h.2.2.2.1, h.2.2.2.2.1, va_up_self _ _ _, h.2.2.2.2.2.2⟩
theorem vy_pass {k : Nat} {Q : kx_S → Prop} (h : yv_ ad n l1 L dm gt ml nx rm x M σ) (hk : k < n) (kk : ∀ τ, yv_ ad n l1 L dm gt ml nx rm (x.1, upd x.2.1 k (w_out (dm k) (rm k) (gt k) (x.1 k) (x.2.2.1 k)), (if dm k = 0 then x.2.2.1 else upd x.2.2.1 k (x.2.2.1 k + x.1 k - w_out (dm k) (rm k) (gt k) (x.1 k) (x.2.2.1 k))), x.2.2.2) M τ → Q τ) : vX8_passWater (ad k) σ Q := by
  obtain ⟨s1, s2, s3, s4, s5, s6, s7⟩ := h.2.2.1 k hk
  obtain ⟨t1, t2, t3⟩ := h.2.2.2.1 k hk
  unfold vX8_passWater
  intro _
  refine ⟨fun d => ?_, fun d => ?_⟩
  · have d' : ¬ dm k = 0 := by rw [← s3]; exact d
    rintro σ3 rfl v5 e5 v6 e6 σ7 rfl σ9 rfl
    have y3 := yv_167 (v := xi σ 167 (ad k) + xi σ 169 (ad k)) h hk
    obtain ⟨S, eS⟩ : ∃ S, S = x.2.2.1 k + x.1 k := ⟨_, rfl⟩
    have a3 : xi (xsi σ 167 (ad k) (xi σ 167 (ad k) + xi σ 169 (ad k))) 167 (ad k) = S := by
      show va_up (xi σ 167) (ad k) _ (ad k) = _
      rw [va_up_self, t3, t1, eS]
    have a5 : v5 = w_max (S - rm k) := by
      rw [e5, a3]
      show (if S - xi σ 166 (ad k) < 0 then 0 else S - xi σ 166 (ad k)) = _
      rw [s6]
      rfl
    have a6 : v6 = w_min (gt k) (S - v5) := by
      rw [e6, a3]
      show (if S - v5 < xi σ 168 (ad k) then S - v5 else xi σ 168 (ad k)) = _
      rw [s4]
      rfl
    have eo : w_out (dm k) (rm k) (gt k) (x.1 k) (x.2.2.1 k) = v5 + v6 := by
      unfold w_out
      rw [if_neg d', ← eS, ← a5, ← a6]
    have y7 := yv_170 (v := v5 + v6) y3 hk
    have y9 := yv_167 (v := xi (xsi (xsi σ 167 (ad k) (xi σ 167 (ad k) + xi σ 169 (ad k))) 170 (ad k) (v5 + v6)) 167 (ad k) - xi (xsi (xsi σ 167 (ad k) (xi σ 167 (ad k) + xi σ 169 (ad k))) 170 (ad k) (v5 + v6)) 170 (ad k)) y7 hk
    refine kk _ ?_
    rw [if_neg d', eo]
    have b1 : xi (xsi (xsi σ 167 (ad k) (xi σ 167 (ad k) + xi σ 169 (ad k))) 170 (ad k) (v5 + v6)) 167 (ad k) = S := a3
    have b2 : xi (xsi (xsi σ 167 (ad k) (xi σ 167 (ad k) + xi σ 169 (ad k))) 170 (ad k) (v5 + v6)) 170 (ad k) = v5 + v6 := by
      show va_up _ (ad k) _ (ad k) = _
      rw [va_up_self]
    rw [b1, b2] at y9
    rw [b1, b2, ← eS]
    have e2 : upd (upd x.2.2.1 k (xi σ 167 (ad k) + xi σ 169 (ad k))) k (S - (v5 + v6)) = upd x.2.2.1 k (S - (v5 + v6)) := w_upd2
    rw [← e2]
    exact y9
  · have d' : dm k = 0 := by rw [← s3]; exact d
    rintro σ11 rfl
    refine kk _ ?_
    have eo : w_out (dm k) (rm k) (gt k) (x.1 k) (x.2.2.1 k) = x.1 k := by
      unfold w_out
      rw [if_pos d']
    rw [if_pos d', eo, t1]
    exact yv_170 h hk
theorem vy_w69 {Q : kx_S → Prop} : ∀ (j : Nat) (i : Int32) (x : wx_T) (σ : kx_S) (k : Nat), i.toInt = (k : Int) - 1 → k ≤ n → yv_ ad n l1 L dm gt ml nx rm x M σ → (∀ τ, yv_ ad n l1 L dm gt ml nx rm (w_run nx dm rm gt k x) M τ → Q τ) → vX11_runWater_69 Q j L i σ := by
  intro j
  induction j with
  | zero => intro _ _ _ _ _ _ _ _; exact trivial
  | succ j ih =>
    intro i x σ k hi hk h kk
    unfold vX11_runWater_69
    have z : (0 : Int32).toInt = 0 := by decide
    have m1 : (-1 : Int32).toInt = -1 := by decide
    refine ⟨fun c => ?_, fun c => ?_⟩
    · have k0 : k = 0 := by rw [ki_lt, z] at c; omega
      subst k0
      exact kk σ h
    rw [ki_lt, z] at c
    obtain ⟨k, rfl⟩ : ∃ q, k = q + 1 := ⟨k - 1, by omega⟩
    have ek : i.toNatClampNeg = k := by rw [ki_nat]; omega
    intro _ a27 e27 _
    have q1 : a27 = l1 := Option.some.inj (e27.symm.trans h.1)
    subst q1
    refine vy_get (fun _ _ => ?_)
    rw [ek]
    intro a32 e32 _
    obtain ⟨s1, s2, s3, s4, s5, s6, s7⟩ := h.2.2.1 k (by omega)
    have q2 : ad k = a32 := Option.some.inj (s1.symm.trans e32)
    subst q2
    refine vy_pass h (by omega) (fun τ hτ => ?_)
    obtain ⟨o, eo⟩ : ∃ o, o = w_out (dm k) (rm k) (gt k) (x.1 k) (x.2.2.1 k) := ⟨_, rfl⟩
    obtain ⟨u1, u2, u3, u4, u5, u6, u7⟩ := hτ.2.2.1 k (by omega)
    have v1 : xi τ 170 (ad k) = o := by
      rw [(hτ.2.2.2.1 k (by omega)).2.1, ← eo]
      exact w_updS
    have ev : ∀ v : Int32, v = i + (-1) → v.toInt = (k : Int) - 1 := by
      intro v e
      have h1 := ki_hi i
      rw [e, ki_add (by rw [m1]; omega) (by rw [m1]; omega), hi, m1]
      omega
    intro _
    refine ⟨fun a38 _ a39 e39 _ => ?_, fun e38 _ => ?_⟩
    · rintro σ42 rfl
      unfold vX11_runWater_131
      intro v ev1
      obtain ⟨q, h1, h2, h3⟩ : ∃ q : Nat, (nx k).toInt = (q : Int) ∧ q < k ∧ xr τ 161 (ad k) = some (ad q) := by
        rcases u7 with ⟨e, _⟩ | w
        · rw [e] at e39; exact absurd e39 (by simp)
        · exact w
      have q3 : ad q = a39 := Option.some.inj (h3.symm.trans e39)
      subst q3
      have nn : ¬ nx k = -1 := by rw [ki_eq, m1]; omega
      have eq : (nx k).toNatClampNeg = q := by rw [ki_nat]; omega
      have y := yv_169 (v := xi τ 169 (ad q) + xi τ 170 (ad k)) hτ (show q < n by omega)
      refine ih v (w_step nx dm rm gt k x) _ k (ev v ev1) (by omega) ?_ kk
      unfold w_step
      rw [if_neg nn, if_neg nn, eq, ← eo]
      rw [(hτ.2.2.2.1 q (by omega)).1, v1] at y
      rw [(hτ.2.2.2.1 q (by omega)).1, v1]
      rw [← eo] at y
      exact y
    · rintro σ46 rfl
      unfold vX11_runWater_131
      intro v ev1
      have nn : nx k = -1 := by
        rcases u7 with ⟨_, e⟩ | ⟨q, _, _, w⟩
        · exact e
        · rw [w] at e38; exact absurd e38 (by simp)
      have y := yv_221 (v := xl τ 221 L + (xi τ 170 (ad k)).toInt64) hτ
      refine ih v (w_step nx dm rm gt k x) _ k (ev v ev1) (by omega) ?_ kk
      unfold w_step
      rw [if_pos nn, if_pos nn, ← eo]
      rw [hτ.2.2.2.2.2.1, v1] at y
      rw [hτ.2.2.2.2.2.1, v1]
      rw [← eo] at y
      exact y
theorem vy_w2 {Q : kx_S → Prop} {k57 : Nat → kx_S → Prop} : ∀ (j : Nat) (i : Int32) (x : wx_T) (M : Int64) (σ : kx_S) (k : Nat), i.toInt = (k : Int) → k ≤ n → n ≤ 10 → yv_ ad n l1 L dm gt ml nx rm (fun r => if r < k then ml r else x.1 r, x.2) (M + w_sum ml k) σ → (∀ τ, yv_ ad n l1 L dm gt ml nx rm (fun r => if r < n then ml r else x.1 r, x.2) (M + w_sum ml n) τ → k57 L τ) → vX11_runWater_2 k57 Q j L i σ := by
  intro j
  induction j with
  | zero => intro _ _ _ _ _ _ _ _ _ _; exact trivial
  | succ j ih =>
    intro i x M σ k hi hk h10 h kk
    unfold vX11_runWater_2
    have o1 : (1 : Int32).toInt = 1 := by decide
    intro _ a3 e3 _
    have q1 : a3 = l1 := Option.some.inj (e3.symm.trans h.1)
    subst q1
    unfold vJx4a65c_size_8abf5
    intro _
    refine ⟨fun c => ?_, fun c => ?_⟩
    · rw [ki_le, h.2.1] at c
      have : k = n := by omega
      subst this
      exact kk σ h
    rw [ki_le, h.2.1] at c
    have ek : i.toNatClampNeg = k := by rw [ki_nat]; omega
    intro _ a10 e10 _
    have q2 : a10 = a3 := Option.some.inj (e10.symm.trans h.1)
    subst q2
    refine vy_get (fun _ _ => ?_)
    rw [ek]
    intro a15 e15 _
    obtain ⟨s1, s2, s3, s4, s5, s6, s7⟩ := h.2.2.1 k (by omega)
    have q3 : ad k = a15 := Option.some.inj (s1.symm.trans e15)
    subst q3
    rintro σ18 rfl _ σ21 rfl v24 e24
    have y1 := yv_169 (v := xi σ 164 (ad k)) h (show k < n by omega)
    have y2 := yv_220 (v := xl (xsi σ 169 (ad k) (xi σ 164 (ad k))) 220 L + (xi (xsi σ 169 (ad k) (xi σ 164 (ad k))) 164 (ad k)).toInt64) y1
    refine ih v24 x M _ (k + 1) ?_ (by omega) h10 ?_ kk
    · rw [e24, ki_add (by rw [hi, o1]; omega) (by rw [hi, o1]; omega), hi, o1]
      omega
    have c1 : xl (xsi σ 169 (ad k) (xi σ 164 (ad k))) 220 L + (xi (xsi σ 169 (ad k) (xi σ 164 (ad k))) 164 (ad k)).toInt64 = M + w_sum ml (k + 1) := by
      show xl σ 220 L + (xi σ 164 (ad k)).toInt64 = M + (w_sum ml k + (ml k).toInt64)
      rw [h.2.2.2.2.1, s5, Int64.add_assoc]
    have c2 : (upd (fun r => if r < k then ml r else x.1 r) k (xi σ 164 (ad k)) : Nat → Int32) = fun r => if r < k + 1 then ml r else x.1 r := by
      funext r
      show _ = (if r < k + 1 then ml r else x.1 r)
      by_cases c : r = k
      · rw [c, w_updS, if_pos (by omega), s5]
      · rw [w_updN c]
        by_cases d : r < k
        · rw [if_pos d, if_pos (by omega)]
        · rw [if_neg d, if_neg (by omega)]
    rw [← c2, ← c1]
    exact y2
theorem vy_water {Q : kx_S → Prop} (h10 : n ≤ 10) (h : yv_ ad n l1 L dm gt ml nx rm x M σ) (kk : ∀ τ, yv_ ad n l1 L dm gt ml nx rm (w_run nx dm rm gt n (fun r => if r < n then ml r else x.1 r, x.2)) (M + w_sum ml n) τ → Q τ) : vX11_runWater L σ Q := by
  unfold vX11_runWater
  intro j
  refine vy_w2 (ad := ad) (l1 := l1) (dm := dm) (gt := gt) (ml := ml) (nx := nx) (rm := rm) j 0 x M σ 0 (by decide) (Nat.zero_le n) h10 ?_ (fun τ hτ => ?_)
  · have e : (M + w_sum ml 0) = M := Int64.add_zero M
    rw [e]
    exact h
  unfold vX11_runWater_57
  intro _ a50 e50 _
  have q1 : a50 = l1 := Option.some.inj (e50.symm.trans hτ.1)
  subst q1
  unfold vJx4a65c_size_8abf5
  intro _ v55 e55 j2
  have o1 : (1 : Int32).toInt = 1 := by decide
  refine vy_w69 j2 v55 _ τ n ?_ (Nat.le_refl n) hτ kk
  rw [e55, ki_sub (by rw [hτ.2.1, o1]; omega) (by rw [hτ.2.1, o1]; omega), hτ.2.1, o1]
end
