/-! feed: bytes on the tape -/
def sh_ (j : Nat) : Int32 := match j with
  | 0 => 24
  | 1 => 16
  | 2 => 8
  | _ => 0
def bw_ (w : Int32) (j : Nat) : Int32 := (w >>> (sh_ j &&& 31)) &&& 255
def bt_ (a b c d e : Int32) (k : Nat) : Int32 := bw_ (if k < 4 then a else if k < 8 then b else if k < 12 then c else if k < 16 then d else e) (k % 4)
def tz_ (F : Nat → Int32) (L k : Nat) (bt : Nat → Int32) : Nat → Int32 := fun i => if L ≤ i ∧ i < L + k then bt (i - L) else F i
theorem tz_0 {F : Nat → Int32} {L : Nat} {bt : Nat → Int32} : tz_ F L 0 bt = F := by
  funext i
  exact if_neg (by omega)
theorem tz_s {F : Nat → Int32} {L k : Nat} {bt : Nat → Int32} : upd (tz_ F L k bt) (L + k) (bt k) = tz_ F L (k + 1) bt := by
  funext i
  by_cases c : i = L + k
  · rw [c, w_updS]
    unfold tz_
    rw [if_pos ⟨by omega, by omega⟩, Nat.add_sub_cancel_left]
  · rw [w_updN c]
    unfold tz_
    by_cases d : L ≤ i ∧ i < L + k
    · rw [if_pos d, if_pos ⟨d.1, by omega⟩]
    · rw [if_neg d, if_neg (by omega)]
theorem tz_byte {F : Nat → Int32} {L k : Nat} {a b c d e : Int32} (h : ∀ i, i < 500 → ¬ F i = -1) : ∀ i, i < 500 → ¬ tz_ F L k (bt_ a b c d e) i = -1 := by
  intro i hi
  unfold tz_
  split
  · exact b_255 _
  · exact h i hi
/-! the class -/
def nT_ (tp tb : Nat) (σ u : kx_S) : Prop := (∀ f x, f ≠ 177 → xi u f x = xi σ f x) ∧ u.1 = σ.1 ∧ u.2.2.1 = σ.2.2.1 ∧ xn u = xn σ ∧ (∀ x, x ≠ tb → xai u x = xai σ x) ∧ u.2.2.2.2.2.2.2.1 = σ.2.2.2.2.2.2.2.1 ∧ xz u = xz σ
def ap_ (tp tb L k : Nat) (bt : Nat → Int32) (σ u : kx_S) : Prop := nT_ tp tb σ u ∧ (xi u 177 tp).toInt = ((L + k : Nat) : Int) ∧ xai u tb = tz_ (xai σ tb) L k bt
section
variable {σ u : kx_S} {tp tb L k : Nat} {bt : Nat → Int32} {w l2 : Int32} {Q : kx_S → Prop}
theorem vq_ap1 {q j : Nat} (A : ap_ tp tb L k bt σ u) (hr : xr σ 176 tp = some tb) (hn : xn σ tb = 500) (hk : L + k < 500) (hl : ¬ l2 < 0) (hb : bt k = (w.toUInt32 >>> (l2.toUInt32 &&& Int32.toUInt32 31)).toInt32 &&& 255) (kk : ∀ u' v, v = l2 + (-8) → ap_ tp tb L (k + 1) bt σ u' → vX9_append_3 Q j tp w v u') : vX9_append_3 Q (j + 1) tp w l2 u := by
  obtain ⟨⟨n1, n2, n3, n4, n5, n6, n7⟩, a2, a3⟩ := A
  have hr' : xr u 176 tp = some tb := by show u.2.2.1 176 tp = _; rw [n3]; exact hr
  have hn' : xn u tb = 500 := by rw [n4]; exact hn
  have z5 : (nI 500).toInt = 500 := by decide
  refine ⟨fun c => absurd c hl, fun _ _ a3' e3 _ => ?_⟩
  obtain rfl := Option.some.inj (hr'.symm.trans e3)
  rw [hn']
  refine ⟨fun c => ?_, fun _ a7 e7 v9 e9 _ _ σ12 e12 σ16 e16 v20 e20 => ?_⟩
  · rw [ki_le, z5, a2] at c
    omega
  · obtain rfl := Option.some.inj (hr'.symm.trans e7)
    refine kk σ16 v20 e20 ?_
    rw [ki_toN a2, e9, ← hb] at e12
    rw [e16, e12]
    refine ⟨⟨fun f x hf => ?_, n2, n3, n4, fun x hx => ?_, n6, n7⟩, ?_, ?_⟩
    · refine Eq.trans ?_ (n1 f x hf)
      show (if f = 177 then _ else u.2.1 f) x = u.2.1 f x
      rw [if_neg hf]
    · refine Eq.trans ?_ (n5 x hx)
      exact va_up_ne _ _ hx
    · have e : xi (xsi (xsai u tb (L + k) (bt k)) 177 tp (xi (xsai u tb (L + k) (bt k)) 177 tp + 1)) 177 tp = xi u 177 tp + 1 := va_up_self _ _ _
      rw [e, show L + (k + 1) = L + k + 1 from rfl]
      exact ki_addN a2 ki_z1 (by omega)
    · have e : xai (xsi (xsai u tb (L + k) (bt k)) 177 tp (xi (xsai u tb (L + k) (bt k)) 177 tp + 1)) tb = upd (xai u tb) (L + k) (bt k) := va_up_self _ _ _
      rw [e, a3]
      exact tz_s
theorem vq_append (A : ap_ tp tb L k bt σ u) (hr : xr σ 176 tp = some tb) (hn : xn σ tb = 500) (hk : L + k + 4 ≤ 500) (hb : ∀ j, j < 4 → bt (k + j) = bw_ w j) (kk : ∀ u', ap_ tp tb L (k + 4) bt σ u' → Q u') : vX9_append tp w u Q := by
  have s1 : (24 : Int32) + (-8) = 16 := by decide
  have s2 : (16 : Int32) + (-8) = 8 := by decide
  have s3 : (8 : Int32) + (-8) = 0 := by decide
  have s4 : (0 : Int32) + (-8) = -8 := by decide
  intro j
  cases j with
  | zero => exact True.intro
  | succ j =>
    refine vq_ap1 (q := 0) A hr hn (by omega) (by decide) ((hb 0 (by decide)).trans (b_24 w)) (fun u1 v1 e1 A1 => ?_)
    rw [s1] at e1
    subst e1
    cases j with
    | zero => exact True.intro
    | succ j =>
      refine vq_ap1 (q := 0) A1 hr hn (by omega) (by decide) ((hb 1 (by decide)).trans (b_16 w)) (fun u2 v2 e2 A2 => ?_)
      rw [s2] at e2
      subst e2
      cases j with
      | zero => exact True.intro
      | succ j =>
        refine vq_ap1 (q := 0) A2 hr hn (by omega) (by decide) ((hb 2 (by decide)).trans (b_8 w)) (fun u3 v3 e3 A3 => ?_)
        rw [s3] at e3
        subst e3
        cases j with
        | zero => exact True.intro
        | succ j =>
          refine vq_ap1 (q := 0) A3 hr hn (by omega) (by decide) ((hb 3 (by decide)).trans (b_0 w)) (fun u4 v4 e4 A4 => ?_)
          rw [s4] at e4
          subst e4
          cases j with
          | zero => exact True.intro
          | succ j => exact ⟨fun _ => kk u4 A4, fun c => absurd (show (-8 : Int32) < 0 by decide) c⟩
end
/-- the tape, the reader, the fault -/
def fT_ (g : Nat → Nat) (T : Nat → Nat → Nat) (m st na tk ca tb : Nat) (F : Nat → Int32) (flt : Int32) (σ : kx_S) : Prop := (xr σ 112 (g 7) = some tk ∧ xr σ 113 (g 7) = some ca ∧ xr σ 192 tk = some (g 6) ∧ xr σ 176 (g 6) = some tb) ∧ (xt σ tk = 12 ∧ xt σ ca = 20 ∧ xt σ tb = 20 ∧ xn σ ca = 500 ∧ xn σ tb = 500) ∧ (tb ≠ ca ∧ tb ≠ st ∧ tb ≠ na ∧ ca ≠ st ∧ ca ≠ na) ∧ (∀ i, i < m → T 20 i ≠ tb ∧ T 20 i ≠ ca) ∧ (∀ i, i < 500 → xai σ tb i = F i) ∧ xi σ 219 (g 0) = flt
def ab_tape (a b c d e : Int32) (s : sz_T) (F : Nat → Int32) : Nat → Int32 := if s.1.2.2.2.2.1 + 20 ≤ 500 then tz_ F s.1.2.2.2.2.1.toNatClampNeg 20 (bt_ a b c d e) else F
section
variable {T : Nat → Nat → Nat} {N : Nat → Nat} {g κ : Nat → Nat} {st na nr nl nc no m tk ca tb : Nat} {day : Nat → Int32} {RL : Nat → List (Bool × List Int32)} {s : sz_T} {B n : Nat} {a b : ra_T} {σ τ : kx_S} {F : Nat → Int32} {flt : Int32}
theorem qE_same (h : qE_ T N g st na nr nl m day RL no nc a σ) (ki : ∀ f, f ∈ qE_W → ∀ x, xi τ f x = xi σ f x) (kr : ∀ f x, xr τ f x = xr σ f x) (kt : ∀ x, xt τ x = xt σ x) (ke : ∀ l i, xe τ l i = xe σ l i) (kn : ∀ x, xn τ x = xn σ x) (ka : ∀ i, i < m → ∀ j, xai τ (T 20 i) j = xai σ (T 20 i) j) : qE_ T N g st na nr nl m day RL no nc a τ := by
  obtain ⟨h0, h1, h2, h3, h4, h7, hj, h6, hb, h5⟩ := h
  refine ⟨h0, ?_, ?_, ?_, ?_, ?_, ?_, ?_, ?_, ?_⟩
  · unfold q1_ at h1 ⊢
    simp only [ke, kt, ki 18 (by decide), ki 160 (by decide), ki 162 (by decide), ki 165 (by decide), ki 169 (by decide), ki 170 (by decide), ki 171 (by decide), ki 34 (by decide), ki 35 (by decide), kr]
    exact h1
  · unfold q2_ at h2 ⊢
    simp only [ke, kt, ki 48 (by decide), ki 50 (by decide), ki 51 (by decide), kr]
    exact h2
  · unfold q3_ at h3 ⊢
    simp only [ke, kt, ki 18 (by decide)]
    exact h3
  · unfold q4_ at h4 ⊢
    simp only [ke, kt, ki 18 (by decide), ki 128 (by decide), ki 129 (by decide), ki 130 (by decide), ki 131 (by decide), ki 132 (by decide), ki 133 (by decide), ki 134 (by decide), ki 135 (by decide), ki 136 (by decide)]
    exact h4
  · obtain ⟨l1, l2, l3⟩ := h7
    refine ⟨by rw [ki 18 (by decide)]; exact l1, l2, fun i hi => ?_⟩
    obtain ⟨⟨a1, a2⟩, a3, ⟨⟨b1, b2, b3, b4⟩, b5⟩, a4, a5, a6⟩ := l3 i hi
    exact ⟨⟨by rw [ke]; exact a1, by rw [kt]; exact a2⟩, by rw [ki 96 (by decide)]; exact a3, ⟨⟨by rw [kr]; exact b1, by rw [kn]; exact b2, b3, fun j hj => by rw [ka i hi j]; exact b4 j hj⟩, by rw [kt]; exact b5⟩, a4, a5, a6⟩
  · unfold qj_ j0_ at hj ⊢
    simp only [kt, kn, kr]
    exact hj
  · unfold q6_ at h6 ⊢
    simp only [ke, kt, ki 18 (by decide), ki 144 (by decide), ki 145 (by decide), ki 146 (by decide)]
    exact h6
  · rw [ki 218 (by decide)]; exact hb
  · unfold q5_ at h5 ⊢
    simp only [ke, kt, ki 18 (by decide), ki 65 (by decide), kr]
    exact h5
theorem xe_eq (kr : ∀ f x, xr τ f x = xr σ f x) (ka : τ.2.2.2.2.2.2.2.1 = σ.2.2.2.2.2.2.2.1) (l i : Nat) : xe τ l i = xe σ l i := by
  have e1 := kr 17 l
  unfold xe
  rw [e1]
  split
  · show τ.2.2.2.2.2.2.2.1 _ _ = σ.2.2.2.2.2.2.2.1 _ _
    rw [ka]
  · rfl
theorem qE_nT (h : qE_ T N g st na nr nl m day RL no nc a σ) (k : nT_ (g 6) tb σ τ) (h20 : ∀ i, i < m → T 20 i ≠ tb) : qE_ T N g st na nr nl m day RL no nc a τ := by
  obtain ⟨n1, n2, n3, n4, n5, n6, n7⟩ := k
  have kr : ∀ f x, xr τ f x = xr σ f x := fun f x => congrFun (congrFun n3 f) x
  exact qE_same h (fun f hf x => n1 f x (by intro e; rw [e] at hf; exact absurd hf (by decide))) kr (fun x => congrFun n2 x) (xe_eq kr n6) (fun x => by rw [n4]) (fun i hi j => by rw [n5 _ (h20 i hi)])
theorem vq_feed {p1 p2 p3 p4 p5 : Int32} {L : Nat} (hL : s.1.2.2.2.2.1.toInt = (L : Int)) (L5 : L ≤ 500) (J : yJ_ s g κ B n σ) (t : fT_ g T m st na tk ca tb F flt σ) (h : qE_ T N g st na nr nl m day RL no nc a σ) : vX11_feed (g 0) p1 p2 p3 p4 p5 σ (fun _ u => qE_ T N g st na nr nl m day RL no nc a u ∧ fT_ g T m st na tk ca tb (ab_tape p1 p2 p3 p4 p5 s F) flt u) := by
  obtain ⟨⟨t1, t2, t3, t4⟩, ⟨t5, t6, t7, t8, t9⟩, t10, t11, t12, t13⟩ := t
  have z480 : (480 : Int32).toInt = 480 := by decide
  have z500 : (500 : Int32).toInt = 500 := by decide
  have z20 : (20 : Int32).toInt = 20 := by decide
  have e177 : xi σ 177 (g 6) = s.1.2.2.2.2.1 := (yG_idx J).2.2.2.2.1
  have hL' : (xi σ 177 (g 6)).toInt = (L : Int) := by rw [e177]; exact hL
  have t20 := ki_add (a := s.1.2.2.2.2.1) (b := 20) (by rw [z20]; omega) (by rw [z20]; omega)
  have G6 := (yg6 J).1
  have pl : ∀ {k : Nat} {u : kx_S} {x : Nat}, ap_ (g 6) tb L k (bt_ p1 p2 p3 p4 p5) σ u → xr u 213 (g 0) = some x → g 6 = x := fun A e => by
    refine Option.some.inj (G6.symm.trans (Eq.trans ?_ e))
    exact (congrFun (congrFun A.1.2.2.1 213) (g 0)).symm
  unfold vX11_feed
  intro _ a2 e2 _
  obtain rfl := Option.some.inj (G6.symm.trans e2)
  refine ⟨fun c a6 e6 _ => ?_, fun c => ?_⟩
  · rw [ki_le, z480, hL'] at c
    obtain rfl := Option.some.inj (G6.symm.trans e6)
    have A0 : ap_ (g 6) tb L 0 (bt_ p1 p2 p3 p4 p5) σ σ := ⟨⟨fun _ _ _ => rfl, rfl, rfl, rfl, fun _ _ => rfl, rfl, rfl⟩, hL', tz_0.symm⟩
    have by_ : ∀ (q : Nat) (w : Int32), (∀ j, j < 4 → (if 4 * q + j < 4 then p1 else if 4 * q + j < 8 then p2 else if 4 * q + j < 12 then p3 else if 4 * q + j < 16 then p4 else p5) = w) → ∀ j, j < 4 → bt_ p1 p2 p3 p4 p5 (4 * q + j) = bw_ w j := by
      intro q w hw j hj
      unfold bt_
      rw [hw j hj, show (4 * q + j) % 4 = j by omega]
    refine vq_append A0 t4 t9 (by omega) (by_ 0 p1 (fun j hj => by rw [if_pos (by omega)])) (fun u1 A1 _ x1 e1 _ => ?_)
    obtain rfl := pl A1 e1
    refine vq_append A1 t4 t9 (by omega) (by_ 1 p2 (fun j hj => by rw [if_neg (by omega), if_pos (by omega)])) (fun u2 A2 _ x2 e2 _ => ?_)
    obtain rfl := pl A2 e2
    refine vq_append A2 t4 t9 (by omega) (by_ 2 p3 (fun j hj => by rw [if_neg (by omega), if_neg (by omega), if_pos (by omega)])) (fun u3 A3 _ x3 e3 _ => ?_)
    obtain rfl := pl A3 e3
    refine vq_append A3 t4 t9 (by omega) (by_ 3 p4 (fun j hj => by rw [if_neg (by omega), if_neg (by omega), if_neg (by omega), if_pos (by omega)])) (fun u4 A4 _ x4 e4 _ => ?_)
    obtain rfl := pl A4 e4
    refine vq_append A4 t4 t9 (by omega) (by_ 4 p5 (fun j hj => by rw [if_neg (by omega), if_neg (by omega), if_neg (by omega), if_neg (by omega)])) (fun u5 A5 _ x5 e5 _ => ?_)
    obtain ⟨k1, k2, k3⟩ := A5
    refine ⟨qE_nT h k1 (fun i hi => (t11 i hi).1), ?_⟩
    obtain ⟨n1, n2, n3, n4, n5, n6, n7⟩ := k1
    have kr : ∀ f x, xr u5 f x = xr σ f x := fun f x => congrFun (congrFun n3 f) x
    have kt : ∀ x, xt u5 x = xt σ x := fun x => congrFun n2 x
    have ea : ab_tape p1 p2 p3 p4 p5 s F = tz_ F L 20 (bt_ p1 p2 p3 p4 p5) := by
      unfold ab_tape
      rw [if_pos (by rw [ki_le, t20, hL, z20, z500]; omega), ki_toN hL]
    rw [ea]
    refine ⟨⟨by rw [kr]; exact t1, by rw [kr]; exact t2, by rw [kr]; exact t3, by rw [kr]; exact t4⟩, ⟨by rw [kt]; exact t5, by rw [kt]; exact t6, by rw [kt]; exact t7, by rw [n4]; exact t8, by rw [n4]; exact t9⟩, t10, t11, fun i hi => ?_, by rw [n1 219 _ (by decide)]; exact t13⟩
    rw [k3]
    unfold tz_
    rw [t12 i hi]
  · rw [ki_le, z480, hL'] at c
    have ea : ab_tape p1 p2 p3 p4 p5 s F = F := by
      unfold ab_tape
      rw [if_neg (by rw [ki_le, t20, hL, z20, z500]; omega)]
    rw [ea]
    exact ⟨h, ⟨t1, t2, t3, t4⟩, ⟨t5, t6, t7, t8, t9⟩, t10, t11, t12, t13⟩
end
/-! the reference -/
section
variable {μ u : km_S} {F : Nat → Int32} {L k : Nat} {p1 p2 p3 p4 p5 l6 : Int32} {Q : Int32 → km_S → Prop} {K : km_S → Prop}
def mg_ (F : Nat → Int32) (L k : Nat) (bt : Nat → Int32) (u : km_S) : Prop := (km_i u 9).toInt = ((L + k : Nat) : Int) ∧ ∀ i, i < 500 → km_a u 52 i = tz_ F L k bt i
theorem mg_sh (hk : l6.toInt = (k : Int)) (h20 : k < 20) : (24 - (8 * (l6 - l6 / 4 * 4))) = sh_ (k % 4) := by
  have c : k = 0 ∨ k = 1 ∨ k = 2 ∨ k = 3 ∨ k = 4 ∨ k = 5 ∨ k = 6 ∨ k = 7 ∨ k = 8 ∨ k = 9 ∨ k = 10 ∨ k = 11 ∨ k = 12 ∨ k = 13 ∨ k = 14 ∨ k = 15 ∨ k = 16 ∨ k = 17 ∨ k = 18 ∨ k = 19 := by omega
  have e : l6 = nI k := ki_eq.2 (by rw [hk, t_nI (by omega)])
  rw [e]
  rcases c with c | c | c | c | c | c | c | c | c | c | c | c | c | c | c | c | c | c | c | c <;> (rw [c]; decide)
theorem vr_fd1 {n : Nat} (M : mg_ F L k (bt_ p1 p2 p3 p4 p5) u) (hk : l6.toInt = (k : Int)) (h20 : k < 20) (hL : L + 20 ≤ 500) (kk : ∀ u' v, v.toInt = ((k + 1 : Nat) : Int) → mg_ F L (k + 1) (bt_ p1 p2 p3 p4 p5) u' → vX12_feed_23 K Q n p1 p2 p3 p4 p5 v u') : vX12_feed_23 K Q (n + 1) p1 p2 p3 p4 p5 l6 u := by
  obtain ⟨m1, m2⟩ := M
  have z20 : (20 : Int32).toInt = 20 := by decide
  have z4 : (4 : Int32).toInt = 4 := by decide
  have z8 : (8 : Int32).toInt = 8 := by decide
  have z12 : (12 : Int32).toInt = 12 := by decide
  have z16 : (16 : Int32).toInt = 16 := by decide
  have st : ∀ w : Int32, (if k < 4 then p1 else if k < 8 then p2 else if k < 12 then p3 else if k < 16 then p4 else p5) = w → vX12_feed_76 (vX12_feed_23 K Q n) Q p1 p2 p3 p4 p5 l6 w u := by
    intro w hw
    unfold vX12_feed_76
    rw [mg_sh hk h20, ki_toN m1]
    rintro - μ2 rfl μ3 rfl v4 e4
    refine kk _ v4 (by rw [e4]; exact ki_addN hk ki_z1 (by omega)) ⟨?_, fun i hi => ?_⟩
    · have e : km_i (km_si (km_sa u 52 (L + k) ((w >>> (sh_ (k % 4) &&& 31)) &&& 255)) 9 (km_i (km_sa u 52 (L + k) ((w >>> (sh_ (k % 4) &&& 31)) &&& 255)) 9 + 1)) 9 = km_i u 9 + 1 := (w_updS : upd u.1 9 (km_i u 9 + 1) 9 = km_i u 9 + 1)
      rw [e, show L + (k + 1) = L + k + 1 from rfl]
      exact ki_addN m1 ki_z1 (by omega)
    · rw [← tz_s]
      have eb : (w >>> (sh_ (k % 4) &&& 31)) &&& 255 = bt_ p1 p2 p3 p4 p5 k := by
        unfold bt_
        rw [hw]
        rfl
      rw [eb]
      have e : km_a (km_si (km_sa u 52 (L + k) (bt_ p1 p2 p3 p4 p5 k)) 9 (km_i (km_sa u 52 (L + k) (bt_ p1 p2 p3 p4 p5 k)) 9 + 1)) 52 i = upd (km_a u 52) (L + k) (bt_ p1 p2 p3 p4 p5 k) i := rfl
      rw [e]
      by_cases c : i = L + k
      · rw [c, w_updS, w_updS]
      · rw [w_updN c, w_updN c]
        exact m2 i hi
  show (20 ≤ l6 → _) ∧ (¬ (20 ≤ l6) → ((4 ≤ l6 → ((8 ≤ l6 → ((12 ≤ l6 → ((16 ≤ l6 → _) ∧ (¬ (16 ≤ l6) → _))) ∧ (¬ (12 ≤ l6) → _))) ∧ (¬ (8 ≤ l6) → _))) ∧ (¬ (4 ≤ l6) → _)))
  rw [ki_le, ki_le, ki_le, ki_le, ki_le, z20, z4, z8, z12, z16, hk]
  exact ⟨fun c => by omega, fun _ => ⟨fun c4 => ⟨fun c8 => ⟨fun c12 => ⟨fun c16 => st p5 (by rw [if_neg (by omega), if_neg (by omega), if_neg (by omega), if_neg (by omega)]), fun c16 => st p4 (by rw [if_neg (by omega), if_neg (by omega), if_neg (by omega), if_pos (by omega)])⟩, fun c12 => st p3 (by rw [if_neg (by omega), if_neg (by omega), if_pos (by omega)])⟩, fun c8 => st p2 (by rw [if_neg (by omega), if_pos (by omega)])⟩, fun c4 => st p1 (by rw [if_pos (by omega)])⟩⟩
theorem vr_feed {s : sz_T} (hs : sm_ μ = s) (hL : s.1.2.2.2.2.1.toInt = (L : Int)) (L5 : L ≤ 500) (hF : ∀ i, i < 500 → km_a μ 52 i = F i) : vX12_feed p1 p2 p3 p4 p5 μ (fun _ u => ∀ i, i < 500 → km_a u 52 i = ab_tape p1 p2 p3 p4 p5 s F i) := by
  have z500 : (500 : Int32).toInt = 500 := by decide
  have z20 : (20 : Int32).toInt = 20 := by decide
  have t20 := ki_add (a := s.1.2.2.2.2.1) (b := 20) (by rw [z20]; omega) (by rw [z20]; omega)
  have e9 : km_i μ 9 = s.1.2.2.2.2.1 := congrArg (fun s : sz_T => s.1.2.2.2.2.1) hs
  unfold vX12_feed
  rintro μ1 rfl
  have e9' : km_i (km_si μ 1 0) 9 = s.1.2.2.2.2.1 := e9
  rw [e9']
  refine ⟨fun c => ?_, fun c => ?_⟩
  · have c' := c
    rw [ki_le, t20, hL, z20, z500] at c'
    have ea : ab_tape p1 p2 p3 p4 p5 s F = tz_ F L 20 (bt_ p1 p2 p3 p4 p5) := by
      unfold ab_tape
      rw [if_pos c, ki_toN hL]
    rw [ea]
    have Lp : ∀ (j k : Nat) (l6 : Int32) (u : km_S), l6.toInt = (k : Int) → k ≤ 20 → mg_ F L k (bt_ p1 p2 p3 p4 p5) u → vX12_feed_23 (vX12_feed_120 (fun _ u => ∀ i, i < 500 → km_a u 52 i = tz_ F L 20 (bt_ p1 p2 p3 p4 p5) i)) (fun _ u => ∀ i, i < 500 → km_a u 52 i = tz_ F L 20 (bt_ p1 p2 p3 p4 p5) i) j p1 p2 p3 p4 p5 l6 u := by
      intro j
      induction j with
      | zero => intro _ _ _ _ _ _; exact True.intro
      | succ j ih =>
        intro k l6 u hk k20 M
        by_cases c20 : k = 20
        · subst c20
          exact ⟨fun _ => M.2, fun q => absurd (show (20 : Int32) ≤ l6 by rw [ki_le, z20, hk]; omega) q⟩
        · exact vr_fd1 M hk (by omega) (by omega) (fun u' v hv M' => ih (k + 1) v u' hv (by omega) M')
    refine fun j => Lp j 0 0 _ ki_z0 (by omega) ⟨?_, fun i hi => ?_⟩
    · rw [e9']
      exact hL
    · rw [tz_0]
      exact hF i hi
  · have ea : ab_tape p1 p2 p3 p4 p5 s F = F := by
      unfold ab_tape
      rw [if_neg c]
    rw [ea]
    exact hF
end
