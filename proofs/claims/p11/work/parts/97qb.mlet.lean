/-! a log that is let go -/
def e_ab (a : ra_T) (x : Nat) (r now : Int32) (k : Nat) : Int32 := match k with
  | 0 => a.1 35 x
  | 1 => a.1 36 x
  | 2 => a.1 37 x
  | 3 => now - now / 24 * 24
  | 4 => now / 24
  | 5 => r
  | _ => a.1 41 x
def bar_ (a : ra_T) (x : Nat) (r now : Int32) (day : Nat → Int32) (m : Nat) (RL : Nat → List (Bool × List Int32)) : Bool := e_barO (e_ab a x r now) ((lf_ day (now / 24) m 0 none).map RL)
def an_let (nr nl : Nat) (a : ra_T) (day : Nat → Int32) (m : Nat) (RL : Nat → List (Bool × List Int32)) (now l r c : Int32) : Option (Int32 × ra_T) := if in_ l nl ∧ in_ r nr ∧ in_ c (ln_ a r.toNatClampNeg) then some (if ¬ a.1 38 l.toNatClampNeg = 0 then (1, a) else if bar_ a l.toNatClampNeg r now day m RL = true then (2, a) else if a_open a r.toNatClampNeg c.toNatClampNeg = true then (0, a_take a l.toNatClampNeg r.toNatClampNeg c.toNatClampNeg) else (3, a)) else none
section
variable {nr nl no nc m : Nat} {day : Nat → Int32} {RL : Nat → List (Bool × List Int32)} {a : ra_T} {μ u : km_S}
theorem e_mn_ab {x : Nat} {r : Int32} (h : rA_ a μ) : e_mn x r μ = e_ab a x r (km_i μ 2) := by
  funext k
  match k with
  | 0 => exact congrFun (h.1 35 (by decide)) x
  | 1 => exact congrFun (h.1 36 (by decide)) x
  | 2 => exact congrFun (h.1 37 (by decide)) x
  | 3 => rfl
  | 4 => rfl
  | 5 => rfl
  | _ + 6 => exact congrFun (h.1 41 (by decide)) x
theorem rQ_md (h : rQ_ nl a μ) (k : md_ μ u) : rQ_ nl a u := rQ_nm (W := [57, 68]) h ⟨fun j hj => k.1 j (fun e => hj (by rw [e]; decide)), fun f hf => k.2.1 f (fun e => hf (by rw [e]; decide))⟩ (by decide)
theorem vr_let {l r c : Int32} {Q : Int32 → km_S → Prop} (h10 : nr ≤ 10) (l4 : nl ≤ 400) (A : ao_ nr nl a) (S : rsz_ a) (hn3 : (km_i μ 3).toInt = (nr : Int)) (hn4 : (km_i μ 4).toInt = (nl : Int)) (h5 : (km_i μ 5).toInt = (m : Int)) (hm : m ≤ 6) (hday : ∀ i, i < m → km_a μ 53 i = day i) (hL : ∀ l, l < m → mL_ l (RL l) μ) (h : rQ_ nl a μ) (k0 : an_let nr nl a day m RL (km_i μ 2) l r c = none → rQ_ nl a (mc1_ μ) → Q 0 (mc1_ μ)) (k1 : ∀ x b u, an_let nr nl a day m RL (km_i μ 2) l r c = some (x, b) → km_i u 1 = 0 → rQ_ nl b u → Q x u) : vX12_let l r c μ Q := by
  unfold vX12_let
  rintro μ1 rfl
  have h' : rQ_ nl a (km_si μ 1 0) := rQ_si h (by decide)
  have e1 : km_i (km_si μ 1 0) 1 = 0 := rfl
  have e2 : km_i (km_si μ 1 0) 2 = km_i μ 2 := rfl
  have hn3' : (km_i (km_si μ 1 0) 3).toInt = (nr : Int) := hn3
  have hn4' : (km_i (km_si μ 1 0) 4).toInt = (nl : Int) := hn4
  have h5' : (km_i (km_si μ 1 0) 5).toInt = (m : Int) := h5
  have hday' : ∀ i, i < m → km_a (km_si μ 1 0) 53 i = day i := hday
  have hL' : ∀ l, l < m → mL_ l (RL l) (km_si μ 1 0) := hL
  have fl : an_let nr nl a day m RL (km_i μ 2) l r c = none → vX12_let_22 Q (km_si μ 1 0) := by
    intro e
    rintro _ rfl
    exact k0 e (rQ_si h' (by decide))
  generalize km_si μ 1 0 = u1 at *
  refine vr_isLog hn4' (fun z => ⟨fun _ => fl (if_neg (fun q => z q.1)), fun x => absurd rfl x⟩) (fun x hx hxl => ⟨fun x => absurd x (by decide), fun _ => ?_⟩)
  refine vr_isCell A hn3' h'.1 (fun z => ⟨fun x => absurd rfl x, fun _ => fl (if_neg (fun q => z q.2))⟩) (fun q p hq hp hlt hpl => ⟨fun _ _ => ?_, fun x => absurd x (by decide)⟩)
  have p12 := (A.1 q hlt).1
  have ea : an_let nr nl a day m RL (km_i μ 2) l r c = some (if ¬ a.1 38 x = 0 then (1, a) else if bar_ a x r (km_i μ 2) day m RL = true then (2, a) else if a_open a q p = true then (0, a_take a x q p) else (3, a)) := by
    unfold an_let
    rw [if_pos ⟨in_of hx hxl, in_of hq hlt, by rw [ki_toN hq]; exact in_of hp hpl⟩, ki_toN hx, ki_toN hq, ki_toN hp]
  rw [ki_toN hx, h'.1.1 38 (by decide)]
  refine ⟨fun z => ?_, fun z => k1 1 a u1 (by rw [ea, if_pos z]) e1 h'⟩
  rw [if_neg (fun y => y z)] at ea
  refine vt_ruled (ki_toN hx) h5' hm hday' hL' (fun u2 M => ?_)
  have h2 := rQ_md h' M
  have e12 : km_i u2 1 = 0 := (M.1 1 (by decide)).trans e1
  rw [e_mn_ab h'.1, e2]
  show ((if bar_ a x r (km_i μ 2) day m RL = true then (1 : Int32) else 0) = 0 → _) ∧ (¬ (if bar_ a x r (km_i μ 2) day m RL = true then (1 : Int32) else 0) = 0 → _)
  by_cases cb : bar_ a x r (km_i μ 2) day m RL = true
  · rw [if_pos cb] at ea
    rw [if_pos cb]
    exact ⟨fun y => absurd y (by decide), fun _ => k1 2 a u2 ea e12 h2⟩
  · rw [if_neg cb] at ea
    rw [if_neg cb]
    refine ⟨fun _ => ?_, fun y => absurd rfl y⟩
    refine vr_isOpen h2.1 hq hp (by omega) (by omega) (fun co => ⟨fun _ _ => ?_, fun y => absurd y (by decide)⟩) (fun co => ⟨fun y => absurd rfl y, fun _ => k1 3 a u2 (by rw [ea, if_neg (by rw [co]; decide)]) e12 h2⟩)
    rw [if_pos co] at ea
    rintro μ19 rfl
    have ho := a_openT.1 co
    have c20 := (A.1 q hlt).2.2.1.2
    refine vr_lay (a := fs_ a 38 x 1) (rA_fs h2.1 (by decide)) hx hq hp (by omega) (by omega) S.1 (by show (a.2 (12 * q + p)).length < 20; have := ho.1; omega) (fun u Ru Fu Iu => ?_)
    refine k1 0 (a_take a x q p) u ea ?_ ⟨Ru, rB_p3 h2.2 ⟨fun y hy => ?_, rfl, rfl, rfl⟩ ?_⟩
    · show u.1 1 = 0
      rw [Iu]
      exact e12
    · have ne : ¬ y = x := fun e => by rw [e, z] at hy; exact absurd hy (by decide)
      exact (w_updN ne).trans hy
    · rw [Fu 43 (by decide) (by decide) (by decide) (by decide)]
      exact sa_n (by decide)
end
