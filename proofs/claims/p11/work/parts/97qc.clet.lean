/-! the class: a log that is let go -/
section
variable {T : Nat → Nat → Nat} {N : Nat → Nat} {g κ : Nat → Nat} {st na nr nl nc no m : Nat} {day : Nat → Int32} {RL : Nat → List (Bool × List Int32)} {s : sz_T} {B n : Nat} {a : ra_T} {σ τ : kx_S}
theorem e_nm_ab {x : Nat} {r now : Int32} (h4 : q4_ T (g 2) nl a σ) (hx : x < nl) : e_nm (T 8 x) r now σ = e_ab a x r now := by
  obtain ⟨_, _, ⟨b1, b2, b3⟩, _, _, _, b7, _⟩ := h4.2 x hx
  funext k
  match k with
  | 0 => exact b1
  | 1 => exact b2
  | 2 => exact b3
  | 3 => rfl
  | 4 => rfl
  | 5 => rfl
  | _ + 6 => exact b7
theorem qE_jr (J : yJ_ s g κ B n σ) (h : qE_ T N g st na nr nl m day RL no nc a σ) (R : jr_ (g 8) st na σ τ) : qE_ T N g st na nr nl m day RL no nc a τ := by
  obtain ⟨z1, z2⟩ := qE_q0 J h
  obtain ⟨h0, h1, h2, h3, h4, h7, hj, h6, hb, h5⟩ := h
  have F : hf_ [82, 83] g κ st na σ τ := hf_jr hf_refl R (by decide) (by decide)
  obtain ⟨k1, k2, k3, k4, k5, k6, k7⟩ := R
  have ex : ∀ l i, xe τ l i = xe σ l i := by
    intro l i
    have e1 : xr τ 17 l = xr σ 17 l := by show τ.2.2.1 17 l = σ.2.2.1 17 l; rw [k3]
    unfold xe
    rw [e1]
    split
    · show τ.2.2.2.2.2.2.2.1 _ _ = σ.2.2.2.2.2.2.2.1 _ _
      rw [k7]
    · rfl
  have kc : ∀ r, r < nr → κ (T 21 r) = 3 := fun r hr => (z1.2.2.1 r hr).1
  refine ⟨h0, q1_hf h1 F (yg1 J).2.1 (yg1 J).2.2 kc (by decide), q2_hf h2 h1 F kc (by decide), fun k hk => ?_, q4_hf h4 F (yg2 J).2.1 (by decide), q7_hf h7 F (yg3 J).2.1 (yg3 J).2.2 (by decide), qj_hf hj F, q6_hf h6 F (yg5 J).2.1 (yg5 J).2.2 (fun r hr hz => (z2 r hr hz).1) (by decide) rfl rfl rfl rfl rfl, ?_, q5_hf h5 F (yg4 J).2.1 (yg4 J).2.2 (by decide) rfl rfl rfl⟩
  · obtain ⟨a1, a2, a3⟩ := h3 k hk
    exact ⟨by show τ.1 _ = 1; rw [k2]; exact a1, by rw [k1 18 _ (by rintro ⟨_, q | q⟩ <;> exact absurd q (by decide))]; exact a2, fun i x hx => by rw [ex]; exact a3 i x hx⟩
  · rw [k1 218 _ (by rintro ⟨_, q | q⟩ <;> exact absurd q (by decide))]
    exact hb
theorem vq_let {l r c : Int32} {Q : Int32 → kx_S → Prop} {QX : String → kx_S → Prop} (hB : B ≤ 3000) (hn : n ≤ 200) (h10 : nr ≤ 10) (l4 : nl ≤ 400) (J : yJ_ s g κ B n σ) (h : qE_ T N g st na nr nl m day RL no nc a σ) (k0 : an_let nr nl a day m RL s.1.2.2.2.2.2 l r c = none → QX pz_N (xbump σ)) (k1 : ∀ x b u, an_let nr nl a day m RL s.1.2.2.2.2.2 l r c = some (x, b) → qE_ T N g st na nr nl m day RL no nc b u → hf_ [82, 83, 132, 133, 134] g κ st na σ u → Q x u) : vX11_let (g 0) l r c σ Q QX := by
  have H := h
  obtain ⟨h0, h1, h2, h3, h4, h7, hj, h6, hb, h5⟩ := h
  have e217 := (yG_idx J).2.2.2.2.2
  unfold vX11_let
  intro _
  refine vq_logAt l4 J h4 (fun x hx hxl => ?_) (fun z => k0 (if_neg (fun y => z y.1)))
  intro _
  refine vq_reachAt h10 J h1 (fun q hq hlt => ?_) (fun z => k0 (if_neg (fun y => z y.2.1)))
  refine vq_checkCell h1 hlt (fun p hp hpl => ?_) (fun z => k0 (if_neg (fun y => z (by have := y.2.2; rw [ki_toN hq] at this; exact this))))
  intro _
  have ea : an_let nr nl a day m RL s.1.2.2.2.2.2 l r c = some (if ¬ a.1 38 x = 0 then (1, a) else if bar_ a x r s.1.2.2.2.2.2 day m RL = true then (2, a) else if a_open a q p = true then (0, a_take a x q p) else (3, a)) := by
    unfold an_let
    rw [if_pos ⟨in_of hx hxl, in_of hq hlt, by rw [ki_toN hq]; exact in_of hp hpl⟩, ki_toN hx, ki_toN hq, ki_toN hp]
  obtain ⟨⟨_, l8⟩, _, _, l38, _⟩ := h4.2 x hxl
  rw [l38]
  refine ⟨fun z => ?_, fun z => k1 1 a σ (by rw [ea, if_pos z]) H hf_refl⟩
  rw [if_neg (fun y => y z)] at ea
  intro _ a11 e11
  obtain rfl := Option.some.inj ((yg8 J).1.symm.trans e11)
  have wg := vq_weigh (ri := r) (hi := xi σ 217 (g 0)) (Q := fun σ16 => xt σ16 (g 0) = 13 → ∀ a19, xr σ16 215 (g 0) = some a19 → xt σ16 a19 = 5 → (((xi σ16 83 a19) = 0 → xt σ16 (T 10 q) = 10 → vX8_takes (T 10 q) (T 8 x) c σ16 (fun r24 σ23 => ((r24 = 0 → Q 3 σ23) ∧ (¬ (r24 = 0) → Q 0 σ23)))) ∧ (¬ ((xi σ16 83 a19) = 0) → Q 2 σ16))) J hj h7 l8 (fun τ Jt R1 e83 => ?_)
  · exact jaX11_lawInForce (Q := fun q' σ' => σ' = σ ∧ vX3_weigh (g 8) q' (T 8 x) r (xi σ 217 (g 0)) σ' _) (fun q' σ' hh => by
      obtain ⟨y1, y2⟩ := hh
      subst y1
      intro _ _
      exact y2) _ _ (jcX11_lawInForce (Q := fun q' σ' => σ' = σ) (fun q' σ' a b => ⟨a, b⟩) _ _ (rx_lawInForce J (fun q' _ => rfl)) wg)
  · intro _ a19 e19 _
    obtain rfl := Option.some.inj ((yg8 Jt).1.symm.trans e19)
    have Ht := qE_jr J H R1
    rw [e_nm_ab h4 hxl, e217] at e83
    have e83 : xi τ 83 (g 8) = (if bar_ a x r s.1.2.2.2.2.2 day m RL = true then 1 else 0) := e83
    rw [e83]
    by_cases cb : bar_ a x r s.1.2.2.2.2.2 day m RL = true
    · rw [if_pos cb] at ea
      rw [if_pos cb]
      exact ⟨fun y => absurd y (by decide), fun _ => k1 2 a τ ea Ht (hf_jr hf_refl R1 (by decide) (by decide))⟩
    · rw [if_neg cb] at ea
      rw [if_neg cb]
      refine ⟨fun _ _ => ?_, fun y => absurd rfl y⟩
      obtain ⟨Z1, Z2⟩ := qE_q0 Jt Ht
      have Ht' := Ht
      obtain ⟨t0, t1, t2, t3, t4, t7, tj, t6, tb, t5⟩ := Ht'
      refine vq_takes (st := st) (na := na) Jt hB hn Z1 t1 t2 t3 t4 h10 hlt hp hxl (fun _ ho u Ju Fu u3 u4 => ⟨fun y => absurd y (by decide), fun _ => ?_⟩) (fun no_ => ⟨fun _ => k1 3 a τ (by rw [ea, if_neg (fun y => no_ ⟨hpl, y⟩)]) Ht (hf_jr hf_refl R1 (by decide) (by decide)), fun y => absurd rfl y⟩)
      rw [if_pos ho] at ea
      have kc : ∀ r, r < nr → κ (T 21 r) = 3 := fun r hr => (Z1.2.2.1 r hr).1
      have u1 := q1_hf t1 Fu (yg1 Jt).2.1 (yg1 Jt).2.2 kc (by decide)
      have u2 := q2_hf t2 t1 Fu kc (by decide)
      have u7 := q7_hf t7 Fu (yg3 Jt).2.1 (yg3 Jt).2.2 (by decide)
      have uj := qj_hf tj Fu
      have ub : xi u 218 (g 0) = a.1 6 0 := by rw [Fu.2.1 218 _ (by decide) (by decide) (by decide) (by rw [yg0 Jt]; decide)]; exact tb
      exact k1 0 (a_take a x q p) u ea ⟨t0, u1, u2, u3, u4, u7, uj, q6_hf t6 Fu (yg5 Jt).2.1 (yg5 Jt).2.2 (fun r hr hz => (Z2 r hr hz).1) (by decide) rfl rfl rfl rfl rfl, ub, q5_hf t5 Fu (yg4 Jt).2.1 (yg4 Jt).2.2 (by decide) rfl rfl rfl⟩ (hf_trans (hf_jr hf_refl R1 (by decide) (by decide)) (hf_sub Fu (by decide)))
end
