/-! the class: mills -/
def q6_ (T : Nat → Nat → Nat) (N : Nat → Nat) (g5 nr no : Nat) (a : ra_T) (σ : kx_S) : Prop := (xi σ 18 g5).toInt = (no : Int) ∧ no ≤ 60 ∧ (∀ o, o < no → (xe σ g5 o = some (T 9 o) ∧ xt σ (T 9 o) = 9) ∧ xi σ 144 (T 9 o) = a.1 48 o ∧ xi σ 145 (T 9 o) = a.1 49 o ∧ xi σ 146 (T 9 o) = a.1 50 o ∧ N (T 9 o) = o ∧ ∃ r, r < nr ∧ (a.1 47 o).toInt = (r : Int) ∧ ¬ a.1 22 r = 0) ∧ ∀ r, r < nr → ¬ a.1 22 r = 0 → xt σ (T 22 r) = 1 ∧ (xi σ 18 (T 22 r)).toInt = ((od_ a r no 0).length : Int) ∧ ∀ (i o : Nat), (od_ a r no 0)[i]? = some o → xe σ (T 22 r) i = some (T 9 o)
theorem od_lt {a : ra_T} {r : Nat} : ∀ (m o : Nat), (∀ x ∈ od_ a r m o, o ≤ x ∧ x < o + m ∧ (a.1 47 x).toInt = (r : Int)) ∧ (od_ a r m o).length ≤ m := by
  intro m
  induction m with
  | zero => intro o; exact ⟨fun x hx => absurd hx (List.not_mem_nil), Nat.le_refl 0⟩
  | succ m ih =>
    intro o
    obtain ⟨i1, i2⟩ := ih (o + 1)
    unfold od_
    split
    · next c =>
      refine ⟨fun x hx => ?_, by rw [List.length_cons]; omega⟩
      rcases List.mem_cons.1 hx with e | e
      · rw [e]; exact ⟨Nat.le_refl o, by omega, c⟩
      · obtain ⟨z1, z2, z3⟩ := i1 x e; exact ⟨by omega, by omega, z3⟩
    · refine ⟨fun x hx => ?_, by omega⟩
      obtain ⟨z1, z2, z3⟩ := i1 x hx; exact ⟨by omega, by omega, z3⟩
abbrev ml_W : List Nat := [132, 136, 146, 218]
section
variable {T : Nat → Nat → Nat} {N : Nat → Nat} {g κ : Nat → Nat} {st na nr nl no m : Nat} {day : Nat → Int32} {RL : Nat → List (Bool × List Int32)} {s : sz_T} {B n : Nat}
/-- all that mills ask -/
def qo_ (T : Nat → Nat → Nat) (N g κ : Nat → Nat) (st na nr nl m : Nat) (day : Nat → Int32) (RL : Nat → List (Bool × List Int32)) (s : sz_T) (B n no : Nat) (a : ra_T) (σ : kx_S) : Prop := qa_ T N g κ st na nr nl m day RL s B n a σ ∧ q6_ T N (g 5) nr no a σ ∧ xi σ 218 (g 0) = a.1 6 0 ∧ ∀ r, r < nr → ¬ a.1 22 r = 0 → κ (T 22 r) = 9
theorem q6_hf {W : List Nat} {a b : ra_T} {σ τ : kx_S} (h : q6_ T N (g 5) nr no a σ) (F : hf_ W g κ st na σ τ) (t5 : xt σ (g 5) = 1) (k5 : κ (g 5) = 9) (k22 : ∀ r, r < nr → ¬ a.1 22 r = 0 → κ (T 22 r) = 9) (hW : ∀ f ∈ W, f ∉ [144, 145, 146]) (e22 : b.1 22 = a.1 22) (e47 : b.1 47 = a.1 47) (e48 : b.1 48 = a.1 48) (e49 : b.1 49 = a.1 49) (e50 : b.1 50 = a.1 50) : q6_ T N (g 5) nr no b τ := by
  obtain ⟨h1, h2, h3, h4⟩ := h
  obtain ⟨f1, f2⟩ := F.2.2.1 (g 5) t5 (.inl (by rw [k5]; decide))
  refine ⟨by rw [f1]; exact h1, h2, fun o ho => ?_, fun r hr hb => ?_⟩
  · obtain ⟨⟨a1, a2⟩, a3, a4, a5, a6, a7⟩ := h3 o ho
    have tO : xt σ (T 9 o) ≠ 0 := by rw [a2]; decide
    have xk : ∀ {f : Nat}, f ∈ [144, 145, 146] → xi τ f (T 9 o) = xi σ f (T 9 o) := fun {f} hf => F.2.1 f _ (fun q => hW f q hf) (by intro e; rw [e] at hf; exact absurd hf (by decide)) (by intro e; rw [e] at hf; exact absurd hf (by decide)) tO
    rw [e22, e47, e48, e49, e50]
    exact ⟨⟨by rw [f2 o (by omega)]; exact a1, fg_tag F.1 a2 (by decide)⟩, by rw [xk (by decide)]; exact a3, by rw [xk (by decide)]; exact a4, by rw [xk (by decide)]; exact a5, a6, a7⟩
  · rw [e22] at hb
    obtain ⟨b1, b2, b3⟩ := h4 r hr hb
    obtain ⟨c1, c2⟩ := F.2.2.1 (T 22 r) b1 (.inl (by rw [k22 r hr hb]; decide))
    rw [od_qm e47]
    refine ⟨fg_tag F.1 b1 (by decide), by rw [c1]; exact b2, fun i o hi => ?_⟩
    have hlt := (List.getElem?_eq_some_iff.1 hi).1
    rw [c2 i (by omega)]
    exact b3 i o hi
theorem vq_tff {a : ra_T} {r o : Nat} {Q : Option Nat → kx_S → Prop} {σ : kx_S} (h10 : nr ≤ 10) (A : ao_ nr nl a) (H : qo_ T N g κ st na nr nl m day RL s B n no a σ) (hr : r < nr) (hb : ¬ a.1 22 r = 0) (ho : o < no)
    (k0 : (a.2 (120 + r)).find? (mt_b a o) = none → Q none σ) (k1 : ∀ x τ, (a.2 (120 + r)).find? (mt_b a o) = some x → x ∈ a.2 (120 + r) → yJ_ s g κ B n τ → hf_ ml_W g κ st na σ τ → q3_ T nr (a_drop a x (120 + r)) τ → q4_ T (g 2) nl a τ → (∀ f b, f ≠ 16 → f ≠ 18 → xi τ f b = xi σ f b) → Q (some (T 8 x)) τ) : vX0_takeFirstFor (T 2 r) (T 9 o) σ Q := by
  obtain ⟨⟨J, h0, h1, h2, h3, h4, h7, hj⟩, h6, hB, k22⟩ := H
  obtain ⟨z0, z1, z2, z3, z4, z5, z6⟩ : ¬ a.1 22 r = 0 ∧ xr σ 172 (T 10 r) = some (T 2 r) ∧ xt σ (T 2 r) = 2 ∧ xr σ 32 (T 2 r) = some (T 1 (120 + r)) ∧ xr σ 33 (T 2 r) = some (T 22 r) ∧ xi σ 34 (T 2 r) = a.1 27 r ∧ xi σ 35 (T 2 r) = a.1 28 r := by
    obtain ⟨_, _, _, _, b172, _⟩ := h1.2 r hr
    rcases b172 with z | z
    · exact absurd z.2 hb
    · exact z
  have hk : vk_ nr a (120 + r) := .inr ⟨r, hr, hb, rfl⟩
  obtain ⟨d1, d2, d3⟩ := h3 _ hk
  obtain ⟨t1, t2, t3⟩ := h0.1 _ hk
  obtain ⟨⟨o1, o2⟩, o144, o145, o146, _⟩ := h6.2.2.1 o ho
  have h100 := (A.2.2.2.2.1 r hr).1
  have loop : ∀ (j : Nat) (P R : List Nat) (i : Int32), i.toInt = (P.length : Int) → a.2 (120 + r) = P ++ R → (∀ y ∈ P, mt_b a o y = false) → vX0_takeFirstFor_2 (vX0_takeFirstFor_51 Q) Q j (T 2 r) (T 9 o) i σ := by
    intro j
    induction j with
    | zero => intro _ _ _ _ _ _; exact trivial
    | succ j ih =>
      intro P R i hi hL hP
      have hlen : (a.2 (120 + r)).length = P.length + R.length := by rw [hL, List.length_append]
      unfold vX0_takeFirstFor_2
      intro _ a9 e9 _
      obtain rfl := Option.some.inj (z3.symm.trans e9)
      unfold vJx4a65c_size_8abf5
      intro _
      rw [ki_le, d2, hi]
      refine ⟨fun q => k0 ?_, fun q _ => ?_⟩
      · have hR : R = [] := List.eq_nil_of_length_eq_zero (by omega)
        rw [hL, hR, List.append_nil, find_none hP]
      · cases R with
        | nil => rw [List.length_nil] at hlen; omega
        | cons x R =>
          rw [List.length_cons] at hlen
          have hxm : x ∈ a.2 (120 + r) := by rw [hL]; exact List.mem_append.2 (.inr (List.mem_cons_self))
          have hxl := (A.2.1 _ x hxm).1
          obtain ⟨⟨l1, l2⟩, _, ⟨l129, l130, _⟩, _⟩ := h4.2 x hxl
          intro a16 e16 _
          obtain rfl := Option.some.inj (z3.symm.trans e16)
          refine vy_get (fun _ _ => ?_)
          have hxe : xe σ (T 1 (120 + r)) P.length = some (T 8 x) := d3 P.length x (by rw [hL, List.getElem?_append_right (Nat.le_refl _), Nat.sub_self]; rfl)
          rw [ki_toN hi, hxe]
          intro a21 e21 _ _
          obtain rfl := Option.some.inj e21
          rw [l129, o144, l130, o145]
          have skip : mt_b a o x = false → vX0_takeFirstFor_64 (vX0_takeFirstFor_2 (vX0_takeFirstFor_51 Q) Q j) Q (T 2 r) (T 9 o) i σ := by
            intro e
            unfold vX0_takeFirstFor_64
            intro v1 e1
            refine ih (P ++ [x]) R v1 ?_ (by rw [hL, List.append_assoc]; rfl) (fun y hy => ?_)
            · rw [e1, List.length_append]
              show _ = ((P.length + 1 : Nat) : Int)
              exact ki_addN hi ki_z1 (by omega)
            · rcases List.mem_append.1 hy with z | z
              · exact hP y z
              · rw [List.mem_singleton.1 z]; exact e
          have mf : ∀ (nC : ¬ (a.1 35 x = a.1 48 o ∧ a.1 49 o ≤ a.1 36 x)), mt_b a o x = false := by
            intro nC
            cases e : mt_b a o x
            · rfl
            · exact absurd (mt_T.1 e) nC
          refine ⟨fun c1 => skip (mf (fun z => c1 z.1)), fun c1 => ⟨fun c2 => skip (mf (fun z => ?_)), fun c2 => ?_⟩⟩
          · have := z.2
            rw [ki_le] at this
            rw [ki_lt] at c2
            omega
          · have hm : mt_b a o x = true := mt_T.2 ⟨c1, by rw [ki_le]; rw [ki_lt] at c2; omega⟩
            unfold vX0_takeFirstFor_51
            intro _ a3 e3 _
            obtain rfl := Option.some.inj (z3.symm.trans e3)
            refine vy_remlog J d1 t1 t2 hi d2 (by omega) (fun q τ J' A2 A3 A4 X => ?_)
            have q3' := q3_rem (N := N) h3 hk (fun k hk' => (h0.1 k hk').2.2) (by omega) hL A2 A3 A4
            have ed : a_drop a x (120 + r) = ks_ a (120 + r) (P ++ R) := by
              unfold a_drop
              rw [hL, fil_one (by rw [← hL]; exact A.2.2.1 _)]
            refine k1 x τ (by rw [hL, find_skip hP, List.find?_cons_of_pos hm]) hxm J' (hf_rem hf_refl A2 X t1 t2) (by rw [ed]; exact q3') (q4_hf (W := []) (κ := κ) (st := st) (na := na) h4 (hf_rem hf_refl A2 X t1 t2) (yg2 J).2.1 (fun f hf => absurd hf (List.not_mem_nil))) (fun f b f1 f2 => by rw [A2.2.2.1 f f1 f2])
  unfold vX0_takeFirstFor
  intro j
  exact loop j [] (a.2 (120 + r)) 0 rfl rfl (fun y hy => absurd hy (List.not_mem_nil))
theorem qo_gen {W : List Nat} {a b : ra_T} {σ τ : kx_S} (H : qo_ T N g κ st na nr nl m day RL s B n no a σ) (k : qt_ a b) (J : yJ_ s g κ B n τ) (F : hf_ W g κ st na σ τ) (hW : ∀ f ∈ W, f ∉ [160, 162, 165, 169, 170, 171, 34, 35, 48, 50, 51, 96]) (h3 : q3_ T nr b τ) (h4 : q4_ T (g 2) nl b τ) (h6 : q6_ T N (g 5) nr no b τ) (hB : xi τ 218 (g 0) = b.1 6 0) : qo_ T N g κ st na nr nl m day RL s B n no b τ :=
  ⟨qa_gen H.1 k J F hW h3 h4, h6, hB, fun r hr hb => H.2.2.2 r hr (by rw [← k 22 (by decide)]; exact hb)⟩
theorem vq_saws {r o : Nat} {Q : Int32 → kx_S → Prop} {σ : kx_S} {mi : Int32} {l0 : Nat} (h10 : nr ≤ 10) (hr : r < nr) (ho : o < no) (hm : mi.toInt = (l0 : Int)) (l3 : l0 ≤ 3) : ∀ (j l : Nat) (a : ra_T) (i : Int32) (τ : kx_S), i.toInt = (l0 : Int) - (l : Int) → l ≤ l0 → ao_ nr nl a → ¬ a.1 22 r = 0 → qo_ T N g κ st na nr nl m day RL s B n no a τ → hf_ ml_W g κ st na σ τ → (∀ v (w : Int32), w.toInt = (l0 : Int) - ((a_saws r o l a).2 : Int) → ao_ nr nl (a_saws r o l a).1 → qo_ T N g κ st na nr nl m day RL s B n no (a_saws r o l a).1 v → hf_ ml_W g κ st na σ v → Q w v) → vX11_sawFor_3 Q j (g 0) (T 9 o) (T 2 r) mi i τ := by
  intro j
  induction j with
  | zero => intro _ _ _ _ _ _ _ _ _ _ _; exact trivial
  | succ j ih =>
    intro l a i τ hi hl A hb H F kk
    have HH := H
    obtain ⟨⟨J, h0, h1, h2, h3, h4, h7, hj⟩, h6, hB, k22⟩ := HH
    obtain ⟨⟨o1, o2⟩, o144, o145, o146, oN, _⟩ := h6.2.2.1 o ho
    unfold vX11_sawFor_3
    rw [ki_le, hm, hi]
    refine ⟨fun q => ?_, fun q _ => ?_⟩
    · have : l = 0 := by omega
      subst this
      exact kk τ mi (by rw [hm]; show (l0 : Int) = (l0 : Int) - ((0 : Nat) : Int); omega) A H F
    · obtain ⟨l, rfl⟩ : ∃ x, l = x + 1 := ⟨l - 1, by omega⟩
      have stop : a_saw1 a r o = none → Q i τ := by
        intro e
        have es : a_saws r o (l + 1) a = (a, l + 1) := by
          show (match a_saw1 a r o with
            | none => (a, l + 1)
            | some b => a_saws r o l b) = _
          rw [e]
        rw [es] at kk
        exact kk τ i hi A H F
      rw [o146]
      refine ⟨fun w => ?_, fun w _ => ?_⟩
      · unfold vX11_sawFor_25
        exact ⟨fun a2 e => absurd e (by simp), fun _ => stop (if_pos w)⟩
      · refine vq_tff h10 A H hr hb ho (fun e => ?_) (fun x v e hxm Jv Fv q3v q4v xv => ?_)
        · unfold vX11_sawFor_25
          refine ⟨fun a2 e => absurd e (by simp), fun _ => stop ?_⟩
          unfold a_saw1
          rw [if_neg w, e]
          rfl
        · have hxl := (A.2.1 _ x hxm).1
          have es : a_saws r o (l + 1) a = a_saws r o l (a_sawn a r o x) := by
            show (match a_saw1 a r o with
              | none => (a, l + 1)
              | some b => a_saws r o l b) = _
            rw [show a_saw1 a r o = some (a_sawn a r o x) by unfold a_saw1; rw [if_neg w, e]; rfl]
          rw [es] at kk
          have hN := h0.2.2.2
          unfold vX11_sawFor_25
          refine ⟨fun a2 e2 _ _ => ?_, fun e2 => absurd e2 (by simp)⟩
          obtain rfl := Option.some.inj e2
          unfold vX6_becomeBoards
          rintro _ σ2 rfl σ4 rfl _ _ σ8 rfl _ σ12 rfl v16 e16
          have b218 : xi v 218 (g 0) = a.1 6 0 := (xv 218 _ (by decide) (by decide)).trans hB
          have b130 : xi v 130 (T 8 x) = a.1 36 x := (q4v.2 x hxl).2.2.1.2.1
          have b146 : xi v 146 (T 9 o) = a.1 50 o := (xv 146 _ (by decide) (by decide)).trans o146
          have c218 : xi (xsi (xsi v 132 (T 8 x) 3) 136 (T 8 x) (xi v 218 (g 0))) 218 (g 0) = a.1 6 0 := b218
          have c130 : xi (xsi (xsi v 132 (T 8 x) 3) 136 (T 8 x) (xi v 218 (g 0))) 130 (T 8 x) = a.1 36 x := b130
          rw [c218, c130]
          have c146 : xi (xsi (xsi (xsi v 132 (T 8 x) 3) 136 (T 8 x) (xi v 218 (g 0))) 218 (g 0) (a.1 6 0 + a.1 36 x)) 146 (T 9 o) = a.1 50 o := b146
          rw [c146, b218]
          have F4 : hf_ ml_W g κ st na τ (xsi (xsi (xsi (xsi v 132 (T 8 x) 3) 136 (T 8 x) (a.1 6 0)) 218 (g 0) (a.1 6 0 + a.1 36 x)) 146 (T 9 o) (a.1 50 o - 1)) := hf_si (hf_si (hf_si (hf_si Fv (by decide) (by decide)) (by decide) (by decide)) (by decide) (by decide)) (by decide) (by decide)
          have J4 : yJ_ s g κ B n (xsi (xsi (xsi (xsi v 132 (T 8 x) 3) 136 (T 8 x) (a.1 6 0)) 218 (g 0) (a.1 6 0 + a.1 36 x)) 146 (T 9 o) (a.1 50 o - 1)) := yI_si (by decide) (yI_si (by decide) (yI_si (by decide) (yI_si (by decide) Jv)))
          have q44 : q4_ T (g 2) nl (a_sawn a r o x) (xsi (xsi (xsi (xsi v 132 (T 8 x) 3) 136 (T 8 x) (a.1 6 0)) 218 (g 0) (a.1 6 0 + a.1 36 x)) 146 (T 9 o) (a.1 50 o - 1)) := q4_136 (v := a.1 6 0) (q4_132 (v := 3) q4v hN hxl) hN hxl
          have q34 : q3_ T nr (a_sawn a r o x) (xsi (xsi (xsi (xsi v 132 (T 8 x) 3) 136 (T 8 x) (a.1 6 0)) 218 (g 0) (a.1 6 0 + a.1 36 x)) 146 (T 9 o) (a.1 50 o - 1)) := q3v
          have kq : qt_ a (a_sawn a r o x) := fun f hf => qm_sawn.1 f (by intro e; rw [e] at hf; exact absurd hf (by decide)) (by intro e; rw [e] at hf; exact absurd hf (by decide)) (by intro e; rw [e] at hf; exact absurd hf (by decide)) (by intro e; rw [e] at hf; exact absurd hf (by decide))
          have q6v : q6_ T N (g 5) nr no a v := q6_hf (W := []) (κ := κ) (st := st) (na := na) (b := a) h6 ⟨Fv.1, fun f b _ f1 f2 _ => xv f b f1 f2, Fv.2.2⟩ (yg5 J).2.1 (yg5 J).2.2 k22 (fun f hf => absurd hf (List.not_mem_nil)) rfl rfl rfl rfl rfl
          have q64 : q6_ T N (g 5) nr no (a_sawn a r o x) (xsi (xsi (xsi (xsi v 132 (T 8 x) 3) 136 (T 8 x) (a.1 6 0)) 218 (g 0) (a.1 6 0 + a.1 36 x)) 146 (T 9 o) (a.1 50 o - 1)) := by
            refine ⟨q6v.1, q6v.2.1, fun o' ho' => ?_, fun q hq hbq => ?_⟩
            · obtain ⟨p1, p2, p3, p4, p5, p6⟩ := q6v.2.2.1 o' ho'
              refine ⟨p1, p2, p3, ?_, p5, p6⟩
              show va_up (xi v 146) (T 9 o) (a.1 50 o - 1) (T 9 o') = upd (a.1 50) o (a.1 50 o - 1) o'
              by_cases eo : o' = o
              · rw [eo, va_up_self, w_updS]
              · rw [va_up_ne _ _ (fun z => eo (by rw [← p5, z, oN])), w_updN eo]
                exact p4
            · have hbq : ¬ a.1 22 q = 0 := hbq
              rw [od_qm (a := a) (b := a_sawn a r o x) rfl]
              exact q6v.2.2.2 q hq hbq
          have H4 := qo_gen (W := ml_W) H kq J4 F4 (by decide) q34 q44 q64 (by
            show va_up (xi v 218) (g 0) (a.1 6 0 + a.1 36 x) (g 0) = upd (a.1 6) 0 (a.1 6 0 + a.1 36 x) 0
            rw [va_up_self, w_updS])
          refine ih l (a_sawn a r o x) v16 _ ?_ (by omega) (ao_sawn A hr h10 hxm) hb H4 (hf_trans F F4) kk
          rw [e16, ki_add (by rw [hi, ki_z1]; omega) (by rw [hi, ki_z1]; omega), hi, ki_z1]
          omega
theorem vq_millL {r : Nat} {ri : Int32} {K : Nat → Int32 → kx_S → Prop} {Q : kx_S → Prop} {σ : kx_S} {OL : List Nat} (h10 : nr ≤ 10) (hr : r < nr) : ∀ (j : Nat) (R P : List Nat) (l : Nat) (a : ra_T) (li ki : Int32) (τ : kx_S), OL = P ++ R → OL = od_ a r no 0 → ki.toInt = (P.length : Int) → li.toInt = (l : Int) → l ≤ 3 → ao_ nr nl a → ¬ a.1 22 r = 0 → qo_ T N g κ st na nr nl m day RL s B n no a τ → hf_ ml_W g κ st na σ τ → (∀ v, ao_ nr nl (a_millL r R l a) → qo_ T N g κ st na nr nl m day RL s B n no (a_millL r R l a) v → hf_ ml_W g κ st na σ v → K (g 0) ri v) → vX11_runMills_44 K Q j (g 0) ri (some (T 2 r)) li ki τ := by
  intro j
  induction j with
  | zero => intro _ _ _ _ _ _ _ _ _ _ _ _ _ _ _ _ _; exact trivial
  | succ j ih =>
    intro R P l a li ki τ hPR hOL hk hl l3 A hb H F kk
    have HH := H
    obtain ⟨⟨J, h0, h1, h2, h3, h4, h7, hj⟩, h6, hB, k22⟩ := HH
    obtain ⟨z0, z1, z2, z3, z4, z5, z6⟩ : ¬ a.1 22 r = 0 ∧ xr τ 172 (T 10 r) = some (T 2 r) ∧ xt τ (T 2 r) = 2 ∧ xr τ 32 (T 2 r) = some (T 1 (120 + r)) ∧ xr τ 33 (T 2 r) = some (T 22 r) ∧ xi τ 34 (T 2 r) = a.1 27 r ∧ xi τ 35 (T 2 r) = a.1 28 r := by
      obtain ⟨_, _, _, _, b172, _⟩ := h1.2 r hr
      rcases b172 with z | z
      · exact absurd z.2 hb
      · exact z
    obtain ⟨d1, d2, d3⟩ := h6.2.2.2 r hr hb
    rw [← hOL] at d2 d3
    have n60 := h6.2.1
    obtain ⟨ol1, ol2⟩ := od_lt (a := a) (r := r) no 0
    rw [← hOL] at ol1 ol2
    have hlen : OL.length = P.length + R.length := by rw [hPR, List.length_append]
    unfold vX11_runMills_44
    intro a2 e2 _
    obtain rfl := Option.some.inj e2
    intro a5 e5 _
    obtain rfl := Option.some.inj (z4.symm.trans e5)
    unfold vJx4a65c_size_8abf5
    intro _
    rw [ki_le, d2, hk]
    refine ⟨fun q => ?_, fun q => ?_⟩
    · have hR : R = [] := List.eq_nil_of_length_eq_zero (by omega)
      rw [hR] at kk
      exact kk τ A H F
    · cases R with
      | nil => rw [List.length_nil] at hlen; omega
      | cons o R =>
        rw [List.length_cons] at hlen
        rw [ki_le, ki_z0, hl]
        refine ⟨fun c => ?_, fun c => ?_⟩
        · have : l = 0 := by omega
          subst this
          rw [a_millL_0] at kk
          exact kk τ A H F
        · have hom : o ∈ OL := by rw [hPR]; exact List.mem_append.2 (.inr (List.mem_cons_self))
          have ho : o < no := by have := (ol1 o hom).2.1; omega
          intro a12 e12 _
          obtain rfl := Option.some.inj e12
          intro a15 e15 _
          obtain rfl := Option.some.inj (z4.symm.trans e15)
          refine vy_get (fun _ _ => ?_)
          have hoe : xe τ (T 22 r) P.length = some (T 9 o) := d3 P.length o (by rw [hPR, List.getElem?_append_right (Nat.le_refl _), Nat.sub_self]; rfl)
          rw [ki_toN hk, hoe]
          intro a20 e20 _
          obtain rfl := Option.some.inj e20
          intro a23 e23 _
          obtain rfl := Option.some.inj e23
          unfold vX11_sawFor
          intro j2
          refine vq_saws h10 hr ho hl l3 j2 l a 0 τ (by rw [ki_z0]; omega) (Nat.le_refl _) A hb H F (fun v w hw A' H' F' => ?_)
          intro v28 e28 v29 e29
          have ks := qm_saws (r := r) (o := o) l a
          have e47 := ks.1.1 47 (by decide) (by decide) (by decide) (by decide)
          have e22 := ks.1.1 22 (by decide) (by decide) (by decide) (by decide)
          refine ih R (P ++ [o]) (a_saws r o l a).2 (a_saws r o l a).1 v28 v29 v (by rw [hPR, List.append_assoc]; rfl) (by rw [od_qm e47]; exact hOL) ?_ ?_ (Nat.le_trans ks.2 l3) A' (by rw [e22]; exact hb) H' F' kk
          · rw [e29, List.length_append]
            show _ = ((P.length + 1 : Nat) : Int)
            exact ki_addN hk ki_z1 (by omega)
          · have := ks.2
            rw [e28, ki_sub (by rw [hl, hw]; omega) (by rw [hl, hw]; omega), hl, hw]
            omega
theorem vq_mills {a : ra_T} {Q : kx_S → Prop} {σ : kx_S} (h10 : nr ≤ 10) (A : ao_ nr nl a) (H : qo_ T N g κ st na nr nl m day RL s B n no a σ) (kk : ∀ v, ao_ nr nl (a_mills no nr 0 a) → qo_ T N g κ st na nr nl m day RL s B n no (a_mills no nr 0 a) v → hf_ ml_W g κ st na σ v → Q v) : vX11_runMills (g 0) σ Q := by
  have loop : ∀ (j k r : Nat) (a : ra_T) (i : Int32) (τ : kx_S), i.toInt = (r : Int) → r + k = nr → ao_ nr nl a → qo_ T N g κ st na nr nl m day RL s B n no a τ → hf_ ml_W g κ st na σ τ → (∀ v, ao_ nr nl (a_mills no k r a) → qo_ T N g κ st na nr nl m day RL s B n no (a_mills no k r a) v → hf_ ml_W g κ st na σ v → Q v) → vX11_runMills_2 Q j (g 0) i τ := by
    intro j
    induction j with
    | zero => intro _ _ _ _ _ _ _ _ _ _ _; exact trivial
    | succ j ih =>
      intro k r a i τ hi hk A H F kk
      have HH := H
      obtain ⟨⟨J, h0, h1, h2, h3, h4, h7, hj⟩, h6, hB, k22⟩ := HH
      unfold vX11_runMills_2
      intro _ a31 e31 _
      obtain rfl := Option.some.inj ((yg1 J).1.symm.trans e31)
      unfold vJx4a65c_size_8abf5
      intro _
      rw [ki_le, h1.1, hi]
      refine ⟨fun q => ?_, fun q _ => ?_⟩
      · have : k = 0 := by omega
        subst this
        exact kk τ A H F
      · obtain ⟨k, rfl⟩ : ∃ q, k = q + 1 := ⟨k - 1, by omega⟩
        have hr : r < nr := by omega
        have nx : ∀ v : Int32, v = i + 1 → v.toInt = ((r + 1 : Nat) : Int) := fun v e => by rw [e]; exact ki_addN hi ki_z1 (by omega)
        intro a38 e38 _
        obtain rfl := Option.some.inj ((yg1 J).1.symm.trans e38)
        refine vy_get (fun _ _ => ?_)
        obtain ⟨⟨b0, b00⟩, _, _, _, b172, _⟩ := h1.2 r hr
        rw [ki_toN hi, b0]
        intro a43 e43 _
        obtain rfl := Option.some.inj e43
        intro q46 e46
        have kk : ∀ v, ao_ nr nl (a_mills no k (r + 1) (a_mill no a r)) → qo_ T N g κ st na nr nl m day RL s B n no (a_mills no k (r + 1) (a_mill no a r)) v → hf_ ml_W g κ st na σ v → Q v := kk
        refine ⟨fun a48 e48 j2 => ?_, fun e48 => ?_⟩
        · obtain ⟨z0, z1, z2⟩ : ¬ a.1 22 r = 0 ∧ xr τ 172 (T 10 r) = some (T 2 r) ∧ xt τ (T 2 r) = 2 := by
            rcases b172 with z | z
            · rw [e46, z.1] at e48; exact absurd e48 (by simp)
            · exact ⟨z.1, z.2.1, z.2.2.1⟩
          rw [e46] at e48
          obtain rfl := Option.some.inj (z1.symm.trans e48)
          refine vq_millL h10 hr j2 (od_ a r no 0) [] 3 a 3 0 τ rfl rfl rfl (by decide) (Nat.le_refl 3) A z0 H F (fun v A' H' F' => ?_)
          unfold vX11_runMills_91
          intro v1 e1
          exact ih k (r + 1) (a_mill no a r) v1 v (nx v1 e1) (by omega) A' H' F' kk
        · have z0 : a.1 22 r = 0 := by
            rcases b172 with z | ⟨_, z, _⟩
            · exact z.2
            · rw [e46, z] at e48; exact absurd e48 (by simp)
          have em : a_mill no a r = a := by
            unfold a_mill
            have : od_ a r no 0 = [] := by
              cases e : od_ a r no 0 with
              | nil => rfl
              | cons o L =>
                exfalso
                have hom : o ∈ od_ a r no 0 := by rw [e]; exact List.mem_cons_self
                obtain ⟨_, o2, o3⟩ := (od_lt (a := a) (r := r) no 0).1 o hom
                obtain ⟨_, _, _, _, _, q, q1, q2, q3⟩ := h6.2.2.1 o (by omega)
                have : q = r := by omega
                rw [this] at q3
                exact q3 z0
            rw [this]
            rfl
          rw [em] at kk
          unfold vX11_runMills_91
          intro v1 e1
          exact ih k (r + 1) a v1 τ (nx v1 e1) (by omega) A H F kk
  unfold vX11_runMills
  intro j
  exact loop j nr 0 a 0 σ (by decide) (by omega) A H hf_refl kk
end
