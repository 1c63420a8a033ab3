/-! a log leaves its reach; moves on; a cell's logs; all -/
abbrev wm_W : List Nat := [82, 83, 132, 133, 134]
/-- all that a move asks of the class -/
def qa_ (T : Nat → Nat → Nat) (N g κ : Nat → Nat) (st na nr nl m : Nat) (day : Nat → Int32) (RL : Nat → List (Bool × List Int32)) (s : sz_T) (B n : Nat) (a : ra_T) (σ : kx_S) : Prop :=
  yJ_ s g κ B n σ ∧ q0_ T N g κ nr nl a ∧ q1_ T (g 1) nr a σ ∧ q2_ T nr a σ ∧ q3_ T nr a σ ∧ q4_ T (g 2) nl a σ ∧ q7_ T (g 3) m day RL st na σ ∧ qj_ (g 8) st na σ
/-- the abstract river is another, but not where it is built -/
def qs_ (a b : ra_T) : Prop := ∀ f, f ≠ 38 → f ≠ 39 → f ≠ 40 → b.1 f = a.1 f
theorem qs_refl {a : ra_T} : qs_ a a := fun _ _ _ _ => rfl
theorem qs_trans {a b c : ra_T} (h : qs_ a b) (k : qs_ b c) : qs_ a c := fun f h1 h2 h3 => (k f h1 h2 h3).trans (h f h1 h2 h3)
theorem qs_take {a : ra_T} {x r c : Nat} : qs_ a (a_take a x r c) := fun f h1 h2 h3 => (fs_n h3).trans ((fs_n h2).trans (fs_n h1))
theorem qs_heap {a : ra_T} {x r : Nat} : qs_ a (a_heap a x r) := fun f h1 _ h3 => (fs_n h3).trans (fs_n h1)
theorem qs_sea {a : ra_T} {x : Nat} : qs_ a (a_sea a x) := fun f h1 h2 h3 => (fs_n h3).trans ((fs_n h2).trans (fs_n h1))
theorem qs_drop {a b : ra_T} {x k : Nat} (h : qs_ a b) : qs_ a (a_drop b x k) := h
theorem qs_exit {a b : ra_T} {r x : Nat} (h : a_exit a r x = some b) : qs_ a b := by
  unfold a_exit at h
  split at h
  · split at h
    · rw [← Option.some.inj h]; exact qs_heap
    · exact absurd h (by simp)
  · split at h
    · exact absurd h (by simp)
    · split at h
      · rw [← Option.some.inj h]; exact qs_sea
      · split at h
        · rw [← Option.some.inj h]; exact qs_take
        · exact absurd h (by simp)
theorem qs_on {a b : ra_T} {r c sp x : Nat} (h : a_on a r c sp x = some b) : qs_ a b := by
  unfold a_on at h
  split at h
  · next e =>
    split at e
    · rw [← Option.some.inj h]; exact qs_exit e
    · exact absurd e (by simp)
  · split at h
    · exact absurd h (by simp)
    · rw [← Option.some.inj h]; exact qs_take
theorem qs_ln {a b : ra_T} (h : qs_ a b) (r : Nat) : ln_ b r = ln_ a r := by
  unfold ln_
  rw [h 14 (by decide) (by decide) (by decide)]
theorem qs_vk {a b : ra_T} {nr k : Nat} (h : qs_ a b) : vk_ nr b k ↔ vk_ nr a k := by
  unfold vk_
  have e := fun r => qs_ln h r
  simp only [e, h 22 (by decide) (by decide) (by decide)]
theorem qs_vk2 {a b : ra_T} {nr k : Nat} (h : qs_ a b) : vk2_ nr b k ↔ vk2_ nr a k := by
  unfold vk2_
  have e := fun r => qs_ln h r
  simp only [e]
section
variable {T : Nat → Nat → Nat} {N : Nat → Nat} {g κ : Nat → Nat} {st na nr nl m : Nat} {a b : ra_T} {day : Nat → Int32} {RL : Nat → List (Bool × List Int32)} {s : sz_T} {B n : Nat}
theorem q0_qs (h : q0_ T N g κ nr nl a) (k : qs_ a b) : q0_ T N g κ nr nl b := by
  refine ⟨fun x hx => h.1 x ((qs_vk k).1 hx), fun r c h1 h2 => h.2.1 r c h1 (by rw [← qs_ln k]; exact h2), h.2.2⟩
theorem q1_qs {σ : kx_S} (h : q1_ T (g 1) nr a σ) (k : qs_ a b) : q1_ T (g 1) nr b σ := by
  have e := fun f h1 h2 h3 => k f h1 h2 h3
  unfold q1_ at h ⊢
  simp only [qs_ln k, k 16 (by decide) (by decide) (by decide), k 21 (by decide) (by decide) (by decide), k 18 (by decide) (by decide) (by decide), k 19 (by decide) (by decide) (by decide), k 23 (by decide) (by decide) (by decide), k 13 (by decide) (by decide) (by decide), k 22 (by decide) (by decide) (by decide), k 27 (by decide) (by decide) (by decide), k 28 (by decide) (by decide) (by decide)]
  exact h
theorem q2_qs {σ : kx_S} (h : q2_ T nr a σ) (k : qs_ a b) : q2_ T nr b σ := by
  unfold q2_ at h ⊢
  simp only [qs_ln k, k 15 (by decide) (by decide) (by decide), k 33 (by decide) (by decide) (by decide), k 34 (by decide) (by decide) (by decide)]
  exact h
/-- the rest follows a move by its frame -/
theorem qa_mv {σ τ : kx_S} (h : qa_ T N g κ st na nr nl m day RL s B n a σ) (k : qs_ a b) (J : yJ_ s g κ B n τ) (F : hf_ wm_W g κ st na σ τ) (h3 : q3_ T nr b τ) (h4 : q4_ T (g 2) nl b τ) : qa_ T N g κ st na nr nl m day RL s B n b τ := by
  obtain ⟨J0, a0, a1, a2, a3, a4, a7, aj⟩ := h
  have kc : ∀ r, r < nr → κ (T 21 r) = 3 := fun r hr => (a0.2.2.1 r hr).1
  exact ⟨J, q0_qs a0 k, q1_qs (q1_hf a1 F (yg1 J0).2.1 (yg1 J0).2.2 kc (by decide)) k, q2_qs (q2_hf a2 a1 F kc (by decide)) k, h3, h4, q7_hf a7 F (yg3 J0).2.1 (yg3 J0).2.2 (by decide), qj_hf aj F⟩
theorem vq_leaves {σ : kx_S} {r x : Nat} {Q : Int32 → kx_S → Prop} (hB : B ≤ 3000) (hn : n ≤ 200) (h10 : nr ≤ 10) (H : qa_ T N g κ st na nr nl m day RL s B n a σ) (hr : r < nr) (hx : x < nl)
    (k1 : ∀ b τ, a_exit a r x = some b → yJ_ s g κ B n τ → hf_ wm_W g κ st na σ τ → q3_ T nr b τ → q4_ T (g 2) nl b τ → Q 1 τ) (k0 : a_exit a r x = none → Q 0 σ) : vX11_leaves (g 0) (T 8 x) (T 10 r) σ Q := by
  obtain ⟨J, h0, h1, h2, h3, h4, h7, hj⟩ := H
  obtain ⟨⟨b0, b00⟩, b160, ⟨_, b165, _, b170, _⟩, b161, b172, _⟩ := h1.2 r hr
  obtain ⟨⟨l1, l2⟩, l128, ⟨l129, _⟩, _⟩ := h4.2 x hx
  have hN := h0.2.2.2
  have tR : xt σ (T 10 r) ≠ 0 := by rw [b00]; decide
  have n122 : ¬ (¬ a.1 22 r = 0 ∧ ((a.1 27 r >>> (a.1 35 x &&& 31)) &&& 1) = 1) → ¬ (¬ a.1 21 r = 0 ∧ ¬ 50 ≤ a.1 19 r) → vX11_leaves_122 Q (T 8 x) (T 10 r) σ := by
    intro n1 n2
    have e0 : a_exit a r x = if a.1 13 r = -1 then some (a_sea a x) else if a_open a (a.1 13 r).toNatClampNeg 0 = true then some (a_take a x (a.1 13 r).toNatClampNeg 0) else none := by
      unfold a_exit
      rw [if_neg n1, if_neg n2]
    unfold vX11_leaves_122
    intro _
    refine ⟨fun a3 e3 a4 e4 _ => ?_, fun e _ => ?_⟩
    · obtain ⟨q, q1, q2, q3⟩ : ∃ q : Nat, (a.1 13 r).toInt = (q : Int) ∧ q < r ∧ xr σ 161 (T 10 r) = some (T 10 q) := by
        rcases b161 with z | z
        · rw [z.1] at e3; exact absurd e3 (by simp)
        · exact z
      obtain rfl := Option.some.inj (q3.symm.trans e4)
      have nm : ¬ a.1 13 r = -1 := by rw [ki_eq, ki_zm]; omega
      have eq : (a.1 13 r).toNatClampNeg = q := by rw [ki_nat]; omega
      rw [if_neg nm, eq] at e0
      obtain ⟨_, _, _, _, _, _, _, _, _, lq⟩ := h1.2 q (by omega)
      refine vq_takes (st := st) (na := na) J hB hn h0 h1 h2 h3 h4 h10 (by omega) (c := 0) rfl hx (fun _ ho τ J' F' q3' q4' => ?_) (fun no => ?_)
      · intro _
        rw [if_pos ho] at e0
        exact k1 _ τ e0 J' (hf_sub F' (by decide)) q3' q4'
      · intro _
        by_cases ho : a_open a q 0 = true
        · exact absurd ⟨lq, ho⟩ no
        · rw [if_neg ho] at e0
          exact k0 e0
    · have nm : a.1 13 r = -1 := by
        rcases b161 with z | ⟨q, _, _, z⟩
        · exact z.2
        · rw [e] at z; exact absurd z (by simp)
      rw [if_pos nm] at e0
      unfold vX6_goToSea
      rintro _ σ2 rfl σ4 rfl σ6 rfl
      refine k1 _ _ e0 (yI_si (by decide) (yI_si (by decide) (yI_si (by decide) J))) (hf_si (hf_si (hf_si hf_refl (by decide) (by decide)) (by decide) (by decide)) (by decide) (by decide)) h3 ?_
      exact q4_134 (q4_133 (q4_132 h4 hN hx) hN hx) hN hx
  have n104 : ¬ (¬ a.1 22 r = 0 ∧ ((a.1 27 r >>> (a.1 35 x &&& 31)) &&& 1) = 1) → vX11_leaves_104 Q (T 8 x) (T 10 r) σ := by
    intro n1
    unfold vX11_leaves_104
    intro _
    rw [b165, b170]
    refine ⟨fun e => n122 n1 (fun q => q.1 e), fun e => ⟨fun d => n122 n1 (fun q => q.2 d), fun d => k0 ?_⟩⟩
    unfold a_exit
    rw [if_neg n1, if_pos ⟨e, d⟩]
  unfold vX11_leaves
  intro _
  refine ⟨fun e => n104 ?_, fun a16 e16 => ?_⟩
  · rcases b172 with z | ⟨_, z, _⟩
    · exact fun q => q.1 z.2
    · rw [e] at z; exact absurd z (by simp)
  · obtain ⟨z0, z1, z2, z3, z4, z5, z6⟩ : ¬ a.1 22 r = 0 ∧ xr σ 172 (T 10 r) = some (T 2 r) ∧ xt σ (T 2 r) = 2 ∧ xr σ 32 (T 2 r) = some (T 1 (120 + r)) ∧ xr σ 33 (T 2 r) = some (T 22 r) ∧ xi σ 34 (T 2 r) = a.1 27 r ∧ xi σ 35 (T 2 r) = a.1 28 r := by
      rcases b172 with z | z
      · rw [z.1] at e16; exact absurd e16 (by simp)
      · exact z
    have hk : vk_ nr a (120 + r) := .inr ⟨r, hr, z0, rfl⟩
    obtain ⟨d1, d2, d3⟩ := h3 _ hk
    obtain ⟨t1, t2, t3⟩ := h0.1 _ hk
    have room := (J.2.2.2.1 _).1 z2
    rw [z6] at room
    intro a17 e17 _ _
    obtain rfl := Option.some.inj (z1.symm.trans e17)
    unfold vX0_catches
    intro _
    rw [z5, l129]
    refine ⟨fun c => ⟨fun _ => n104 (fun q => c q.2), fun q => absurd rfl q⟩, fun c => ⟨fun q => absurd q (by decide), fun _ => ?_⟩⟩
    intro _ a25 e25 _
    obtain rfl := Option.some.inj (z1.symm.trans e25)
    intro a28 e28 _
    obtain rfl := Option.some.inj (z3.symm.trans e28)
    unfold vJx4a65c_size_8abf5
    intro _ _ a34 e34 _
    obtain rfl := Option.some.inj (z1.symm.trans e34)
    rw [z6, ki_lt, d2]
    have e0 : a_exit a r x = if ((a.2 (120 + r)).length : Int) < (a.1 28 r).toInt then some (a_heap a x r) else none := by
      unfold a_exit
      rw [if_pos ⟨z0, c⟩]
    refine ⟨fun d => ?_, fun d => k0 (by rw [e0, if_neg d])⟩
    rw [if_pos d] at e0
    intro _ a39 e39
    obtain rfl := Option.some.inj ((yg8 J).1.symm.trans e39)
    have wg := vq_weigh (Q := fun σ45 => xt σ45 (g 0) = 13 → ∀ a48, xr σ45 216 (g 0) = some a48 → xt σ45 (T 8 x) = 8 → xt σ45 a48 = 21 → vp_in (xi σ45 129 (T 8 x)) (xn σ45 a48) → ∀ a53, xr σ45 215 (g 0) = some a53 → xt σ45 a53 = 5 → vp_in (xi σ45 129 (T 8 x)) (xn σ45 a48) → ∀ σ57, σ57 = xsal σ45 a48 (xi σ45 129 (T 8 x)).toNatClampNeg ((xal σ45 a48 (xi σ45 129 (T 8 x)).toNatClampNeg) + (xl σ45 84 a53)) → vX6_lieInHeap (T 8 x) σ57 (fun σ62 => xt σ62 (T 10 r) = 10 → ∀ a64, xr σ62 172 (T 10 r) = some a64 → xt σ62 a64 = 2 → ∀ a67, xr σ62 32 a64 = some a67 → xt σ62 a67 = 1 → vJx4a65c_add_9ea2d a67 (T 8 x) σ62 (fun r70 σ69 => Q 1 σ69))) (ri := xi σ 160 (T 10 r)) (hi := xi σ 217 (g 0)) J hj h7 l2 (fun τ J1 R1 _ => ?_)
    · exact jaX11_lawInForce (Q := fun q σ' => σ' = σ ∧ vX3_weigh (g 8) q (T 8 x) (xi σ 160 (T 10 r)) (xi σ 217 (g 0)) σ' _) (fun q σ' h => by
        obtain ⟨h1, h2⟩ := h
        subst h1
        intro _ _ _
        exact h2) _ _ (jcX11_lawInForce (Q := fun q σ' => σ' = σ) (fun q σ' a b => ⟨a, b⟩) _ _ (rx_lawInForce J (fun q _ => rfl)) wg)
    · intro _ a48 e48 _ _ _ a53 e53 _ _ σ57 e57
      subst e57
      unfold vX6_lieInHeap
      rintro _ σ2 rfl σ4 rfl
      have F1 : hf_ wm_W g κ st na σ τ := hf_jr hf_refl R1 (by decide) (by decide)
      have q4a := q4_hf (a := a) h4 (hf_jr (W := [82, 83]) (κ := κ) hf_refl R1 (by decide) (by decide)) (yg2 J).2.1 (by decide)
      have q3a : q3_ T nr a τ := by
        intro k hk'
        obtain ⟨u1, u2, u3⟩ := h3 k hk'
        refine ⟨fg_tag F1.1 u1 (by decide), ?_, fun i y hy => ?_⟩
        · rw [R1.1 18 _ (by rintro ⟨_, q | q⟩ <;> exact absurd q (by decide))]
          exact u2
        · refine Eq.trans ?_ (u3 i y hy)
          have e1 : xr τ 17 (T 1 k) = xr σ 17 (T 1 k) := by show τ.2.2.1 17 _ = σ.2.2.1 17 _; rw [R1.2.2.1]
          unfold xe
          rw [e1]
          split
          · show τ.2.2.2.2.2.2.2.1 _ _ = σ.2.2.2.2.2.2.2.1 _ _
            rw [R1.2.2.2.2.2.2]
          · rfl
      intro _ a64 e64 _ a67 e67 _
      have e64 : xr τ 172 (T 10 r) = some a64 := e64
      rw [F1.1.2.1 172 _ (by decide) tR] at e64
      obtain rfl := Option.some.inj (z1.symm.trans e64)
      have e67 : xr τ 32 (T 2 r) = some a67 := e67
      rw [F1.1.2.1 32 _ (by decide) (by rw [z2]; decide)] at e67
      obtain rfl := Option.some.inj (z3.symm.trans e67)
      have J4 := yI_si (f := 134) (a := T 8 x) (v := -1) (by decide) (yI_si (f := 132) (a := T 8 x) (v := 2) (by decide) (yI_sal (i := (xi τ 129 (T 8 x)).toNatClampNeg) (a := a48) (v := xal τ a48 (xi τ 129 (T 8 x)).toNatClampNeg + xl τ 84 a53) J1))
      have q4b := q4_134 (v := -1) (q4_132 (v := 2) (a := a) (σ := xsal τ a48 (xi τ 129 (T 8 x)).toNatClampNeg (xal τ a48 (xi τ 129 (T 8 x)).toNatClampNeg + xl τ 84 a53)) q4a hN hx) hN hx
      have q3b : q3_ T nr (fs_ (fs_ a 38 x 2) 40 x (-1)) (xsi (xsi (xsal τ a48 (xi τ 129 (T 8 x)).toNatClampNeg (xal τ a48 (xi τ 129 (T 8 x)).toNatClampNeg + xl τ 84 a53)) 132 (T 8 x) 2) 134 (T 8 x) (-1)) := q3a
      have F4 : hf_ wm_W g κ st na σ (xsi (xsi (xsal τ a48 (xi τ 129 (T 8 x)).toNatClampNeg (xal τ a48 (xi τ 129 (T 8 x)).toNatClampNeg + xl τ 84 a53)) 132 (T 8 x) 2) 134 (T 8 x) (-1)) := hf_si (hf_si (hf_sal F1) (by decide) (by decide)) (by decide) (by decide)
      generalize xsi (xsi (xsal τ a48 (xi τ 129 (T 8 x)).toNatClampNeg (xal τ a48 (xi τ 129 (T 8 x)).toNatClampNeg + xl τ 84 a53)) 132 (T 8 x) 2) 134 (T 8 x) (-1) = τ4 at *
      obtain ⟨u1, u2, u3⟩ := q3b (120 + r) hk
      have u2 : (xi τ4 18 (T 1 (120 + r))).toInt = ((a.2 (120 + r)).length : Int) := u2
      refine vy_addlog J4 hB hn u1 t1 t2 (fg_tag F4.1 l2 (by decide)) (by omega) (fun τ5 J5 A5 X5 => ?_)
      refine k1 _ τ5 e0 J5 (hf_add F4 A5 X5 t1 t2) ?_ ?_
      · exact q3_add (a := fs_ (fs_ a 38 x 2) 40 x (-1)) (N := N) q3b hk (fun k hk' => (h0.1 k hk').2.2) (by show (a.2 (120 + r)).length ≤ 400; omega) A5
      · exact q4_hf (W := []) (κ := κ) (st := st) (na := na) q4b (hf_add hf_refl A5 X5 t1 t2) (fg_tag F4.1 (yg2 J).2.1 (by decide)) (fun f hf => absurd hf (List.not_mem_nil))
end
