/-! the class: jams -/
/-- nothing but int fields of W changed -/
def hn_ (W : List Nat) (σ τ : kx_S) : Prop := (∀ f a, f ∉ W → xi τ f a = xi σ f a) ∧ τ.1 = σ.1 ∧ τ.2.2 = σ.2.2
theorem hn_refl {W : List Nat} {σ : kx_S} : hn_ W σ σ := ⟨fun _ _ _ => rfl, rfl, rfl⟩
theorem hn_trans {W : List Nat} {a b c : kx_S} (h : hn_ W a b) (k : hn_ W b c) : hn_ W a c := ⟨fun f x hf => (k.1 f x hf).trans (h.1 f x hf), k.2.1.trans h.2.1, k.2.2.trans h.2.2⟩
theorem hn_sub {V W : List Nat} {a b : kx_S} (h : hn_ V a b) (s : ∀ f ∈ V, f ∈ W) : hn_ W a b := ⟨fun f x hf => h.1 f x (fun q => hf (s f q)), h.2⟩
theorem hn_si {W : List Nat} {σ τ : kx_S} {f x : Nat} {v : Int32} (h : hn_ W σ τ) (hf : f ∈ W) : hn_ W σ (xsi τ f x v) := by
  refine hn_trans h ⟨fun g a hg => ?_, rfl, rfl⟩
  show (if g = f then va_up (τ.2.1 f) x v else τ.2.1 g) a = τ.2.1 g a
  rw [if_neg (fun e => hg (by rw [e]; exact hf))]
theorem hn_xe {W : List Nat} {σ τ : kx_S} (h : hn_ W σ τ) (l i : Nat) : xe τ l i = xe σ l i := by
  have e1 : xr τ 17 l = xr σ 17 l := by show τ.2.2.1 17 l = σ.2.2.1 17 l; rw [h.2.2]
  unfold xe
  rw [e1]
  split
  · show τ.2.2.2.2.2.2.2.1 _ _ = σ.2.2.2.2.2.2.2.1 _ _
    rw [h.2.2]
  · rfl
theorem hn_hf {W : List Nat} {g κ : Nat → Nat} {st na : Nat} {σ τ : kx_S} (h : hn_ W σ τ) (h18 : 18 ∉ W) : hf_ W g κ st na σ τ := by
  refine ⟨⟨fun a _ => ?_, fun f a _ _ => ?_, fun a _ => ?_, ?_⟩, fun f a h1 _ _ _ => h.1 f a h1, fun l _ _ => ⟨h.1 18 l h18, fun i _ => hn_xe h l i⟩, fun a _ _ _ => ?_, fun a => .inl ?_⟩
  · show τ.1 a = σ.1 a; rw [h.2.1]
  · show τ.2.2.1 f a = σ.2.2.1 f a; rw [h.2.2]
  · show τ.2.2.2.2.1 a = σ.2.2.2.2.1 a; rw [h.2.2]
  · show τ.2.2.2.2.2.2.2.2.2 = σ.2.2.2.2.2.2.2.2.2; rw [h.2.2]
  · show τ.2.2.2.2.2.1 a = σ.2.2.2.2.2.1 a; rw [h.2.2]
  · show τ.1 a = σ.1 a; rw [h.2.1]
theorem hn_r {W : List Nat} {σ τ : kx_S} (h : hn_ W σ τ) (f a : Nat) : xr τ f a = xr σ f a := by show τ.2.2.1 f a = σ.2.2.1 f a; rw [h.2.2]
theorem hn_t {W : List Nat} {σ τ : kx_S} (h : hn_ W σ τ) (a : Nat) : xt τ a = xt σ a := by show τ.1 a = σ.1 a; rw [h.2.1]
section
variable {T : Nat → Nat → Nat} {N : Nat → Nat} {g κ : Nat → Nat} {st na nr nl m : Nat} {day : Nat → Int32} {RL : Nat → List (Bool × List Int32)} {s : sz_T} {B n : Nat} {a : ra_T}
theorem q3_hn {W : List Nat} {σ τ : kx_S} (h : q3_ T nr a σ) (F : hn_ W σ τ) (h18 : 18 ∉ W) : q3_ T nr a τ := by
  intro k hk
  obtain ⟨a1, a2, a3⟩ := h k hk
  exact ⟨by rw [hn_t F]; exact a1, by rw [F.1 18 _ h18]; exact a2, fun i x hx => by rw [hn_xe F]; exact a3 i x hx⟩
theorem q2_50 {σ : kx_S} {r c : Nat} {v : Int32} (h : q2_ T nr a σ) (hN : ∀ r c, r < nr → c < ln_ a r → N (T 3 (12 * r + c)) = 12 * r + c) (hr : r < nr) (hc : c < ln_ a r) : q2_ T nr (fs_ a 33 (12 * r + c) v) (xsi σ 50 (T 3 (12 * r + c)) v) := by
  intro r' hr' c' hc'
  have hc' : c' < ln_ a r' := hc'
  obtain ⟨b1, b2, b3, b4, b5⟩ := h r' hr' c' hc'
  refine ⟨b1, b2, b3, ?_, b5⟩
  show va_up (xi σ 50) (T 3 (12 * r + c)) v (T 3 (12 * r' + c')) = upd (a.1 33) (12 * r + c) v (12 * r' + c')
  by_cases e : 12 * r' + c' = 12 * r + c
  · rw [e, va_up_self, w_updS]
  · rw [va_up_ne _ _ (fun q => e (by rw [← hN r' c' hr' hc', q, hN r c hr hc])), w_updN e]
    exact b4
theorem q2_51 {σ : kx_S} {r c : Nat} {v : Int32} (h : q2_ T nr a σ) (hN : ∀ r c, r < nr → c < ln_ a r → N (T 3 (12 * r + c)) = 12 * r + c) (hr : r < nr) (hc : c < ln_ a r) : q2_ T nr (fs_ a 34 (12 * r + c) v) (xsi σ 51 (T 3 (12 * r + c)) v) := by
  intro r' hr' c' hc'
  have hc' : c' < ln_ a r' := hc'
  obtain ⟨b1, b2, b3, b4, b5⟩ := h r' hr' c' hc'
  refine ⟨b1, b2, b3, b4, ?_⟩
  show va_up (xi σ 51) (T 3 (12 * r + c)) v (T 3 (12 * r' + c')) = upd (a.1 34) (12 * r + c) v (12 * r' + c')
  by_cases e : 12 * r' + c' = 12 * r + c
  · rw [e, va_up_self, w_updS]
  · rw [va_up_ne _ _ (fun q => e (by rw [← hN r' c' hr' hc', q, hN r c hr hc])), w_updN e]
    exact b5
/-- the rest follows where only cells' flags were written -/
theorem qa_hn {W : List Nat} {σ τ : kx_S} (H : qa_ T N g κ st na nr nl m day RL s B n a σ) (J : yJ_ s g κ B n τ) (F : hn_ W σ τ) (hW : ∀ f ∈ W, f ∉ [18, 160, 162, 165, 169, 170, 171, 34, 35, 128, 129, 130, 131, 132, 133, 134, 135, 136, 96]) : q1_ T (g 1) nr a τ ∧ q3_ T nr a τ ∧ q4_ T (g 2) nl a τ ∧ q7_ T (g 3) m day RL st na τ ∧ qj_ (g 8) st na τ := by
  obtain ⟨J0, a0, a1, a2, a3, a4, a7, aj⟩ := H
  have h18 : 18 ∉ W := fun q => hW 18 q (by decide)
  have Fh : hf_ W g κ st na σ τ := hn_hf F h18
  have kc : ∀ r, r < nr → κ (T 21 r) = 3 := fun r hr => (a0.2.2.1 r hr).1
  refine ⟨q1_hf a1 Fh (yg1 J0).2.1 (yg1 J0).2.2 kc (fun f hf q => hW f hf ?_), q3_hn a3 F h18, q4_hf a4 Fh (yg2 J0).2.1 (fun f hf q => hW f hf ?_), q7_hf a7 Fh (yg3 J0).2.1 (yg3 J0).2.2 (fun q => hW 96 q (by decide)), qj_hf aj Fh⟩
  · simp at q ⊢; omega
  · simp at q ⊢; omega
theorem vq_jamFull {r : Nat} {Q : kx_S → Prop} {σ : kx_S} (H : qa_ T N g κ st na nr nl m day RL s B n a σ) (hr : r < nr) (hj : (a.1 18 r).toInt < (a.1 16 r).toInt) : ∀ (j c : Nat) (l1 : Int32) (τ : kx_S), l1.toInt = (c : Int) → c ≤ ln_ a r → yJ_ s g κ B n τ → hn_ [50] σ τ → q2_ T nr (ff_ a 33 (kn_f (cp2_ nr a (jC_ a) r c) 1 (a.1 33))) τ → (∀ v, yJ_ s g κ B n v → hn_ [50] σ v → q2_ T nr (ff_ a 33 (kn_f (cp2_ nr a (jC_ a) r (ln_ a r)) 1 (a.1 33))) v → Q v) → vX8_jamFullCells_2 Q j (T 10 r) l1 τ := by
  intro j
  induction j with
  | zero => intro _ _ _ _ _ _ _ _ _; exact trivial
  | succ j ih =>
    intro c l1 τ h1 hc J F h2 kk
    obtain ⟨p1, p3, p4, p7, pj⟩ := qa_hn H J F (by decide)
    obtain ⟨_, _, _, _, _, b1, b2, b3, b4, b5⟩ := p1.2 r hr
    have nx : ∀ v : Int32, v = l1 + 1 → v.toInt = ((c + 1 : Nat) : Int) := fun v e => by rw [e]; exact ki_addN h1 ki_z1 (by omega)
    unfold vX8_jamFullCells_2
    intro _ a3 e3 _
    obtain rfl := Option.some.inj (b1.symm.trans e3)
    unfold vJx4a65c_size_8abf5
    intro _
    rw [ki_le, b3, h1]
    refine ⟨fun q => ?_, fun q _ => ?_⟩
    · have : c = ln_ a r := by omega
      subst this
      exact kk τ J F h2
    · have hlt : c < ln_ a r := by omega
      intro a10 e10 _
      obtain rfl := Option.some.inj (b1.symm.trans e10)
      refine vy_get (fun _ _ => ?_)
      obtain ⟨⟨c1, c2⟩, c3, c4, c5, c6⟩ := h2 r hr c hlt
      obtain ⟨d1, d2, d3⟩ := p3 _ (vk_cell hr hlt)
      have c3 : xi τ 48 (T 3 (12 * r + c)) = a.1 15 r := c3
      rw [ki_toN h1, c1]
      intro a15 e15 _
      obtain rfl := Option.some.inj e15
      intro a18 e18 _
      obtain rfl := Option.some.inj (c4.symm.trans e18)
      intro _ _
      rw [c3, ki_lt, d2]
      refine ⟨fun d => ?_, fun d => ?_⟩
      · unfold vX8_jamFullCells_50
        intro v1 e1
        refine ih (c + 1) v1 τ (nx v1 e1) hlt J F ?_ kk
        have nC : ¬ jC_ a r c := fun z => by have := z.1; omega
        rw [kn_c (fun k => cp2_no hr hlt nC k)]
        exact h2
      · rintro σ25 rfl
        unfold vX8_jamFullCells_50
        intro v1 e1
        have yC : jC_ a r c := ⟨by omega, hj⟩
        refine ih (c + 1) v1 _ (nx v1 e1) hlt (yI_si (by decide) J) (hn_si F (by decide)) ?_ kk
        have z := q2_50 (N := N) (v := 1) h2 (fun r c h1 h2 => H.2.1.2.1 r c h1 h2) hr hlt
        rw [ff_fs, kn_u] at z
        rw [kn_c (fun k => cp2_y hr hlt yC k)]
        exact z
theorem vq_jam {Q : kx_S → Prop} {σ : kx_S} (h10 : nr ≤ 10) (H : qa_ T N g κ st na nr nl m day RL s B n a σ) (kk : ∀ τ, qa_ T N g κ st na nr nl m day RL s B n (a_jam nr a) τ → hn_ [50] σ τ → Q τ) : vX11_jamCells (g 0) σ Q := by
  have loop : ∀ (j r : Nat) (i : Int32) (τ : kx_S), i.toInt = (r : Int) → r ≤ nr → yJ_ s g κ B n τ → hn_ [50] σ τ → q2_ T nr (ff_ a 33 (kn_f (cp2_ nr a (jC_ a) r 0) 1 (a.1 33))) τ → vX11_jamCells_2 Q j (g 0) i τ := by
    intro j
    induction j with
    | zero => intro _ _ _ _ _ _ _ _; exact trivial
    | succ j ih =>
      intro r i τ hi hr J F h2
      obtain ⟨p1, p3, p4, p7, pj⟩ := qa_hn H J F (by decide)
      unfold vX11_jamCells_2
      intro _ a3 e3 _
      obtain rfl := Option.some.inj ((yg1 J).1.symm.trans e3)
      unfold vJx4a65c_size_8abf5
      intro _
      rw [ki_le, p1.1, hi]
      refine ⟨fun q => ?_, fun q _ => ?_⟩
      · have : r = nr := by omega
        subst this
        exact kk τ ⟨J, H.2.1, p1, h2, p3, p4, p7, pj⟩ F
      · have hlt : r < nr := by omega
        intro a10 e10 _
        obtain rfl := Option.some.inj ((yg1 J).1.symm.trans e10)
        refine vy_get (fun _ _ => ?_)
        obtain ⟨⟨b0, b00⟩, _, ⟨b162, _, b169, _⟩, _⟩ := p1.2 r hlt
        rw [ki_toN hi, b0]
        intro a15 e15 _
        obtain rfl := Option.some.inj e15
        rw [b162, b169, ki_le]
        have nx : ∀ v : Int32, v = i + 1 → v.toInt = ((r + 1 : Nat) : Int) := fun v e => by rw [e]; exact ki_addN hi ki_z1 (by omega)
        refine ⟨fun d => ?_, fun d => ?_⟩
        · unfold vX11_jamCells_44
          intro v1 e1
          refine ih (r + 1) v1 τ (nx v1 e1) hlt J F ?_
          rw [← kn_c (fun k => cp2_skip (fun c z => by have := z.2; omega) k)]
          exact h2
        · unfold vX8_jamFullCells
          intro j2
          refine vq_jamFull H hlt (by omega) j2 0 0 τ (by decide) (Nat.zero_le _) J F h2 (fun v Jv Fv hv => ?_)
          unfold vX11_jamCells_44
          intro v1 e1
          refine ih (r + 1) v1 v (nx v1 e1) hlt Jv Fv ?_
          rw [← kn_c (fun k => cp2_next (Nat.le_refl _) k)]
          exact hv
  unfold vX11_jamCells
  intro j
  refine loop j 0 0 σ (by decide) (Nat.zero_le _) H.1 hn_refl ?_
  rw [ff_id (kn_0 cp2_0)]
  exact H.2.2.2.1
end
