/-! what always holds of the class -/
/-- things point to things of their kind; E: what is still being made -/
def yP_ (E : Nat → Prop) (g κ : Nat → Nat) (σ : kx_S) : Prop := ∀ a, ¬ E a →
  (xt σ a = 2 → (∃ h, xr σ 32 a = some h ∧ xt σ h = 1 ∧ κ h = 8 ∧ h ≠ g 2) ∧ ∃ o, xr σ 33 a = some o ∧ xt σ o = 1 ∧ κ o = 9 ∧ o ≠ g 5) ∧
  (xt σ a = 3 → ∃ h, xr σ 49 a = some h ∧ xt σ h = 1 ∧ κ h = 8 ∧ h ≠ g 2) ∧
  (xt σ a = 4 → ∃ h, xr σ 64 a = some h ∧ xt σ h = 10) ∧
  (xt σ a = 5 → (∃ h, xr σ 80 a = some h ∧ xt σ h = 20 ∧ xn σ h = 33) ∧ ∃ h, xr σ 81 a = some h ∧ xt σ h = 20 ∧ xn σ h = 7) ∧
  (xt σ a = 6 → ∃ h, xr σ 97 a = some h ∧ xt σ h = 20 ∧ xn σ h ≤ 500) ∧
  (xt σ a = 7 → (∃ h, xr σ 112 a = some h ∧ xt σ h = 12) ∧ ∃ h, xr σ 113 a = some h ∧ xt σ h = 20 ∧ xn σ h = 500) ∧
  (xt σ a = 10 → (xr σ 161 a = none ∨ ∃ h, xr σ 161 a = some h ∧ xt σ h = 10) ∧ (∃ h, xr σ 163 a = some h ∧ xt σ h = 1 ∧ κ h = 3) ∧ (xr σ 172 a = none ∨ ∃ h, xr σ 172 a = some h ∧ xt σ h = 2)) ∧
  (xt σ a = 11 → ∃ h, xr σ 176 a = some h ∧ xt σ h = 20 ∧ xn σ h = 500) ∧
  (xt σ a = 12 → ∃ h, xr σ 192 a = some h ∧ xt σ h = 11)
/-- the one LogRiver -/
def yG_ (g κ : Nat → Nat) (σ : kx_S) : Prop := xt σ (g 0) = 13 ∧ (xr σ 208 (g 0) = some (g 1) ∧ xt σ (g 1) = 1 ∧ κ (g 1) = 10) ∧ (xr σ 209 (g 0) = some (g 2) ∧ xt σ (g 2) = 1 ∧ κ (g 2) = 8) ∧ (xr σ 210 (g 0) = some (g 3) ∧ xt σ (g 3) = 1 ∧ κ (g 3) = 6) ∧ (xr σ 211 (g 0) = some (g 4) ∧ xt σ (g 4) = 1 ∧ κ (g 4) = 4) ∧ (xr σ 212 (g 0) = some (g 5) ∧ xt σ (g 5) = 1 ∧ κ (g 5) = 9) ∧ (xr σ 213 (g 0) = some (g 6) ∧ xt σ (g 6) = 11) ∧ (xr σ 214 (g 0) = some (g 7) ∧ xt σ (g 7) = 7) ∧ (xr σ 215 (g 0) = some (g 8) ∧ xt σ (g 8) = 5) ∧ (xr σ 216 (g 0) = some (g 9) ∧ xt σ (g 9) = 21 ∧ xn σ (g 9) = 16) ∧ (xt σ (g 10) = 21 ∧ 1 ≤ xn σ (g 10))
/-- numbers -/
def yN_ (g κ : Nat → Nat) (σ : kx_S) : Prop := ∀ a,
  (xt σ a = 2 → (xi σ 35 a).toInt ≤ 100) ∧
  (xt σ a = 3 → (xi σ 48 a).toInt ≤ 20) ∧
  (xt σ a = 5 → (0 ≤ (xi σ 82 a).toInt ∧ (xi σ 82 a).toInt ≤ 33) ∧ (xi σ 83 a = 0 ∨ xi σ 83 a = 1)) ∧
  (xt σ a = 7 → 0 ≤ (xi σ 114 a).toInt ∧ (xi σ 114 a).toInt ≤ 500) ∧
  (xt σ a = 8 → 0 ≤ (xi σ 129 a).toInt ∧ (xi σ 129 a).toInt ≤ 15) ∧
  (xt σ a = 10 → xi σ 171 a = 0 ∨ xi σ 171 a = 1) ∧
  (xt σ a = 11 → 0 ≤ (xi σ 177 a).toInt ∧ (xi σ 177 a).toInt ≤ 500) ∧
  (xt σ a = 1 → κ a = 9 → (xi σ 18 a).toInt ≤ (xi σ 18 (g 5)).toInt)
/-- what calls show that need no walk of logs -/
def yS_ (s : sz_T) (g : Nat → Nat) (σ : kx_S) : Prop := (xi σ 18 (g 1), xi σ 18 (g 2), xi σ 18 (g 4), xi σ 18 (g 5), xi σ 177 (g 6), xi σ 217 (g 0)) = s.1 ∧
  (∀ r : Nat, (r : Int) < (xi σ 18 (g 1)).toInt → ∃ R, xe σ (g 1) r = some R ∧ (xi σ 160 R).toInt = (r : Int) ∧ xi σ 165 R = s.2.1 r ∧ xi σ 168 R = s.2.2.1 r ∧ xi σ 164 R = s.2.2.2.1 r ∧ xi σ 171 R = s.2.2.2.2.1 r ∧ (xr σ 172 R = none ↔ s.2.2.2.2.2 r = 0)) ∧
  (∀ r : Nat, (xi σ 18 (g 1)).toInt ≤ (r : Int) → s.2.1 r = 0 ∧ s.2.2.1 r = 0 ∧ s.2.2.2.1 r = 0 ∧ s.2.2.2.2.1 r = 0 ∧ s.2.2.2.2.2 r = 0) ∧
  (xi σ 18 (g 1)).toInt ≤ 10 ∧ (xi σ 18 (g 3)).toInt ≤ 6 ∧ (xi σ 18 (g 4)).toInt ≤ 6 ∧ (xi σ 18 (g 5)).toInt ≤ 60
def yI_ (s : sz_T) (E : Nat → Prop) (g κ : Nat → Nat) (B n : Nat) (σ : kx_S) : Prop := yL_ g κ B n σ ∧ yP_ E g κ σ ∧ yG_ g κ σ ∧ yN_ g κ σ ∧ yS_ s g σ
theorem yP_fg {E : Nat → Prop} {g κ κ' : Nat → Nat} {σ τ : kx_S} (F : fg_ σ τ) (T : ∀ a, ¬ E a → xt τ a = xt σ a ∨ xt τ a = 0 ∨ xt τ a = 1 ∨ xt τ a = 8 ∨ xt τ a = 9 ∨ xt τ a = 13 ∨ xt τ a = 20 ∨ xt τ a = 21 ∨ xt τ a = 22) (K : ∀ a, xt σ a = 1 → κ' a = κ a) (P : yP_ E g κ σ) : yP_ E g κ' τ := by
  intro a ha
  obtain ⟨p2, p3, p4, p5, p6, p7, p10, p11, p12⟩ := P a ha
  have tg : ∀ {t : Nat}, xt τ a = t → (t ≠ 0 ∧ t ≠ 1 ∧ t ≠ 8 ∧ t ≠ 9 ∧ t ≠ 13 ∧ t ≠ 20 ∧ t ≠ 21 ∧ t ≠ 22) → xt σ a = t := fun {t} e c => by
    rcases T a ha with h | h
    · rw [← h]; exact e
    · omega
  have kp : ∀ {b t : Nat}, xt σ b = t → t ≠ 0 → xt τ b = t := fun e c => fg_tag F e c
  have np : ∀ {b t m : Nat}, xt σ b = t → t ≠ 0 → xn σ b = m → xn τ b = m := fun {b t m} e c h => (F.2.2.1 b (by rw [e]; exact c)).trans h
  refine ⟨fun e => ?_, fun e => ?_, fun e => ?_, fun e => ?_, fun e => ?_, fun e => ?_, fun e => ?_, fun e => ?_, fun e => ?_⟩
  · have e' := tg e (by decide)
    obtain ⟨⟨h, h1, h2, h3, h4⟩, o, o1, o2, o3, o4⟩ := p2 e'
    exact ⟨⟨h, fg_ref F e' (by decide) (by decide) h1, kp h2 (by decide), (K h h2).trans h3, h4⟩, o, fg_ref F e' (by decide) (by decide) o1, kp o2 (by decide), (K o o2).trans o3, o4⟩
  · have e' := tg e (by decide)
    obtain ⟨h, h1, h2, h3, h4⟩ := p3 e'
    exact ⟨h, fg_ref F e' (by decide) (by decide) h1, kp h2 (by decide), (K h h2).trans h3, h4⟩
  · have e' := tg e (by decide)
    obtain ⟨h, h1, h2⟩ := p4 e'
    exact ⟨h, fg_ref F e' (by decide) (by decide) h1, kp h2 (by decide)⟩
  · have e' := tg e (by decide)
    obtain ⟨⟨h, h1, h2, h3⟩, o, o1, o2, o3⟩ := p5 e'
    exact ⟨⟨h, fg_ref F e' (by decide) (by decide) h1, kp h2 (by decide), np h2 (by decide) h3⟩, o, fg_ref F e' (by decide) (by decide) o1, kp o2 (by decide), np o2 (by decide) o3⟩
  · have e' := tg e (by decide)
    obtain ⟨h, h1, h2, h3⟩ := p6 e'
    exact ⟨h, fg_ref F e' (by decide) (by decide) h1, kp h2 (by decide), by rw [np h2 (by decide) rfl]; exact h3⟩
  · have e' := tg e (by decide)
    obtain ⟨⟨h, h1, h2⟩, o, o1, o2, o3⟩ := p7 e'
    exact ⟨⟨h, fg_ref F e' (by decide) (by decide) h1, kp h2 (by decide)⟩, o, fg_ref F e' (by decide) (by decide) o1, kp o2 (by decide), np o2 (by decide) o3⟩
  · have e' := tg e (by decide)
    obtain ⟨q1, ⟨h, h1, h2, h3⟩, q3⟩ := p10 e'
    refine ⟨?_, ⟨h, fg_ref F e' (by decide) (by decide) h1, kp h2 (by decide), (K h h2).trans h3⟩, ?_⟩
    · rcases q1 with q | ⟨b, b1, b2⟩
      · exact .inl (fg_ref F e' (by decide) (by decide) q)
      · exact .inr ⟨b, fg_ref F e' (by decide) (by decide) b1, kp b2 (by decide)⟩
    · rcases q3 with q | ⟨b, b1, b2⟩
      · exact .inl (fg_ref F e' (by decide) (by decide) q)
      · exact .inr ⟨b, fg_ref F e' (by decide) (by decide) b1, kp b2 (by decide)⟩
  · have e' := tg e (by decide)
    obtain ⟨h, h1, h2, h3⟩ := p11 e'
    exact ⟨h, fg_ref F e' (by decide) (by decide) h1, kp h2 (by decide), np h2 (by decide) h3⟩
  · have e' := tg e (by decide)
    obtain ⟨h, h1, h2⟩ := p12 e'
    exact ⟨h, fg_ref F e' (by decide) (by decide) h1, kp h2 (by decide)⟩
theorem yG_fg {g κ κ' : Nat → Nat} {σ τ : kx_S} (F : fg_ σ τ) (K : ∀ a, xt σ a = 1 → κ' a = κ a) (G : yG_ g κ σ) : yG_ g κ' τ := by
  obtain ⟨g0, ⟨a1, b1, c1⟩, ⟨a2, b2, c2⟩, ⟨a3, b3, c3⟩, ⟨a4, b4, c4⟩, ⟨a5, b5, c5⟩, ⟨a6, b6⟩, ⟨a7, b7⟩, ⟨a8, b8⟩, ⟨a9, b9, c9⟩, ⟨b10, c10⟩⟩ := G
  have kp : ∀ {b t : Nat}, xt σ b = t → t ≠ 0 → xt τ b = t := fun e c => fg_tag F e c
  have rp : ∀ {f : Nat} {v : Option Nat}, f ≠ 17 → xr σ f (g 0) = v → xr τ f (g 0) = v := fun hf h => fg_ref F g0 (by decide) hf h
  exact ⟨kp g0 (by decide), ⟨rp (by decide) a1, kp b1 (by decide), (K _ b1).trans c1⟩, ⟨rp (by decide) a2, kp b2 (by decide), (K _ b2).trans c2⟩, ⟨rp (by decide) a3, kp b3 (by decide), (K _ b3).trans c3⟩, ⟨rp (by decide) a4, kp b4 (by decide), (K _ b4).trans c4⟩, ⟨rp (by decide) a5, kp b5 (by decide), (K _ b5).trans c5⟩, ⟨rp (by decide) a6, kp b6 (by decide)⟩, ⟨rp (by decide) a7, kp b7 (by decide)⟩, ⟨rp (by decide) a8, kp b8 (by decide)⟩, ⟨rp (by decide) a9, kp b9 (by decide), (F.2.2.1 _ (by rw [b9]; decide)).trans c9⟩, ⟨kp b10 (by decide), by rw [F.2.2.1 _ (by rw [b10]; decide)]; exact c10⟩⟩
/-- the main lists are five -/
theorem yG_ne {g κ : Nat → Nat} {σ : kx_S} (G : yG_ g κ σ) : g 1 ≠ g 2 ∧ g 1 ≠ g 3 ∧ g 1 ≠ g 4 ∧ g 1 ≠ g 5 ∧ g 2 ≠ g 3 ∧ g 2 ≠ g 4 ∧ g 2 ≠ g 5 ∧ g 3 ≠ g 4 ∧ g 3 ≠ g 5 ∧ g 4 ≠ g 5 := by
  obtain ⟨g0, ⟨a1, b1, c1⟩, ⟨a2, b2, c2⟩, ⟨a3, b3, c3⟩, ⟨a4, b4, c4⟩, ⟨a5, b5, c5⟩, _⟩ := G
  refine ⟨?_, ?_, ?_, ?_, ?_, ?_, ?_, ?_, ?_, ?_⟩
  all_goals (intro e; have e2 := congrArg κ e; omega)
/-- a step that changes no list but cells' and heaps' -/
theorem yI_tr {s : sz_T} {E : Nat → Prop} {g κ : Nat → Nat} {B n : Nat} {σ τ : kx_S} (I : yI_ s E g κ B n σ) (L : yL_ g κ B n τ) (F : fg_ σ τ) (T : ∀ a, xt τ a = xt σ a ∨ xt σ a = 0 ∧ xt τ a = 22) (N : ∀ f ∈ [35, 48, 82, 83, 114, 129, 171, 177, 164, 165, 168, 160, 217], xi τ f = xi σ f) (S : ∀ l, xt σ l = 1 → (κ l ≠ 8 ∨ l = g 2) → xi τ 18 l = xi σ 18 l) (X : ∀ i : Nat, (i : Int) < (xi σ 18 (g 1)).toInt → xe τ (g 1) i = xe σ (g 1) i) : yI_ s E g κ B n τ := by
  obtain ⟨iL, iP, iG, iN, iS⟩ := I
  have G' := iG
  obtain ⟨g0, ⟨a1, b1, c1⟩, ⟨a2, b2, c2⟩, ⟨a3, b3, c3⟩, ⟨a4, b4, c4⟩, ⟨a5, b5, c5⟩, ⟨a6, b6⟩, _⟩ := G'
  have s1 := S (g 1) b1 (.inl (by rw [c1]; decide))
  have s2 := S (g 2) b2 (.inr rfl)
  have s3 := S (g 3) b3 (.inl (by rw [c3]; decide))
  have s4 := S (g 4) b4 (.inl (by rw [c4]; decide))
  have s5 := S (g 5) b5 (.inl (by rw [c5]; decide))
  refine ⟨L, yP_fg F (fun a _ => (T a).elim .inl (fun h => .inr (.inr (.inr (.inr (.inr (.inr (.inr (.inr h.2))))))))) (fun _ _ => rfl) iP, yG_fg F (fun _ _ => rfl) iG, fun a => ?_, ?_, fun r hr => ?_, ?_, ?_⟩
  · obtain ⟨q1, q2, q3, q4, q5, q6, q7, q8⟩ := iN a
    have tg : ∀ {t : Nat}, xt τ a = t → t ≠ 22 → xt σ a = t := fun {t} e c => by
      rcases T a with h | h
      · rw [← h]; exact e
      · omega
    refine ⟨fun e => ?_, fun e => ?_, fun e => ?_, fun e => ?_, fun e => ?_, fun e => ?_, fun e => ?_, fun e k => ?_⟩
    · rw [N 35 (by decide)]; exact q1 (tg e (by decide))
    · rw [N 48 (by decide)]; exact q2 (tg e (by decide))
    · rw [N 82 (by decide), N 83 (by decide)]; exact q3 (tg e (by decide))
    · rw [N 114 (by decide)]; exact q4 (tg e (by decide))
    · rw [N 129 (by decide)]; exact q5 (tg e (by decide))
    · rw [N 171 (by decide)]; exact q6 (tg e (by decide))
    · rw [N 177 (by decide)]; exact q7 (tg e (by decide))
    · have e' := tg e (by decide)
      rw [s5, S a e' (.inl (by rw [k]; decide))]
      exact q8 e' k
  · rw [s1, s2, s4, s5, N 177 (by decide), N 217 (by decide)]; exact iS.1
  · rw [s1] at hr
    obtain ⟨R, r1, r2, r3, r4, r5, r6, r7⟩ := iS.2.1 r hr
    have tR : xt σ R ≠ 0 := by
      obtain ⟨y, ey, ty⟩ := ry_el iL b1 hr
      rw [r1] at ey
      have := Option.some.inj ey
      rw [this, ty, c1]
      decide
    exact ⟨R, by rw [X r hr]; exact r1, by rw [N 160 (by decide)]; exact r2, by rw [N 165 (by decide)]; exact r3, by rw [N 168 (by decide)]; exact r4, by rw [N 164 (by decide)]; exact r5, by rw [N 171 (by decide)]; exact r6, by rw [F.2.1 172 R (by decide) tR]; exact r7⟩
  · rw [s1]; exact iS.2.2.1
  · rw [s1, s3, s4, s5]; exact iS.2.2.2
/-! during an hour -/
abbrev yJ_ (s : sz_T) (g κ : Nat → Nat) (B n : Nat) (σ : kx_S) : Prop := yI_ s (fun _ => False) g κ B n σ
def fh_ (g κ : Nat → Nat) (σ τ : kx_S) : Prop := fg_ σ τ ∧ ∀ l, xt σ l = 1 → (κ l ≠ 8 ∨ l = g 2) → xi τ 18 l = xi σ 18 l
theorem fh_refl {g κ : Nat → Nat} {σ : kx_S} : fh_ g κ σ σ := ⟨fg_refl, fun _ _ _ => rfl⟩
theorem fh_trans {g κ : Nat → Nat} {a b c : kx_S} (h : fh_ g κ a b) (k : fh_ g κ b c) : fh_ g κ a c := ⟨fg_trans h.1 k.1, fun l t q => (k.2 l (fg_tag h.1 t (by decide)) q).trans (h.2 l t q)⟩
/-- a number written that nothing above speaks of -/
theorem fh_si {g κ : Nat → Nat} {σ : kx_S} {f a : Nat} {v : Int32} (hf : f ≠ 18) : fh_ g κ σ (xsi σ f a v) := by
  refine ⟨⟨fun _ _ => rfl, fun _ _ _ _ => rfl, fun _ _ => rfl, rfl⟩, fun l _ _ => ?_⟩
  show (if 18 = f then _ else xi σ 18) l = xi σ 18 l
  rw [if_neg (fun e => hf e.symm)]
theorem fh_sl {g κ : Nat → Nat} {σ : kx_S} {f a : Nat} {v : Int64} : fh_ g κ σ (xsl σ f a v) := ⟨⟨fun _ _ => rfl, fun _ _ _ _ => rfl, fun _ _ => rfl, rfl⟩, fun _ _ _ => rfl⟩
theorem fh_sal {g κ : Nat → Nat} {σ : kx_S} {i a : Nat} {v : Int64} : fh_ g κ σ (xsal σ a i v) := ⟨⟨fun _ _ => rfl, fun _ _ _ _ => rfl, fun _ _ => rfl, rfl⟩, fun _ _ _ => rfl⟩
theorem fh_sai {g κ : Nat → Nat} {σ : kx_S} {i a : Nat} {v : Int32} : fh_ g κ σ (xsai σ a i v) := ⟨⟨fun _ _ => rfl, fun _ _ _ _ => rfl, fun _ _ => rfl, rfl⟩, fun _ _ _ => rfl⟩
theorem yI_si {s : sz_T} {E : Nat → Prop} {g κ : Nat → Nat} {B n : Nat} {σ : kx_S} {f a : Nat} {v : Int32} (hf : f ∉ [18, 35, 48, 82, 83, 114, 129, 171, 177, 164, 165, 168, 160, 217]) (I : yI_ s E g κ B n σ) : yI_ s E g κ B n (xsi σ f a v) := by
  have N : ∀ k, k ∈ [18, 35, 48, 82, 83, 114, 129, 171, 177, 164, 165, 168, 160, 217] → xi (xsi σ f a v) k = xi σ k := fun k hk => by
    show (if k = f then _ else xi σ k) = xi σ k
    have e : k ≠ f := fun e => hf (by rw [← e]; exact hk)
    rw [if_neg e]
  have n18 := N 18 (by decide)
  have L : yL_ g κ B n (xsi σ f a v) := by
    have h := I.1
    refine ⟨fun b hb => ?_, h.2.1, h.2.2.1, h.2.2.2⟩
    have := h.1 b hb
    unfold yl_ at this ⊢
    rw [n18]
    exact this
  exact yI_tr I L ⟨fun _ _ => rfl, fun _ _ _ _ => rfl, fun _ _ => rfl, rfl⟩ (fun _ => .inl rfl) (fun k hk => N k (List.mem_cons_of_mem 18 hk)) (fun l _ _ => congrFun n18 l) (fun _ _ => rfl)
theorem yI_sl {s : sz_T} {E : Nat → Prop} {g κ : Nat → Nat} {B n : Nat} {σ : kx_S} {f a : Nat} {v : Int64} (I : yI_ s E g κ B n σ) : yI_ s E g κ B n (xsl σ f a v) := I
theorem yI_sal {s : sz_T} {E : Nat → Prop} {g κ : Nat → Nat} {B n : Nat} {σ : kx_S} {i a : Nat} {v : Int64} (I : yI_ s E g κ B n σ) : yI_ s E g κ B n (xsal σ a i v) := I
theorem yI_sai {s : sz_T} {E : Nat → Prop} {g κ : Nat → Nat} {B n : Nat} {σ : kx_S} {i a : Nat} {v : Int32} (I : yI_ s E g κ B n σ) : yI_ s E g κ B n (xsai σ a i v) := I
/-- a log comes into a cell or a heap -/
theorem ry_addlog {s : sz_T} {g κ : Nat → Nat} {B n : Nat} {σ : kx_S} {l y : Nat} {Q : Int32 → kx_S → Prop} (J : yJ_ s g κ B n σ) (hB : B ≤ 3000) (hn : n ≤ 200) (hl : xt σ l = 1) (k8 : κ l = 8) (h2 : l ≠ g 2) (hy : xt σ y = 8) (hs : (xi σ 18 l).toInt < 100) (kk : ∀ τ, yJ_ s g κ B n τ → fh_ g κ σ τ → (∀ l', xt σ l' = 1 → (xi σ 18 l').toInt ≤ (xi τ 18 l').toInt) → Q 1 τ) : wJx4a65c_add_9ea2d l y σ Q := by
  refine ry_add J.1 hB hn hl (by rw [hy, k8]) (by unfold ylb; rw [if_neg h2]; omega) (fun τ L A => ?_)
  obtain ⟨a1, a2, a3, a4, a5, a6, a7, a8⟩ := A
  have sz := ry_size J.1 hl
  have inc := ki_inc (a := xi σ 18 l) (by omega) (by omega)
  have S : ∀ l', xt σ l' = 1 → (κ l' ≠ 8 ∨ l' = g 2) → xi τ 18 l' = xi σ 18 l' := fun l' _ h => by
    rw [a4, va_up_ne _ _ (fun e => ?_)]
    rw [e] at h
    rcases h with h | h
    · exact h k8
    · exact h2 h
  refine kk τ (yI_tr J L a1 a2 (fun f hf => a3 f ?_ ?_) S (fun i hi => a6 (g 1) J.2.2.1.2.1.2.1 i hi)) ⟨a1, S⟩ (fun l' _ => ?_)
  · intro e; subst e; exact absurd hf (by decide)
  · intro e; subst e; exact absurd hf (by decide)
  · rw [a4]
    by_cases e : l' = l
    · rw [e, va_up_self, inc]; omega
    · rw [va_up_ne _ _ e]; omega
theorem ry_removelog {s : sz_T} {g κ : Nat → Nat} {B n : Nat} {σ : kx_S} {l : Nat} {i : Int32} {Q : Option Nat → kx_S → Prop} (J : yJ_ s g κ B n σ) (hl : xt σ l = 1) (k8 : κ l = 8) (h2 : l ≠ g 2) (h0 : 0 ≤ i.toInt) (h1 : i.toInt < (xi σ 18 l).toInt) (kk : ∀ q τ, yJ_ s g κ B n τ → fh_ g κ σ τ → xi τ 18 l = xi σ 18 l - 1 → (∀ a, xt τ a = xt σ a) → (∀ f a, xr τ f a = xr σ f a) → Q q τ) : wJx4a65c_remove_915e3 l i σ Q := by
  refine ry_remove J.1 hl h0 h1 (fun q τ L A => ?_)
  obtain ⟨a1, a2, a3, a4, a5, a6, a7⟩ := A
  have G := J.2.2.1
  have S : ∀ l', xt σ l' = 1 → (κ l' ≠ 8 ∨ l' = g 2) → xi τ 18 l' = xi σ 18 l' := fun l' _ h => by
    rw [a4, va_up_ne _ _ (fun e => ?_)]
    rw [e] at h
    rcases h with h | h
    · exact h k8
    · exact h2 h
  refine kk q τ (yI_tr J L a1 (fun a => .inl (by rw [a2])) (fun f hf => a3 f ?_ ?_) S (fun j hj => a6 (g 1) G.2.1.2.1 (fun e => ?_) (by omega) j)) ⟨a1, S⟩ (by rw [a4, va_up_self]) (fun a => by rw [a2]) (fun f a => by rw [a5])
  · intro e; subst e; exact absurd hf (by decide)
  · intro e; subst e; exact absurd hf (by decide)
  · have := G.2.1.2.2
    rw [e, k8] at this
    omega
