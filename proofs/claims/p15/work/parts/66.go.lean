theorem gf_trans {σ : sz_T × Int32} {g : Nat} {a b c : km_S} (h1 : gf_ σ g a b) (h2 : gf_ σ g b c) : gf_ σ g a c := ⟨h2.1, fun q hq => (h2.2.1 q hq).trans (h1.2.1 q hq), h2.2.2.trans h1.2.2⟩
theorem rz_go {σ : sz_T × Int32} {g : Int32} {μ : km_S} {Q : km_S → Prop} (H : ih_ σ μ) (hg : vp_in g 400) (hp : km_a μ 38 g.toNatClampNeg = 1) (kk : ∀ μ', gf_ σ g.toNatClampNeg μ μ' → Q μ') : wX12_go g μ Q := by
  have hg4 := ki_in.1 hg
  have hgn : g.toNatClampNeg < 400 := by rw [ki_nat]; omega
  have z6 : (6 : Int32).toInt = 6 := by decide
  refine ⟨hg, fun r er => ?_⟩
  have hr0 := ((H.1.2.2.2.2.1 g.toNatClampNeg hgn).2.2.1 hp).1
  rw [← er] at hr0
  have hr : vp_in r 10 := by rw [ki_in]; omega
  refine ⟨hr, fun v ev => ⟨10, ?_⟩⟩
  have hv : v.toInt ≤ 6 := by
    rw [ev]
    split
    · rename_i q
      rw [ki_lt, z6] at q; omega
    · rw [z6]; omega
  have L : ∀ (n : Nat) (k : Int32) (μ2 : km_S), 0 ≤ k.toInt → k.toInt ≤ 6 → 6 - k.toInt < (n : Int) → gf_ σ g.toNatClampNeg μ μ2 → km_a μ2 38 g.toNatClampNeg = 1 → km_a μ2 39 g.toNatClampNeg = r → wX12_go_25 (wX12_go_98 Q) Q n g r v k μ2 := by
    intro n
    induction n with
    | zero => intro k μ2 h1 h2 h3; omega
    | succ n ih =>
      intro k μ2 h1 h2 h3 G hp2 hr2
      refine ⟨fun _ => kk _ G, fun c => ⟨hg, fun w ew => ?_⟩⟩
      rw [ki_le] at c
      have hc := ((G.1.1.2.2.2.2.1 g.toNatClampNeg hgn).2.2.1 hp2).2
      rw [← ew] at hc
      have hat := im_at hr0.1 hr0.2 hc.1 hc.2
      have hK : vp_in (12 * r + w) 120 := by rw [ki_in]; omega
      have wi := ki_inc (a := w) (by omega) (by omega)
      have ki := ki_inc (a := k) (by omega) (by omega)
      have hl := (G.1.1.2.1 r.toNatClampNeg (by have := ki_in.1 hr; rw [ki_nat]; omega)).2.1
      refine ⟨hK, fun _ => ⟨hr, fun _ => ?_, fun d => ?_⟩, fun _ => kk _ G⟩
      · exact rz_leave G.1 hg hp2 hr2 hr (fun μ' G' => kk _ (gf_trans G G'))
      · rw [ki_le] at d
        have hat1 := im_at (c := w + 1) hr0.1 hr0.2 (by omega) (by omega)
        refine rz_isOpen G.1.1.2.1 hr0 ⟨by omega, by omega⟩ ⟨fun n => absurd rfl n, fun _ => kk _ G⟩ (fun hh => ⟨fun _ => ?_, fun n => absurd n (by decide)⟩)
        refine rz_lift G.1 hg hp2 (fun F A H2 hf hA => ?_)
        refine rz_lay hg (il_of H2) hp2 hf hr0 ⟨by omega, by omega⟩ ?_ (fun F' A' H3 x ex => ?_)
        · show (A (12 * r + (w + 1)).toNatClampNeg).toInt < 20
          have := hA (12 * r + (w + 1)).toNatClampNeg (by rw [ki_nat]; omega)
          omega
        · rw [ex]
          exact ih (k + 1) _ (by omega) (by omega) (by omega) (gf_trans G ⟨H3, fun _ _ => rfl, rfl⟩) hp2 ku_self
  exact L 10 0 μ (by decide) (by decide) (by decide) ⟨H, fun _ _ => rfl, rfl⟩ hp er.symm
theorem ih_sa41 {σ : sz_T × Int32} {μ : km_S} {i : Nat} {v : Int32} (h : ih_ σ μ) : ih_ σ (km_sa μ 41 i v) := h
theorem rz_older {σ : sz_T × Int32} {μ : km_S} {Q : km_S → Prop} (H : ih_ σ μ) (kk : ∀ μ', ih_ σ μ' → Q μ') : wX12_older μ Q := by
  have L : ∀ (n : Nat) (g : Int32) (μ2 : km_S), 0 ≤ g.toInt → g.toInt ≤ 400 → 400 - g.toInt < (n : Int) → ih_ σ μ2 → wX12_older_2 Q n g μ2 := by
    intro n
    induction n with
    | zero => intro g μ2 h1 h2 h3; omega
    | succ n ih =>
      intro g μ2 h1 h2 h3 H2
      have b := H2.1.1.2.1
      refine ⟨fun _ => kk _ H2, fun c => ?_⟩
      rw [ki_le] at c
      have hg : vp_in g 400 := by rw [ki_in]; omega
      have gi := ki_inc (a := g) (by omega) (by omega)
      have N : ∀ μ', ih_ σ μ' → wX12_older_66 (wX12_older_2 Q n) Q g μ' := by
        intro μ' H' v ev
        rw [ev]
        exact ih (g + 1) μ' (by omega) (by omega) (by omega) H'
      refine ⟨hg, fun hp => ⟨hg, hg, fun μ7 e7 => ⟨hg, hg, fun _ => ?_, fun _ => N _ (by rw [e7]; exact ih_sa41 H2)⟩⟩, fun _ => N _ H2⟩
      have H7 : ih_ σ μ7 := by rw [e7]; exact ih_sa41 H2
      have hp7 : km_a μ7 38 g.toNatClampNeg = 1 := by rw [e7]; exact hp
      clear e7
      refine rz_lift H7 hg hp7 (fun F A H3 hf hA => ⟨hg, fun μ13 e13 => N _ ?_⟩)
      have D := ih_drop (P := upd (km_a μ7 38) g.toNatClampNeg 5) (X := km_a μ7 39) (Y := km_a μ7 40) hg H3 hf hp7 (by rw [ku_self]; decide) (by rw [ku_self]; decide) (fun q hq => ku_ne hq) (fun q _ => rfl) (fun q _ => rfl)
      have e : kd_ (kk_ μ7 F A) (upd (km_a μ7 38) g.toNatClampNeg 5) (km_a μ7 39) (km_a μ7 40) = km_sa (kk_ μ7 F A) 38 g.toNatClampNeg 5 := by
        refine Prod.ext rfl (Prod.ext ?_ rfl)
        funext j
        show (if j = 38 then _ else if j = 39 then _ else if j = 40 then _ else _) = (if j = 38 then _ else _)
        by_cases a : j = 38
        · rw [if_pos a, if_pos a]; rfl
        · rw [if_neg a, if_neg a]
          by_cases b : j = 39
          · rw [if_pos b, b]; rfl
          · rw [if_neg b]
            by_cases c : j = 40
            · rw [if_pos c, c]; rfl
            · rw [if_neg c]
      rw [e13, ← e]
      exact D
  exact ⟨500, L 500 0 μ (by decide) (by decide) (by decide) H⟩
