theorem rz_crew {k r : Int32} {μ : km_S} (I : im_ μ) : wX12_crew k r μ (pz_ (z_crew k r (sm_ μ))) := by
  intro μ1 e1
  have I1 : im_ μ1 := by rw [e1]; exact im_code 0 I
  have s1 : sm_ μ1 = sm_ μ := by rw [e1]; rfl
  have k1 : km_i μ1 1 = 0 := by rw [e1]; rfl
  rw [← s1]
  have z1 : (1 : Int32).toInt = 1 := by decide
  have z6 : (6 : Int32).toInt = 6 := by decide
  have zm : (-1 : Int32).toInt = -1 := by decide
  have b7 := I1.1.2.2.2.1
  have b3 := I1.1.1
  refine rz_isReach (fun c => ⟨fun n => absurd rfl n, fun _ => ?_⟩) (fun a b => ⟨fun _ => ?_, fun n => absurd n (by decide)⟩)
  · intro μ2 e2
    subst e2
    refine ⟨im_code 1 I1, ?_⟩
    unfold z_crew
    rw [if_neg (show ¬ z_is r (sm_ μ1) from c)]
    rfl
  · have hz : z_is r (sm_ μ1) := ⟨a, b⟩
    have no : (k ≠ -1 ∧ (k < -1 ∨ km_i μ1 7 ≤ k)) ∨ (k = -1 ∧ km_i μ1 7 = 6) → pz_ (z_crew k r (sm_ μ1)) (-1) μ1 := by
      intro h
      refine ⟨I1, ?_⟩
      unfold z_crew
      rw [if_pos hz]
      rcases h with ⟨h1, h2⟩ | ⟨h1, h2⟩
      · rw [if_neg h1, if_pos (show k < -1 ∨ (sm_ μ1).1.2.2.1 ≤ k from h2), k1]
      · rw [if_pos h1, if_pos (show (sm_ μ1).1.2.2.1 = 6 from h2), k1]
    refine ⟨fun q => no (.inl ⟨fun h => ?_, .inl q⟩), fun c1 => ⟨fun q => no (.inl ⟨fun h => ?_, .inr q⟩), fun c2 => ⟨fun c3 => ⟨fun _ => ?_, fun q => absurd q c3⟩, fun c3 => ⟨fun c4 => ⟨fun q => absurd c3 q, fun _ => ?_⟩, fun q => no (.inr ⟨c3, q⟩)⟩⟩⟩⟩
    · rw [h] at q; exact absurd q (by decide)
    · rw [h, ki_le, zm] at q; omega
    · rw [ki_lt, zm] at c1
      rw [ki_le] at c2
      have c3' : k.toInt ≠ -1 := fun h => c3 (ki_eq.2 (h.trans zm.symm))
      have hk : vp_in k 6 := by rw [ki_in]; omega
      refine rz_crew84 hk (fun v => ?_)
      obtain ⟨n1, n2, n3, n4, n5, n6, n7, n8⟩ := I1
      refine ⟨⟨n1, n2, n3, n4, n5, n6, fun j hj => ?_, n8⟩, ?_⟩
      · refine ku_r (P := fun x => 0 ≤ x.toInt ∧ x.toInt < 10) ?_ (n7 j hj)
        omega
      · unfold z_crew
        rw [if_pos hz, if_neg c3, if_neg (show ¬ (k < -1 ∨ (sm_ μ1).1.2.2.1 ≤ k) from fun h => h.elim (fun h => by rw [ki_lt, zm] at h; exact c1 h) (fun h => c2 (ki_le.1 h)))]
        exact Prod.ext k1 rfl
    · intro v8 e8 μ9 e9
      have c4' : (km_i μ1 7).toInt ≠ 6 := fun h => c4 (ki_eq.2 (h.trans z6.symm))
      have hk : vp_in v8 6 := by rw [e8, ki_in]; omega
      refine ⟨hk, fun μ11 e11 => ⟨hk, fun μ13 e13 => rz_crew84 hk (fun v => ?_)⟩⟩
      subst e13; subst e11; subst e9; subst e8
      have hadd : (km_i μ1 7 + 1).toInt = (km_i μ1 7).toInt + 1 := by
        rw [ki_add (by rw [z1]; omega) (by rw [z1]; omega), z1]
      obtain ⟨n1, n2, n3, n4, n5, n6, n7, n8⟩ := I1
      refine ⟨⟨⟨n1.1, n1.2.1, n1.2.2.1, ?_, n1.2.2.2.2⟩, n2, n3, n4, n5, n6, fun j hj => ?_, n8⟩, ?_⟩
      · show 0 ≤ (km_i μ1 7 + 1).toInt ∧ (km_i μ1 7 + 1).toInt ≤ 6
        rw [hadd]; omega
      · show 0 ≤ (upd (upd (km_a μ1 44) (km_i μ1 7).toNatClampNeg (-1)) (km_i μ1 7).toNatClampNeg r j).toInt ∧ (upd (upd (km_a μ1 44) (km_i μ1 7).toNatClampNeg (-1)) (km_i μ1 7).toNatClampNeg r j).toInt < 10
        by_cases e : j = (km_i μ1 7).toNatClampNeg
        · rw [e, ku_self]; omega
        · rw [ku_ne e, ku_ne e]; exact n7 j hj
      · unfold z_crew
        rw [if_pos hz, if_pos c3, if_neg (show ¬ (sm_ μ1).1.2.2.1 = 6 from c4)]
        exact Prod.ext k1 rfl
def z_feed (σ : sz_T) : Int32 × Int32 × sz_T := if σ.1.2.2.2.2.1 + 20 ≤ 500 then (0, σ.1.2.2.2.2.1 + 20, ((σ.1.1, σ.1.2.1, σ.1.2.2.1, σ.1.2.2.2.1, σ.1.2.2.2.2.1 + 20, σ.1.2.2.2.2.2), σ.2)) else (0, -1, σ)
theorem rz_feed {a b c d e : Int32} {μ : km_S} (I : im_ μ) : wX12_feed a b c d e μ (pz_ (z_feed (sm_ μ))) := by
  intro μ1 e1
  have I1 : im_ μ1 := by rw [e1]; exact im_code 0 I
  have s1 : sm_ μ1 = sm_ μ := by rw [e1]; rfl
  have k1 : km_i μ1 1 = 0 := by rw [e1]; rfl
  rw [← s1]
  have z1 : (1 : Int32).toInt = 1 := by decide
  have z20 : (20 : Int32).toInt = 20 := by decide
  have z500 : (500 : Int32).toInt = 500 := by decide
  have b9 := I1.1.2.2.2.2.2
  have h20 : (km_i μ1 9 + 20).toInt = (km_i μ1 9).toInt + 20 := by rw [ki_add (by rw [z20]; omega) (by rw [z20]; omega), z20]
  refine ⟨fun q => ?_, fun q => ⟨I1, ?_⟩⟩
  · have hq : (km_i μ1 9).toInt + 20 ≤ 500 := by rw [ki_le, h20, z500] at q; exact q
    have L : ∀ (n : Nat) (k : Int32) (μ2 : km_S), 0 ≤ k.toInt → k.toInt ≤ 20 → 20 - k.toInt < (n : Int) → im_ μ2 → km_i μ2 1 = 0 → km_i μ2 9 = km_i μ1 9 + k → (∀ v, (sm_ (km_si μ2 9 v)) = sm_ (km_si μ1 9 v)) → wX12_feed_23 (wX12_feed_120 (pz_ (z_feed (sm_ μ1)))) (pz_ (z_feed (sm_ μ1))) n a b c d e k μ2 := by
      intro n
      induction n with
      | zero => intro k μ2 h1 h2 h3; omega
      | succ n ih =>
        intro k μ2 h1 h2 h3 I2 k2 t2 s2
        refine ⟨fun c1 => ?_, fun c1 => ?_⟩
        · rw [ki_le, z20] at c1
          have ek : k = 20 := ki_eq.2 (by rw [z20]; omega)
          refine ⟨I2, ?_⟩
          unfold z_feed
          rw [if_pos (show (sm_ μ1).1.2.2.2.2.1 + 20 ≤ 500 from q)]
          have := s2 (km_i μ2 9)
          have e3 : km_si μ2 9 (km_i μ2 9) = μ2 := Prod.ext (ku_same rfl) rfl
          rw [e3, t2, ek] at this
          rw [this, k2, t2, ek]
          rfl
        · rw [ki_le, z20] at c1
          have hk1 : (k + 1).toInt = k.toInt + 1 := by rw [ki_add (by rw [z1]; omega) (by rw [z1]; omega), z1]
          have h9 : (km_i μ2 9).toInt = (km_i μ1 9).toInt + k.toInt := by rw [t2, ki_add (by omega) (by omega)]
          have h91 : (km_i μ2 9 + 1).toInt = (km_i μ2 9).toInt + 1 := by rw [ki_add (by rw [z1]; omega) (by rw [z1]; omega), z1]
          have N : ∀ w : Int32, wX12_feed_76 (wX12_feed_23 (wX12_feed_120 (pz_ (z_feed (sm_ μ1)))) (pz_ (z_feed (sm_ μ1))) n) (pz_ (z_feed (sm_ μ1))) a b c d e k w μ2 := by
            intro w
            refine ⟨by rw [ki_in]; omega, fun μ3 e3 μ4 e4 v4 e5 => ?_⟩
            rw [e5]
            obtain ⟨n1, n2, n3, n4, n5, n6, n7, n8⟩ := I2
            refine ih (k + 1) μ4 (by omega) (by omega) (by omega) ?_ ?_ ?_ ?_
            · subst e4; subst e3
              refine ⟨⟨n1.1, n1.2.1, n1.2.2.1, n1.2.2.2.1, n1.2.2.2.2.1, ?_⟩, n2, n3, n4, n5, n6, n7, n8⟩
              show 0 ≤ (km_i μ2 9 + 1).toInt ∧ (km_i μ2 9 + 1).toInt ≤ 500
              omega
            · subst e4; subst e3; exact k2
            · subst e4; subst e3
              show km_i μ2 9 + 1 = km_i μ1 9 + (k + 1)
              rw [t2, Int32.add_assoc]
            · subst e4; subst e3
              exact fun v => s2 v
          exact ⟨fun _ => ⟨fun _ => ⟨fun _ => ⟨fun _ => N _, fun _ => N _⟩, fun _ => N _⟩, fun _ => N _⟩, fun _ => N _⟩
    exact ⟨30, L 30 0 μ1 (by decide) (by decide) (by decide) I1 k1 (by rw [Int32.add_zero]) (fun _ => rfl)⟩
  · unfold z_feed
    rw [if_neg (show ¬ (sm_ μ1).1.2.2.2.2.1 + 20 ≤ 500 from q), k1]
