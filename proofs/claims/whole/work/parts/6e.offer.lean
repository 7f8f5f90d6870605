/-! the call offer -/
theorem offer_l {C P H S : Nat} {μ ν : mm} (hB : BS C P H μ ν) (hV : VV (vk (ν 1)) H μ) (hS : S = 2 ^ C) : ∀ (m s f1 f2 : Nat) (b1 b2 k : Int32) (ν1 : mm), s + m = S → m < f1 → m < f2 → (∀ b, b ≠ 9 → ν1 b = ν b) → ((b1 = -1 ∧ b2 = -3) ∨ ∃ t, t < s ∧ b1 = nI t ∧ b2 = nI t ∧ f_2_costOf 85 (nI t) μ = some k) → ∃ y1 y2 ν', f_2_leastOffer_l12 85 49 μ f1 b1 k (nI s) = some y1 ∧ f_12_offer_l5 0 f2 b2 (nI s) ν1 = some (y2, ν') ∧ (∀ b, b ≠ 9 → ν' b = ν b) ∧ ((y1 = -1 ∧ y2 = -3) ∨ ∃ t, t < 512 ∧ y1 = nI t ∧ y2 = nI t) := by
  have hC := hB.1.1
  have one := ob_one C (by omega)
  have le := ob_le C (by omega)
  rw [← hS] at one le
  have eS : f_2_setCount 85 μ = some (nI S) := by
    unfold f_2_setCount
    rw [hB.2.1.1, one]
  intro m
  induction m with
  | zero =>
    intro s f1 f2 b1 b2 k ν1 h1 h2 h3 hn hb
    obtain ⟨p, rfl⟩ : ∃ p, f1 = p + 1 := ⟨f1 - 1, by omega⟩
    obtain ⟨q, rfl⟩ : ∃ q, f2 = q + 1 := ⟨f2 - 1, by omega⟩
    obtain rfl : s = S := by omega
    refine ⟨b1, b2, ν1, ?_, ?_, hn, ?_⟩
    · unfold f_2_leastOffer_l12
      rw [eS, Option.bind_some, if_pos (Int32.le_refl _)]
    · unfold f_12_offer_l5
      rw [rf_0_0, l_17, hn 1 (by decide), hB.2.1.2, Option.bind_some, one, if_pos (Int32.le_refl _)]
    · rcases hb with hb | ⟨t, t1, t2, t3, -⟩
      · exact Or.inl hb
      · exact Or.inr ⟨t, by omega, t2, t3⟩
  | succ m ih =>
    intro s f1 f2 b1 b2 k ν1 h1 h2 h3 hn hb
    obtain ⟨p, rfl⟩ : ∃ p, f1 = p + 1 := ⟨f1 - 1, by omega⟩
    obtain ⟨q, rfl⟩ : ∃ q, f2 = q + 1 := ⟨f2 - 1, by omega⟩
    have e1 := hn 1 (by decide)
    have hB1 : BS C P H μ ν1 := BS_cg hB (fun _ _ _ => rfl) rfl e1
    have hV1 : VV (vk (ν1 1)) H μ := by rw [e1]; exact hV
    have d : ¬ nI S ≤ nI s := lt_n1 (by omega) (by omega)
    obtain ⟨c, c1, c2⟩ := cost_rel (s := s) hB1 (by omega)
    obtain ⟨K, hK, m1, m2⟩ := cont_rel (s := s) hB1 (by omega)
    obtain ⟨r, ν2, r1, r2, r3, r4⟩ := carry_rel hB1 hK hV1 m2
    have hn2 : ∀ b, b ≠ 9 → ν2 b = ν b := fun b hb => by rw [r4 b hb, hn b hb]
    have tryIt : ∀ (b1 b2 k : Int32), ((b1 = -1 ∧ b2 = -3) ∨ ∃ t, t < s ∧ b1 = nI t ∧ b2 = nI t ∧ f_2_costOf 85 (nI t) μ = some k) → ∃ y1 y2 ν', (if r = 0 then f_2_leastOffer_l12 85 49 μ p b1 k (nI (s + 1)) else f_2_leastOffer_l12 85 49 μ p (nI s) c (nI (s + 1))) = some y1 ∧ (if r = 0 then f_12_offer_l5 0 q b2 (nI (s + 1)) ν2 else f_12_offer_l5 0 q (nI s) (nI (s + 1)) ν2) = some (y2, ν') ∧ (∀ b, b ≠ 9 → ν' b = ν b) ∧ ((y1 = -1 ∧ y2 = -3) ∨ ∃ t, t < 512 ∧ y1 = nI t ∧ y2 = nI t) := by
      intro b1 b2 k hb
      by_cases z : r = 0
      · rw [if_pos z, if_pos z]
        refine ih (s + 1) p q b1 b2 k ν2 (by omega) (by omega) (by omega) hn2 ?_
        rcases hb with hb | ⟨t, t1, t2⟩
        · exact Or.inl hb
        · exact Or.inr ⟨t, by omega, t2⟩
      · rw [if_neg z, if_neg z]
        exact ih (s + 1) p q (nI s) (nI s) c ν2 (by omega) (by omega) (by omega) hn2 (Or.inr ⟨s, by omega, rfl, rfl, c1⟩)
    rcases hb with ⟨rfl, rfl⟩ | ⟨t, t1, rfl, rfl, t3⟩
    · obtain ⟨y1, y2, ν', k1, k2, k3⟩ := tryIt (-1) (-3) k (Or.inl ⟨rfl, rfl⟩)
      refine ⟨y1, y2, ν', ?_, ?_, k3⟩
      · unfold f_2_leastOffer_l12
        rw [eS, Option.bind_some, if_neg d, c1, Option.bind_some, if_pos rfl, Option.bind_some, if_neg (show ¬ (1 : Int32) = 0 by decide), m1, Option.bind_some, r1, Option.bind_some, nI_1]
        exact k1
      · unfold f_12_offer_l5
        rw [rf_0_0, l_17, e1, hB.2.1.2, Option.bind_some, one, if_neg d, if_pos rfl, r2, Option.bind_some, nI_1]
        exact k2
    · obtain ⟨c', c3, c4⟩ := cost_rel (s := t) hB1 (by omega)
      have ec : c' = k := Option.some.inj (c3.symm.trans t3)
      subst ec
      by_cases z : c' ≤ c
      · obtain ⟨y1, y2, ν', k1, k2, k3⟩ := ih (s + 1) p q (nI t) (nI t) c' ν1 (by omega) (by omega) (by omega) hn (Or.inr ⟨t, by omega, rfl, rfl, t3⟩)
        refine ⟨y1, y2, ν', ?_, ?_, k3⟩
        · unfold f_2_leastOffer_l12
          rw [eS, Option.bind_some, if_neg d, c1, Option.bind_some, if_neg (ne_m1 (by omega)), if_pos z, Option.bind_some, if_pos rfl, nI_1]
          exact k1
        · unfold f_12_offer_l5
          rw [rf_0_0, l_17, e1, hB.2.1.2, Option.bind_some, one, if_neg d, if_neg (ne_m3 (by omega)), c2, Option.bind_some, c4, Option.bind_some, if_pos z, nI_1]
          exact k2
      · obtain ⟨y1, y2, ν', k1, k2, k3⟩ := tryIt (nI t) (nI t) c' (Or.inr ⟨t, t1, rfl, rfl, t3⟩)
        refine ⟨y1, y2, ν', ?_, ?_, k3⟩
        · unfold f_2_leastOffer_l12
          rw [eS, Option.bind_some, if_neg d, c1, Option.bind_some, if_neg (ne_m1 (by omega)), if_neg z, Option.bind_some, if_neg (show ¬ (1 : Int32) = 0 by decide), m1, Option.bind_some, r1, Option.bind_some, nI_1]
          exact k1
        · unfold f_12_offer_l5
          rw [rf_0_0, l_17, e1, hB.2.1.2, Option.bind_some, one, if_neg d, if_neg (ne_m3 (by omega)), c2, Option.bind_some, c4, Option.bind_some, if_neg z, r2, Option.bind_some, nI_1]
          exact k2
theorem T_offer {μ ν : mm} (h : Cp μ ν) : Ok (f_11_offer 23 μ) fun z => Ok (f_12_offer 0 ν) fun w => z.1 = w.1 ∧ Cp z.2 w.2 := by
  obtain ⟨C, P, H, hB⟩ := Cp_BS h
  have le := ob_le C (by have := hB.1.1; omega)
  obtain ⟨μ', v1, v2, v3, v4⟩ := call_rel hB
  have hB1 := BS_cg (ν' := ν) hB v2 v3 rfl
  obtain ⟨y1, y2, ν', k1, k2, k3, k4⟩ := offer_l hB1 v4 rfl (2 ^ C) 0 FU FU (-1) (-3) 0 ν (by omega) (show 2 ^ C < 2000 by omega) (show 2 ^ C < 2000 by omega) (fun _ _ => rfl) (Or.inl ⟨rfl, rfl⟩)
  rw [show nI 0 = 0 from rfl] at k1 k2
  have eL : f_2_leastOffer 85 49 μ = some (y1, μ') := by
    unfold f_2_leastOffer
    rw [v1, Option.bind_some, k1, Option.bind_some]
  have hCp := Cp_vote h v2 v3 k3
  rcases k4 with ⟨rfl, rfl⟩ | ⟨t, t1, rfl, rfl⟩
  · refine Ok_of (y := (-3, μ')) ?_ (Ok_of (y := (-3, ν')) ?_ ⟨rfl, hCp⟩)
    · unfold f_11_offer
      rw [rf_23_0, rf_49_15, eL, Option.bind_some, if_pos rfl]
    · unfold f_12_offer
      rw [k2, Option.bind_some]
  · refine Ok_of (y := (nI t, μ')) ?_ (Ok_of (y := (nI t, ν')) ?_ ⟨rfl, hCp⟩)
    · unfold f_11_offer
      rw [rf_23_0, rf_49_15, eL, Option.bind_some, if_neg (ne_m1 (by omega))]
    · unfold f_12_offer
      rw [k2, Option.bind_some]
