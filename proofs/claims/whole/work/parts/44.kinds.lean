/-! what a shelf holds; the tape -/
theorem sht_of {x : Int32} (h : 0 ≤ x ∧ x ≤ 4) : x = 0 ∨ x = 1 ∨ x = 2 ∨ x = 3 ∨ x = 4 := by
  obtain ⟨j, hj, rfl⟩ := nI_of2 (M := 4) (n := 4) (by decide) (Int32.not_lt.mpr h.1) h.2
  have : j = 0 ∨ j = 1 ∨ j = 2 ∨ j = 3 ∨ j = 4 := by omega
  rcases this with rfl | rfl | rfl | rfl | rfl
  · exact Or.inl rfl
  · exact Or.inr (Or.inl rfl)
  · exact Or.inr (Or.inr (Or.inl rfl))
  · exact Or.inr (Or.inr (Or.inr (Or.inl rfl)))
  · exact Or.inr (Or.inr (Or.inr (Or.inr rfl)))
theorem gb01 {c : Prop} [Decidable c] : gb (if c then 1 else 0) = some (if c then 1 else 0) := by
  by_cases h : c
  · rw [if_pos h]; rfl
  · rw [if_neg h]; rfl
theorem pv5 {x : Int32} (h : pv 5 x = -3) : x = -1 := by
  unfold pv at h
  by_cases a : x = -1
  · exact a
  · rw [if_neg (fun q => a q.2)] at h
    by_cases b : x = -3
    · rw [if_pos ⟨rfl, b⟩] at h
      exact absurd h (by decide)
    · rw [if_neg (fun q => b q.2)] at h
      exact absurd h b
/-- a shelf without a row: bare, or a thing of a kind; what holds of the thing -/
def shK (μ ν : mm) (s q : Nat) (k : Int32) : Prop := (μ 46 s = 0 ∧ ν 19 s = 1 ∧ q < nn (ν 1 11) ∧ (k = 1 ∨ k = 4 ∨ k = 5)) ∨ (μ 46 s = 1 ∧ ν 19 s = 2 ∧ q < nn (ν 1 10) ∧ k = 2) ∨ (μ 46 s = 2 ∧ ν 19 s = 3 ∧ q < nn (ν 1 9) ∧ (k = 3 ∨ k = 6))
set_option maxHeartbeats 1000000 in
theorem kind_rel {μ ν : mm} {s : Nat} (h : Cp μ ν) (hs : s < 4) (hd : μ 46 s ≠ 3) : (f_11_isBare 23 (nI s) μ = some 1 ∧ f_12_kindOn 0 (nI s) ν = some (-1)) ∨ (f_11_isBare 23 (nI s) μ = some 0 ∧ ∃ (q : Nat) (k : Int32), q ≤ 15 ∧ μ 47 s = nI q ∧ ν 20 s = nI q ∧ f_11_kindOn 23 (nI s) μ = some k ∧ f_12_kindOn 0 (nI s) ν = some k ∧ shK μ ν s q k) := by
  obtain ⟨n9, hn9, en9, nn9⟩ := cnt_of (m := 4) (by decide) h.2.1.2.1.2.1
  have em9 : μ 49 2 = nI n9 := (h.1.1 9 (by decide)).symm.trans en9
  obtain ⟨n10, hn10, en10, nn10⟩ := cnt_of (m := 4) (by decide) h.2.1.2.1.2.2.1
  have em10 : μ 49 3 = nI n10 := (h.1.1 10 (by decide)).symm.trans en10
  obtain ⟨n11, hn11, en11, nn11⟩ := cnt_of (m := 16) (by decide) h.2.1.2.1.2.2.2.1
  have em11 : μ 49 4 = nI n11 := (h.1.1 11 (by decide)).symm.trans en11
  have hN := IV_nn h.2.1
  obtain ⟨⟨v1, v2, v3, v4, v5, v6, v7, v8, v9, v10, v11, v12⟩, ⟨i1, i2, i3, i4, i5, i6, i7, i8, i9, i10, i11, i12⟩, -⟩ := id h
  obtain ⟨q1, q2, q3, -⟩ := h.2.2.2.2.2.2.1 s hs
  have l1 : ld μ 46 (nI s) = some (μ 46 s) := ldL len_46 hs (by decide)
  have l2 : ld μ 47 (nI s) = some (μ 47 s) := ldL len_47 hs (by decide)
  have l3 : ld ν 19 (nI s) = some (ν 19 s) := ldL len_19 hs (by decide)
  have l4 : ld ν 20 (nI s) = some (ν 20 s) := ldL len_20 hs (by decide)
  by_cases e4 : μ 46 s = 4
  · left
    have r := q2 e4
    rw [e4] at l1
    rw [r] at l3
    exact ⟨by simp [f_11_isBare, rf_23_14, l1], by simp [f_12_kindOn, rf_0_29, rf_0_30, l3, l4]⟩
  · obtain ⟨r1, r2, r3⟩ := q3 e4
    obtain ⟨q, hq, eq, -⟩ := cnt_of (m := 15) (by decide) r3
    rw [eq] at l2 r2
    rw [r2] at l4
    rw [r1] at l3
    have cs := sht_of q1
    have e3 : ¬ μ 46 s = 3 := hd
    by_cases e0 : μ 46 s = 0
    · rw [e0] at l1 l3 r1
      by_cases c : 0 ≤ nI q ∧ nI q ≤ nI n11 - 1
      · right
        have hqn : q < n11 := by
          obtain ⟨j, hj, e⟩ := in_of (by omega) c
          have := (nI_eq (by omega) (by omega)).mp e
          omega
        have l5 : lda 59 (nI q) = some (109 + q) := aV_10 (v := 49) isV_now (by omega)
        have f10 : ν 1 (96 + 12 * q + 10) = μ (109 + q) 10 := v5 q 10 (by omega) (by decide)
        have f11 : ν 1 (96 + 12 * q + 11) = μ (109 + q) 11 := v5 q 11 (by omega) (by decide)
        obtain ⟨-, -, -, -, -, -, -, b10, b11, -⟩ := i6 q (by omega)
        rw [show 106 + 12 * q = 96 + 12 * q + 10 from by omega] at b10
        rw [show 107 + 12 * q = 96 + 12 * q + 11 from by omega] at b11
        have h10 : f_12_house 0 (nI q) 10 ν = some (ν 1 (96 + 12 * q + 10)) := house1 (f := 10) (by omega)
        have h11 : f_12_house 0 (nI q) 11 ν = some (ν 1 (96 + 12 * q + 11)) := house1 (f := 11) (by omega)
        refine ⟨by simp [f_11_isBare, rf_23_14, rf_23_15, rf_23_0, l1, l2, hasH_eq, em11, c], q, ?_⟩
        rcases b10 with b10 | b10
        · rcases b11 with b11 | b11
          · exact ⟨1, hq, eq, r2, by simp [f_11_kindOn, rf_23_14, rf_23_15, rf_23_0, rf_49_10, l1, l2, l5, ← f10, ← f11, b10, b11], by simp [f_12_kindOn, rf_0_29, rf_0_30, l3, l4, is_11, en11, c, h10, h11, b10, b11], Or.inl ⟨e0, r1, by omega, Or.inl rfl⟩⟩
          · exact ⟨4, hq, eq, r2, by simp [f_11_kindOn, rf_23_14, rf_23_15, rf_23_0, rf_49_10, l1, l2, l5, ← f10, ← f11, b10, b11], by simp [f_12_kindOn, rf_0_29, rf_0_30, l3, l4, is_11, en11, c, h10, h11, b10, b11], Or.inl ⟨e0, r1, by omega, Or.inr (Or.inl rfl)⟩⟩
        · exact ⟨5, hq, eq, r2, by simp [f_11_kindOn, rf_23_14, rf_23_15, rf_23_0, rf_49_10, l1, l2, l5, ← f10, ← f11, b10], by simp [f_12_kindOn, rf_0_29, rf_0_30, l3, l4, is_11, en11, c, h10, b10], Or.inl ⟨e0, r1, by omega, Or.inr (Or.inr rfl)⟩⟩
      · left
        exact ⟨by simp [f_11_isBare, rf_23_14, rf_23_15, rf_23_0, l1, l2, hasH_eq, em11, c], by simp [f_12_kindOn, rf_0_29, rf_0_30, l3, l4, is_11, en11, c]⟩
    · by_cases e1 : μ 46 s = 1
      · rw [e1] at l1 l3 r1
        by_cases c : 0 ≤ nI q ∧ nI q ≤ nI n10 - 1
        · right
          have hqn : q < n10 := by
            obtain ⟨j, hj, e⟩ := in_of (by omega) c
            have := (nI_eq (by omega) (by omega)).mp e
            omega
          exact ⟨by simp [f_11_isBare, rf_23_14, rf_23_15, rf_23_0, l1, l2, hasS_eq, em10, c], q, 2, hq, eq, r2, by simp [f_11_kindOn, rf_23_14, rf_23_15, l1, l2], by simp [f_12_kindOn, rf_0_29, rf_0_30, l3, l4, is_10, en10, c], Or.inr (Or.inl ⟨e1, r1, by omega, rfl⟩)⟩
        · left
          exact ⟨by simp [f_11_isBare, rf_23_14, rf_23_15, rf_23_0, l1, l2, hasS_eq, em10, c], by simp [f_12_kindOn, rf_0_29, rf_0_30, l3, l4, is_10, en10, c]⟩
      · have e2 : μ 46 s = 2 := by
          rcases cs with q | q | q | q | q
          · exact absurd q e0
          · exact absurd q e1
          · exact q
          · exact absurd q e3
          · exact absurd q e4
        rw [e2] at l1 l3 r1
        by_cases c : 0 ≤ nI q ∧ nI q ≤ nI n9 - 1
        · right
          have hqn : q < n9 := by
            obtain ⟨j, hj, e⟩ := in_of (by omega) c
            have := (nI_eq (by omega) (by omega)).mp e
            omega
          have l5 : lda 57 (nI q) = some (101 + q) := aV_8 (v := 49) isV_now (by omega)
          have f5 : ν 1 (56 + 7 * q + 5) = pv 5 (μ (101 + q) 5) := v3 q 5 (by omega) (by decide)
          have l6 : ld ν 1 (nI (56 + 7 * q + 5)) = some (ν 1 (56 + 7 * q + 5)) := ld1 (by omega)
          have b5 := (i4 q (by omega)).2.2.2.2.2.1
          rw [show 61 + 7 * q = 56 + 7 * q + 5 from by omega, f5] at b5
          refine ⟨by simp [f_11_isBare, rf_23_14, rf_23_15, rf_23_0, l1, l2, hasP_eq, em9, c], q, ?_⟩
          by_cases d : μ (101 + q) 5 = -1
          · have d' : ν 1 (56 + 7 * q + 5) = -3 := by rw [f5, d]; rfl
            exact ⟨3, hq, eq, r2, by simp [f_11_kindOn, f_4_isLost, rf_23_14, rf_23_15, rf_23_0, rf_49_8, l1, l2, l5, d], by simp [f_12_kindOn, f_12_ofPit, rf_0_29, rf_0_30, rf_0_0, l3, l4, is_9, en9, c, ix_56_, nI_p5, l6, d'], Or.inr (Or.inr ⟨e2, r1, by omega, Or.inl rfl⟩)⟩
          · have d' : ¬ ν 1 (56 + 7 * q + 5) = -3 := by
              intro z
              rw [f5] at z
              exact d (pv5 z)
            exact ⟨6, hq, eq, r2, by simp [f_11_kindOn, f_4_isLost, rf_23_14, rf_23_15, rf_23_0, rf_49_8, l1, l2, l5, d], by simp [f_12_kindOn, f_12_ofPit, rf_0_29, rf_0_30, rf_0_0, l3, l4, is_9, en9, c, ix_56_, nI_p5, l6, d'], Or.inr (Or.inr ⟨e2, r1, by omega, Or.inr rfl⟩)⟩
        · left
          exact ⟨by simp [f_11_isBare, rf_23_14, rf_23_15, rf_23_0, l1, l2, hasP_eq, em9, c], by simp [f_12_kindOn, rf_0_29, rf_0_30, l3, l4, is_9, en9, c]⟩
theorem und_rel {k a : Int32} {s : Nat} {μ ν : mm} (hk : k = 1 ∨ k = 2 ∨ k = 3 ∨ k = 4 ∨ k = 5 ∨ k = 6) (ha : 0 ≤ a) : ∃ z, f_12_taken_l78 0 (nI s) a ν FU k = some z ∧ f_0_isOrIsUnder k a μ = some (if z = a then 1 else 0) := by
  have hn : ¬ (-1 : Int32) = a := by intro e; rw [← e] at ha; exact absurd ha (by decide)
  have hn2 : ¬ a = -1 := fun e => hn e.symm
  obtain ⟨n, hfu⟩ : ∃ n, FU = n + 5 := ⟨1995, rfl⟩
  rw [hfu]
  by_cases a0 : a = 0
  · subst a0
    rcases hk with rfl | rfl | rfl | rfl | rfl | rfl <;> exact ⟨0, by simp [f_12_taken_l78, f_12_above], by simp [f_0_isOrIsUnder]⟩
  · have a0' : ¬ 0 = a := fun e => a0 e.symm
    rcases hk with rfl | rfl | rfl | rfl | rfl | rfl
    · by_cases a1 : 1 = a
      · exact ⟨1, by simp [f_12_taken_l78, a1], by simp [f_0_isOrIsUnder, a1]⟩
      · exact ⟨-1, by simp [f_12_taken_l78, f_12_above, a1, a0', hn], by simp [f_0_isOrIsUnder, f_0_kindAbove, a1, a0, a0', hn]⟩
    · by_cases a1 : 2 = a
      · exact ⟨2, by simp [f_12_taken_l78, a1], by simp [f_0_isOrIsUnder, a1]⟩
      · exact ⟨-1, by simp [f_12_taken_l78, f_12_above, a1, a0', hn], by simp [f_0_isOrIsUnder, f_0_kindAbove, a1, a0, a0', hn]⟩
    · by_cases a1 : 3 = a
      · exact ⟨3, by simp [f_12_taken_l78, a1], by simp [f_0_isOrIsUnder, a1]⟩
      · exact ⟨-1, by simp [f_12_taken_l78, f_12_above, a1, a0', hn], by simp [f_0_isOrIsUnder, f_0_kindAbove, a1, a0, a0', hn]⟩
    · by_cases a1 : 4 = a
      · exact ⟨4, by simp [f_12_taken_l78, a1], by simp [f_0_isOrIsUnder, a1]⟩
      · by_cases a2 : 1 = a
        · exact ⟨1, by simp [f_12_taken_l78, f_12_above, a1, a2], by simp [f_0_isOrIsUnder, f_0_kindAbove, a1, a0, a2]⟩
        · exact ⟨-1, by simp [f_12_taken_l78, f_12_above, a1, a2, a0', hn], by simp [f_0_isOrIsUnder, f_0_kindAbove, a1, a0, a2, hn]⟩
    · by_cases a1 : 5 = a
      · exact ⟨5, by simp [f_12_taken_l78, a1], by simp [f_0_isOrIsUnder, a1]⟩
      · by_cases a2 : 1 = a
        · exact ⟨1, by simp [f_12_taken_l78, f_12_above, a1, a2], by simp [f_0_isOrIsUnder, f_0_kindAbove, a1, a0, a2]⟩
        · exact ⟨-1, by simp [f_12_taken_l78, f_12_above, a1, a2, a0', hn], by simp [f_0_isOrIsUnder, f_0_kindAbove, a1, a0, a2, hn]⟩
    · by_cases a1 : 6 = a
      · exact ⟨6, by simp [f_12_taken_l78, a1], by simp [f_0_isOrIsUnder, a1]⟩
      · by_cases a2 : 3 = a
        · exact ⟨3, by simp [f_12_taken_l78, f_12_above, a1, a2], by simp [f_0_isOrIsUnder, f_0_kindAbove, a1, a0, a2]⟩
        · exact ⟨-1, by simp [f_12_taken_l78, f_12_above, a1, a2, a0', hn], by simp [f_0_isOrIsUnder, f_0_kindAbove, a1, a0, a2, hn]⟩
theorem shK_k {μ ν : mm} {s q : Nat} {k : Int32} (h : shK μ ν s q k) : k = 1 ∨ k = 2 ∨ k = 3 ∨ k = 4 ∨ k = 5 ∨ k = 6 := by
  rcases h with ⟨-, -, -, rfl | rfl | rfl⟩ | ⟨-, -, -, rfl⟩ | ⟨-, -, -, rfl | rfl⟩ <;> simp
set_option maxHeartbeats 1000000 in
theorem taken_b {μ ν : mm} {s : Nat} {a x : Int32} (h : Cp μ ν) (hs : s < 4) (ha : (0 ≤ a ∧ a ≤ 6) ∧ x = 0 ∨ (10 ≤ a ∧ a ≤ 14) ∧ x = 1) : ∃ y, f_11_taken_b32 23 (nI s) a x μ = some y ∧ f_12_taken_b30 0 (nI s) a ν = some y := by
  obtain ⟨q1, q2, q3, q4⟩ := h.2.2.2.2.2.2.1 s hs
  have l1 : ld μ 46 (nI s) = some (μ 46 s) := ldL len_46 hs (by decide)
  have l2 : ld μ 47 (nI s) = some (μ 47 s) := ldL len_47 hs (by decide)
  have l8 : ld μ 48 (nI s) = some (μ 48 s) := ldL len_48 hs (by decide)
  have l3 : ld ν 19 (nI s) = some (ν 19 s) := ldL len_19 hs (by decide)
  have l4 : ld ν 20 (nI s) = some (ν 20 s) := ldL len_20 hs (by decide)
  have l9 : ld ν 21 (nI s) = some (ν 21 s) := ldL len_21 hs (by decide)
  have a0 : 0 ≤ a := by
    rcases ha with ⟨⟨z, -⟩, -⟩ | ⟨⟨z, -⟩, -⟩
    · exact z
    · exact Int32.le_trans (by decide) z
  by_cases d : μ 46 s = 3
  · have d4 : μ 46 s ≠ 4 := by rw [d]; decide
    obtain ⟨r1, r2, r3⟩ := q3 d4
    obtain ⟨r4, r5⟩ := q4 d
    rw [d] at l1
    rw [r1, d] at l3
    rw [r2] at l4
    rw [r4] at l9
    have hb : f_11_isBare 23 (nI s) μ = some 0 := by simp [f_11_isBare, rf_23_14, l1]
    rcases ha with ⟨⟨z1, z2⟩, rfl⟩ | ⟨⟨z1, z2⟩, rfl⟩
    · have ne : ¬ a - 10 = μ 47 s := by clear l1 l2 l3 l4 l8 l9 h q1 q2 q3 q4 hb; grind
      exact ⟨-13, by simp [f_11_taken_b32, hb, rf_23_14, l1], by simp [f_12_taken_b30, rf_0_29, rf_0_30, l3, l4, ne]⟩
    · by_cases e : a - 10 = μ 47 s
      · exact ⟨μ 48 s, by simp [f_11_taken_b32, hb, rf_23_14, rf_23_15, rf_23_16, l1, l2, l8, e], by simp [f_12_taken_b30, rf_0_29, rf_0_30, rf_0_31, l3, l4, l9, e]⟩
      · have e' : ¬ μ 47 s = a - 10 := fun z => e z.symm
        exact ⟨-13, by simp [f_11_taken_b32, hb, rf_23_14, rf_23_15, l1, l2, e'], by simp [f_12_taken_b30, rf_0_29, rf_0_30, l3, l4, e]⟩
  · rcases kind_rel h hs d with ⟨k1, k2⟩ | ⟨k1, q, k, hq, k3, k4, k5, k6, k7⟩
    · have d3 : ¬ ν 19 s = 4 := by
        by_cases e4 : μ 46 s = 4
        · rw [q2 e4]; decide
        · rw [(q3 e4).1]
          rcases sht_of q1 with z | z | z | z | z <;> simp_all
      exact ⟨-11, by simp [f_11_taken_b32, k1], by simp [f_12_taken_b30, rf_0_29, l3, d3, k2]⟩
    · have d3 : ¬ ν 19 s = 4 := by
        rcases k7 with ⟨-, z, -⟩ | ⟨-, z, -⟩ | ⟨-, z, -⟩ <;> rw [z] <;> decide
      have kp : 0 ≤ k := by rcases shK_k k7 with rfl | rfl | rfl | rfl | rfl | rfl <;> decide
      obtain ⟨z, z1, z2⟩ := und_rel (s := s) (μ := μ) (ν := ν) (shK_k k7) a0
      rcases ha with ⟨za, rfl⟩ | ⟨za, rfl⟩
      · by_cases e : z = a
        · rw [if_pos e] at z2
          exact ⟨nI q, by simp [f_11_taken_b32, k1, rf_23_14, rf_23_15, l1, l2, d, k5, z2, k3], by simp [f_12_taken_b30, rf_0_29, rf_0_30, l3, l4, d3, k6, kp, z1, e, k4]⟩
        · rw [if_neg e] at z2
          exact ⟨-13, by simp [f_11_taken_b32, k1, rf_23_14, l1, d, k5, z2], by simp [f_12_taken_b30, rf_0_29, l3, d3, k6, kp, z1, e]⟩
      · have e : ¬ z = a := by
          intro e
          rw [if_pos e] at z2
          have n0 : ¬ a = 0 := by rintro rfl; exact absurd za.1 (by decide)
          have n1 : ¬ 1 = a := by rintro rfl; exact absurd za.1 (by decide)
          have n2 : ¬ 2 = a := by rintro rfl; exact absurd za.1 (by decide)
          have n3 : ¬ 3 = a := by rintro rfl; exact absurd za.1 (by decide)
          have n4 : ¬ 4 = a := by rintro rfl; exact absurd za.1 (by decide)
          have n5 : ¬ 5 = a := by rintro rfl; exact absurd za.1 (by decide)
          have n6 : ¬ 6 = a := by rintro rfl; exact absurd za.1 (by decide)
          have n00 : ¬ 0 = a := fun z => n0 z.symm
          rcases shK_k k7 with rfl | rfl | rfl | rfl | rfl | rfl <;> simp [f_0_isOrIsUnder, f_0_kindAbove, n0, n1, n2, n3, n4, n5, n6, n00] at z2
        exact ⟨-13, by simp [f_11_taken_b32, k1, rf_23_14, l1, d], by simp [f_12_taken_b30, rf_0_29, l3, d3, k6, kp, z1, e]⟩
theorem T_taken {μ ν : mm} (a b : Int32) (h : Cp μ ν) : Ok (f_11_taken 23 a b μ) fun z => Ok (f_12_taken 0 a b ν) fun w => z = w := by
  by_cases c1 : 0 ≤ a ∧ a ≤ 3
  · obtain ⟨s, hs, rfl⟩ := four_of c1
    by_cases c2 : 10 ≤ b ∧ b ≤ 14
    · have c3 : ¬ (0 ≤ b ∧ b ≤ 6) := fun q => by
        have := Int32.le_trans c2.1 q.2
        exact absurd this (by decide)
      obtain ⟨y, y1, y2⟩ := taken_b (a := b) (x := 1) h hs (Or.inr ⟨c2, rfl⟩)
      exact Ok_of (y := y) (by simp [f_11_taken, isIn_t c2, isShelf_eq, c1, y1]) (Ok_of (y := y) (by simp [f_12_taken, isFour_eq, c1, within_t c2, within_f c3, y2]) rfl)
    · by_cases c3 : 0 ≤ b ∧ b ≤ 6
      · obtain ⟨y, y1, y2⟩ := taken_b (a := b) (x := 0) h hs (Or.inl ⟨c3, rfl⟩)
        exact Ok_of (y := y) (by simp [f_11_taken, isIn_f c2, isIn_t c3, isShelf_eq, c1, y1]) (Ok_of (y := y) (by simp [f_12_taken, isFour_eq, c1, within_t c3, y2]) rfl)
      · exact Ok_of (y := -1) (by simp [f_11_taken, isIn_f c2, isIn_f c3, isShelf_eq, c1]) (Ok_of (y := -1) (by simp [f_12_taken, isFour_eq, c1, within_f c2, within_f c3]) rfl)
  · refine Ok_of (y := -1) ?_ (Ok_of (y := -1) (by simp [f_12_taken, isFour_eq, c1]) rfl)
    simp only [f_11_taken, isIn_eq, isShelf_eq, if_neg c1]
    simp
