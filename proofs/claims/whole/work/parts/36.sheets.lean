/-! sheets -/
theorem rf_41_ : ∀ s, s < 4 → rf 41 s = 42 + s := by decide +kernel
theorem len_42_ : ∀ s, s < 4 → len (42 + s) = 40 := by decide +kernel
theorem ix_40 (s k : Nat) : (40 * nI s + nI k : Int32) = nI (40 * s + k) := by rw [show (40 : Int32) = nI 40 from rfl, pk_mul, nI_add]
theorem T_item {μ ν : mm} (a b i : Int32) (h : Cp μ ν) : Ok (f_11_item 23 a b i μ) fun z => Ok (f_12_item 0 a b i ν) fun w => z = w := by
  have hs0 := h.2.2.2.2.2.1
  by_cases c1 : 0 ≤ a ∧ a ≤ 3
  · by_cases c2 : 0 ≤ b ∧ b ≤ 4
    · obtain ⟨s, hs, rfl⟩ := nI_of2 (M := 3) (n := 3) (by decide) (Int32.not_lt.mpr c1.1) c1.2
      obtain ⟨q1, q2, q3⟩ := hs0 s (by omega)
      have l1 : ld μ 39 (nI s) = some (ν 16 s) := by rw [← q2]; exact ld_nI (by rw [len_39]; omega) (by decide)
      have l2 : ld ν 16 (nI s) = some (ν 16 s) := ld_nI (by rw [len_16]; omega) (by decide)
      by_cases c3 : ν 16 s = b
      · have c0 : 0 ≤ ν 16 s := by rw [c3]; exact c2.1
        have c4 : ¬ b = -1 := by intro e; rw [e] at c2; exact absurd c2.1 (by decide)
        obtain ⟨r1, r2, r3⟩ := q3 c0
        obtain ⟨n, hn, en, -⟩ := cnt_of (m := 40) (by decide) r1
        have l3 : ld μ 40 (nI s) = some (nI n) := by rw [← en, ← r2]; exact ld_nI (by rw [len_40]; omega) (by decide)
        have l4 : ld ν 17 (nI s) = some (nI n) := by rw [← en]; exact ld_nI (by rw [len_17]; omega) (by decide)
        have l5 : lda 41 (nI s) = some (42 + s) := by rw [lda_nI (by rw [len_41]; omega) (by decide), rf_41_ s (by omega)]
        by_cases c5 : 0 ≤ i ∧ i ≤ nI n - 1
        · obtain ⟨k, hk, rfl⟩ := in_of (by omega) c5
          have l6 : ld μ (42 + s) (nI k) = some (ν 18 (40 * s + k)) := by rw [← r3 k (by omega)]; exact ld_nI (by rw [len_42_ s (by omega)]; omega) (by rw [len_42_ s (by omega)]; decide)
          have l7 : ld ν 18 (nI (40 * s + k)) = some (ν 18 (40 * s + k)) := ld_nI (by rw [len_18]; omega) (by decide)
          have c5a : ¬ nI n - 1 < nI k := Int32.not_lt.mpr c5.2
          have d1 : ¬ nI k < 0 := nI_pos (by omega)
          have d2 : ¬ nI n ≤ nI k := nI_ge hk (by omega)
          refine Ok_of (y := ν 18 (40 * s + k)) (by simp [f_11_item, f_11_isSheet, f_11_refuseItems, isIn_eq, c1, c2, gb_1, rf_23_11, rf_23_12, rf_23_13, l1, l3, l5, l6, c3, c4, c5, c5a]) ?_
          exact Ok_of (y := ν 18 (40 * s + k)) (by simp [f_12_item, f_12_isFour, f_12_notThere, within_eq, c1, c2, gb_1, rf_0_26, rf_0_27, rf_0_28, l2, l4, l7, c3, c2.1, d1, d2, ix_40]) rfl
        · have c5b : 0 ≤ i → nI n - 1 < i := fun q => Int32.not_le.mp (fun z => c5 ⟨q, z⟩)
          refine Ok_of (y := -12) (by simp [f_11_item, f_11_isSheet, f_11_refuseItems, isIn_eq, c1, c2, gb_1, rf_23_11, rf_23_12, rf_23_13, l1, l3, c3, c4]; rw [if_pos c5b]; simp) ?_
          refine Ok_of (y := -12) ?_ rfl
          by_cases d1 : i < 0
          · simp [f_12_item, f_12_isFour, f_12_notThere, within_eq, c1, c2, gb_1, rf_0_26, rf_0_27, rf_0_28, l2, l4, c3, c2.1, d1]
          · have d2 : nI n ≤ i := by
              obtain ⟨j, hj, rfl⟩ := nI_of d1
              rw [nI_leI (by omega) hj]
              apply Nat.le_of_not_lt
              intro q
              exact c5 (of_in (by omega) q)
            simp [f_12_item, f_12_isFour, f_12_notThere, within_eq, c1, c2, gb_1, rf_0_26, rf_0_27, rf_0_28, l2, l4, c3, c2.1, d1, d2]
      · by_cases c0 : 0 ≤ ν 16 s
        · have c4 : ¬ ν 16 s = -1 := by intro e; rw [e] at c0; exact absurd c0 (by decide)
          exact Ok_of (y := -13) (by simp [f_11_item, f_11_isSheet, f_11_refuseItems, isIn_eq, c1, c2, gb_1, rf_23_11, l1, c3, c4]) (Ok_of (y := -13) (by simp [f_12_item, f_12_isFour, f_12_notThere, within_eq, c1, c2, gb_1, rf_0_26, l2, c3, c0]) rfl)
        · have c4 : ν 16 s = -1 := by grind
          exact Ok_of (y := -11) (by simp [f_11_item, f_11_isSheet, f_11_refuseItems, isIn_eq, c1, c2, gb_1, rf_23_11, l1, c4]) (Ok_of (y := -11) (by simp [f_12_item, f_12_isFour, f_12_notThere, within_eq, c1, c2, gb_1, rf_0_26, l2, c4]) rfl)
    · exact Ok_of (y := -1) (by simp [f_11_item, f_11_isSheet, isIn_eq, c1, c2, gb_1]) (Ok_of (y := -1) (by simp [f_12_item, f_12_isFour, within_eq, c1, c2, gb_1]) rfl)
  · exact Ok_of (y := -1) (by simp [f_11_item, f_11_isSheet, isIn_eq, c1, gb_0]) (Ok_of (y := -1) (by simp [f_12_item, f_12_isFour, within_eq, c1, gb_0]) rfl)
