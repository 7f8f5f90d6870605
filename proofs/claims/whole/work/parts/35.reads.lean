/-! reads: a shop, the trace -/
theorem cnt_of {x : Int32} {m : Nat} (hm : m < 2 ^ 31) (h : 0 ≤ x ∧ x ≤ nI m) : ∃ n : Nat, n ≤ m ∧ x = nI n ∧ nn x = n := by
  obtain ⟨j, hj, rfl⟩ := nI_of (Int32.not_lt.mpr h.1)
  exact ⟨j, (nI_leI hj hm).mp h.2, rfl, nI_clamp hj⟩
theorem rf_58_ : ∀ s, s < 4 → rf 58 s = 105 + s := by decide +kernel
theorem ix_84 (s f : Nat) : (84 + 3 * nI s + nI f : Int32) = nI (84 + 3 * s + f) := by rw [show (84 : Int32) = nI 84 from rfl, show (3 : Int32) = nI 3 from rfl, pk_mul, nI_add, nI_add]
theorem T_shopOf {μ ν : mm} (a b : Int32) (h : Cp μ ν) : Ok (f_11_shopOf 23 a b μ) fun z => Ok (f_12_shopOf 0 a b ν) fun w => z = w := by
  have e10 : ν 1 10 = μ 49 3 := h.1.1 10 (by decide)
  obtain ⟨n, hn, en, nn0⟩ := cnt_of (m := 4) (by decide) h.2.1.2.1.2.2.1
  have v4 := h.1.2.2.2.1
  rw [nn0] at v4
  have em : μ 49 3 = nI n := e10.symm.trans en
  have l10 : ld ν 1 10 = some (nI n) := by rw [← en]; exact ld_nI (k := 10) (by decide) (by decide)
  by_cases c1 : 0 ≤ a ∧ a ≤ nI n - 1
  · by_cases c2 : 0 ≤ b ∧ b ≤ 2
    · obtain ⟨s, hs, rfl⟩ := in_of (by omega) c1
      obtain ⟨f, hf, rfl⟩ := nI_of2 (M := 2) (n := 2) (by decide) (Int32.not_lt.mpr c2.1) c2.2
      have l1 : lda 58 (nI s) = some (105 + s) := by rw [lda_nI (by rw [len_58]; omega) (by decide), rf_58_ s (by omega)]
      have l2 : ld ν 1 (nI (84 + 3 * s + f)) = some (ν 1 (84 + 3 * s + f)) := ld_nI (by rw [len_1]; omega) (by decide)
      have hv : ν 1 (84 + 3 * s + f) = μ (105 + s) f := v4 s f hs (by omega)
      refine Ok_of (y := μ (105 + s) f) ?_ (Ok_of (y := μ (105 + s) f) (by simp [f_12_shopOf, f_12_is, f_12_ofShop, within_eq, rf_0_0, l10, c1, c2, gb_1, ix_84, l2, hv]) rfl)
      have hc : f = 0 ∨ f = 1 ∨ f = 2 := by omega
      rcases hc with rfl | rfl | rfl
      · simp [f_11_shopOf, f_9_hasShop, isIn_eq, rf_23_0, rf_49_9, em, c1, gb_1, l1, nI_0]
      · simp [f_11_shopOf, f_9_hasShop, isIn_eq, rf_23_0, rf_49_9, em, c1, gb_1, l1, show nI 1 = 1 from rfl]
      · simp [f_11_shopOf, f_9_hasShop, isIn_eq, rf_23_0, rf_49_9, em, c1, gb_1, l1, show nI 2 = 2 from rfl]
    · have b0 : ¬ b = 0 := by intro e; exact c2 (by rw [e]; decide)
      have b1 : ¬ b = 1 := by intro e; exact c2 (by rw [e]; decide)
      have b2 : ¬ b = 2 := by intro e; exact c2 (by rw [e]; decide)
      exact Ok_of (y := -1) (by simp [f_11_shopOf, f_9_hasShop, isIn_eq, rf_23_0, em, c1, gb_1, b0, b1, b2]) (Ok_of (y := -1) (by simp [f_12_shopOf, f_12_is, within_eq, rf_0_0, l10, c1, c2, gb_1]) rfl)
  · exact Ok_of (y := -1) (by simp [f_11_shopOf, f_9_hasShop, isIn_eq, rf_23_0, em, c1, gb_0]) (Ok_of (y := -1) (by simp [f_12_shopOf, f_12_is, within_eq, rf_0_0, l10, c1, gb_0]) rfl)
theorem T_trace {μ ν : mm} (a : Int32) (h : Cp μ ν) : Ok (f_11_trace 23 a μ) fun z => Ok (f_12_trace 0 a ν) fun w => z = w := by
  obtain ⟨n, hn, e1, e2, hk⟩ := h.2.2.2.2.2.2.2
  by_cases c1 : 0 ≤ a ∧ a ≤ nI n - 1
  · obtain ⟨j, hj, rfl⟩ := in_of (by omega) c1
    have l1 : ld μ 36 (nI j) = some (μ 36 j) := ld_nI (by rw [len_36]; omega) (by decide)
    have l2 : ld ν 22 (nI j) = some (ν 22 j) := ld_nI (by rw [len_22]; omega) (by decide)
    refine Ok_of (y := μ 36 j) (by simp [f_11_trace, isIn_eq, rf_23_5, rf_35_0, e1, c1, l1]) ?_
    exact Ok_of (y := ν 22 j) (by simp [f_12_trace, within_eq, rf_0_32, e2, c1, l2]) (hk j hj)
  · exact Ok_of (y := -3) (by simp [f_11_trace, isIn_eq, rf_23_5, e1, c1]) (Ok_of (y := -3) (by simp [f_12_trace, within_eq, e2, c1]) rfl)
