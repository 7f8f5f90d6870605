/-! what a method leaves alone -/
def Fc (μ μ' : mm) : Prop := ∀ b, b < 23 → μ' b = μ b
def Fm (μ μ' : mm) : Prop := ∀ b, 23 ≤ b → μ' b = μ b
def Fl (a : Nat) (μ μ' : mm) : Prop := ∀ b, b ≠ a → μ' b = μ b
theorem Fc_rf {μ : mm} : Fc μ μ := fun _ _ => rfl
theorem Fm_rf {μ : mm} : Fm μ μ := fun _ _ => rfl
theorem Fl_rf {a : Nat} {μ : mm} : Fl a μ μ := fun _ _ => rfl
theorem Fc_tr {a b c : mm} (h : Fc a b) (k : Fc b c) : Fc a c := fun q hq => (k q hq).trans (h q hq)
theorem Fm_tr {a b c : mm} (h : Fm a b) (k : Fm b c) : Fm a c := fun q hq => (k q hq).trans (h q hq)
theorem Fl_tr {x : Nat} {a b c : mm} (h : Fl x a b) (k : Fl x b c) : Fl x a c := fun q hq => (k q hq).trans (h q hq)
theorem pf_ne {μ μ' : mm} {a k b : Nat} {v : Int32} (h : pf μ a k v = some μ') (hb : b ≠ a) : μ' b = μ b := by
  cases h
  exact up_ne hb
theorem sto_ne {μ μ' : mm} {a b : Nat} {i v : Int32} (h : sto μ a i v = some μ') (hb : b ≠ a) : μ' b = μ b := by
  obtain ⟨-, rfl⟩ := sto_el h
  exact up_ne hb
theorem cpo_ne {μ μ' : mm} {s t b : Nat} {sp dp n : Int32} (h : cpo μ s sp t dp n = some μ') (hb : b ≠ t) : μ' b = μ b := by
  unfold cpo at h
  split at h
  · cases h
  · cases h
    exact cpM_ne hb
theorem cpz_ne {μ μ' : mm} {s t b : Nat} {sp dp n : Int32} (h : cpz μ s sp t dp n = some μ') (hb : b ≠ t) : μ' b = μ b := by
  unfold cpz at h
  split at h
  · exact cpo_ne h hb
  · cases h
theorem Fl_sto {μ μ' : mm} {a : Nat} {i v : Int32} (h : sto μ a i v = some μ') : Fl a μ μ' := fun _ hb => sto_ne h hb
theorem Fc_of_l {μ μ' : mm} {a : Nat} (ha : 23 ≤ a) (h : Fl a μ μ') : Fc μ μ' := fun b hb => h b (by omega)
theorem Fm_of_l {μ μ' : mm} {a : Nat} (ha : a < 23) (h : Fl a μ μ') : Fm μ μ' := fun b hb => h b (by omega)
theorem Fc_pf {μ μ' : mm} {a k : Nat} {v : Int32} (ha : 23 ≤ a) (h : pf μ a k v = some μ') : Fc μ μ' := fun b hb => pf_ne h (by omega)
theorem Fm_pf {μ μ' : mm} {a k : Nat} {v : Int32} (ha : a < 23) (h : pf μ a k v = some μ') : Fm μ μ' := fun b hb => pf_ne h (by omega)
theorem Fc_sto {μ μ' : mm} {a : Nat} {i v : Int32} (ha : 23 ≤ a) (h : sto μ a i v = some μ') : Fc μ μ' := fun b hb => sto_ne h (by omega)
theorem Fm_sto {μ μ' : mm} {a : Nat} {i v : Int32} (ha : a < 23) (h : sto μ a i v = some μ') : Fm μ μ' := fun b hb => sto_ne h (by omega)
theorem Fc_cpo {μ μ' : mm} {s t : Nat} {sp dp n : Int32} (ha : 23 ≤ t) (h : cpo μ s sp t dp n = some μ') : Fc μ μ' := fun b hb => cpo_ne h (by omega)
theorem Fc_cpz {μ μ' : mm} {s t : Nat} {sp dp n : Int32} (ha : 23 ≤ t) (h : cpz μ s sp t dp n = some μ') : Fc μ μ' := fun b hb => cpz_ne h (by omega)
theorem ow_kd_0_b : ∀ a, a < 331 → kd a = 0 → 23 ≤ a := by decide +kernel
theorem ow_kd_0 {a : Nat} (h : kd a = 0) : 23 ≤ a := ow_kd_0_b a (kd_lt h (by decide)) h
theorem ow_kd_1_b : ∀ a, a < 331 → kd a = 1 → 23 ≤ a := by decide +kernel
theorem ow_kd_1 {a : Nat} (h : kd a = 1) : 23 ≤ a := ow_kd_1_b a (kd_lt h (by decide)) h
theorem ow_kd_2_b : ∀ a, a < 331 → kd a = 2 → 23 ≤ a := by decide +kernel
theorem ow_kd_2 {a : Nat} (h : kd a = 2) : 23 ≤ a := ow_kd_2_b a (kd_lt h (by decide)) h
theorem ow_kd_3_b : ∀ a, a < 331 → kd a = 3 → 23 ≤ a := by decide +kernel
theorem ow_kd_3 {a : Nat} (h : kd a = 3) : 23 ≤ a := ow_kd_3_b a (kd_lt h (by decide)) h
theorem ow_kd_4_b : ∀ a, a < 331 → kd a = 4 → 23 ≤ a := by decide +kernel
theorem ow_kd_4 {a : Nat} (h : kd a = 4) : 23 ≤ a := ow_kd_4_b a (kd_lt h (by decide)) h
theorem ow_kd_5_b : ∀ a, a < 331 → kd a = 5 → 23 ≤ a := by decide +kernel
theorem ow_kd_5 {a : Nat} (h : kd a = 5) : 23 ≤ a := ow_kd_5_b a (kd_lt h (by decide)) h
theorem ow_kd_6_b : ∀ a, a < 331 → kd a = 6 → 23 ≤ a := by decide +kernel
theorem ow_kd_6 {a : Nat} (h : kd a = 6) : 23 ≤ a := ow_kd_6_b a (kd_lt h (by decide)) h
theorem ow_kd_7_b : ∀ a, a < 331 → kd a = 7 → 23 ≤ a := by decide +kernel
theorem ow_kd_7 {a : Nat} (h : kd a = 7) : 23 ≤ a := ow_kd_7_b a (kd_lt h (by decide)) h
theorem ow_kd_8_b : ∀ a, a < 331 → kd a = 8 → 23 ≤ a := by decide +kernel
theorem ow_kd_8 {a : Nat} (h : kd a = 8) : 23 ≤ a := ow_kd_8_b a (kd_lt h (by decide)) h
theorem ow_kd_9_b : ∀ a, a < 331 → kd a = 9 → 23 ≤ a := by decide +kernel
theorem ow_kd_9 {a : Nat} (h : kd a = 9) : 23 ≤ a := ow_kd_9_b a (kd_lt h (by decide)) h
theorem ow_kd_10_b : ∀ a, a < 331 → kd a = 10 → 23 ≤ a := by decide +kernel
theorem ow_kd_10 {a : Nat} (h : kd a = 10) : 23 ≤ a := ow_kd_10_b a (kd_lt h (by decide)) h
theorem ow_kd_11_b : ∀ a, a < 331 → kd a = 11 → 23 ≤ a := by decide +kernel
theorem ow_kd_11 {a : Nat} (h : kd a = 11) : 23 ≤ a := ow_kd_11_b a (kd_lt h (by decide)) h
theorem ow_kd_23_b : ∀ a, a < 331 → kd a = 23 → 23 ≤ a := by decide +kernel
theorem ow_kd_23 {a : Nat} (h : kd a = 23) : 23 ≤ a := ow_kd_23_b a (kd_lt h (by decide)) h
theorem ow_kd_24_b : ∀ a, a < 331 → kd a = 24 → 23 ≤ a := by decide +kernel
theorem ow_kd_24 {a : Nat} (h : kd a = 24) : 23 ≤ a := ow_kd_24_b a (kd_lt h (by decide)) h
theorem ow_kd_25_b : ∀ a, a < 331 → kd a = 25 → 23 ≤ a := by decide +kernel
theorem ow_kd_25 {a : Nat} (h : kd a = 25) : 23 ≤ a := ow_kd_25_b a (kd_lt h (by decide)) h
theorem ow_kd_26_b : ∀ a, a < 331 → kd a = 26 → 23 ≤ a := by decide +kernel
theorem ow_kd_26 {a : Nat} (h : kd a = 26) : 23 ≤ a := ow_kd_26_b a (kd_lt h (by decide)) h
theorem ow_kd_27_b : ∀ a, a < 331 → kd a = 27 → 23 ≤ a := by decide +kernel
theorem ow_kd_27 {a : Nat} (h : kd a = 27) : 23 ≤ a := ow_kd_27_b a (kd_lt h (by decide)) h
theorem ow_0_0_b : ∀ a, a < 331 → kd a = 0 → 23 ≤ rf a 0 := by decide +kernel
theorem ow_0_0 {a : Nat} (h : kd a = 0) : 23 ≤ rf a 0 := ow_0_0_b a (kd_lt h (by decide)) h
theorem ow_2_1_b : ∀ a, a < 331 → kd a = 2 → 23 ≤ rf a 1 := by decide +kernel
theorem ow_2_1 {a : Nat} (h : kd a = 2) : 23 ≤ rf a 1 := ow_2_1_b a (kd_lt h (by decide)) h
theorem ow_2_5_b : ∀ a, a < 331 → kd a = 2 → 23 ≤ rf a 5 := by decide +kernel
theorem ow_2_5 {a : Nat} (h : kd a = 2) : 23 ≤ rf a 5 := ow_2_5_b a (kd_lt h (by decide)) h
theorem ow_3_3_b : ∀ a, a < 331 → kd a = 3 → 23 ≤ rf a 3 := by decide +kernel
theorem ow_3_3 {a : Nat} (h : kd a = 3) : 23 ≤ rf a 3 := ow_3_3_b a (kd_lt h (by decide)) h
theorem ow_3_4_b : ∀ a, a < 331 → kd a = 3 → 23 ≤ rf a 4 := by decide +kernel
theorem ow_3_4 {a : Nat} (h : kd a = 3) : 23 ≤ rf a 4 := ow_3_4_b a (kd_lt h (by decide)) h
theorem ow_3_5_b : ∀ a, a < 331 → kd a = 3 → 23 ≤ rf a 5 := by decide +kernel
theorem ow_3_5 {a : Nat} (h : kd a = 3) : 23 ≤ rf a 5 := ow_3_5_b a (kd_lt h (by decide)) h
theorem ow_5_1_b : ∀ a, a < 331 → kd a = 5 → 23 ≤ rf a 1 := by decide +kernel
theorem ow_5_1 {a : Nat} (h : kd a = 5) : 23 ≤ rf a 1 := ow_5_1_b a (kd_lt h (by decide)) h
theorem ow_5_2_b : ∀ a, a < 331 → kd a = 5 → 23 ≤ rf a 2 := by decide +kernel
theorem ow_5_2 {a : Nat} (h : kd a = 5) : 23 ≤ rf a 2 := ow_5_2_b a (kd_lt h (by decide)) h
theorem ow_5_3_b : ∀ a, a < 331 → kd a = 5 → 23 ≤ rf a 3 := by decide +kernel
theorem ow_5_3 {a : Nat} (h : kd a = 5) : 23 ≤ rf a 3 := ow_5_3_b a (kd_lt h (by decide)) h
theorem ow_5_4_b : ∀ a, a < 331 → kd a = 5 → 23 ≤ rf a 4 := by decide +kernel
theorem ow_5_4 {a : Nat} (h : kd a = 5) : 23 ≤ rf a 4 := ow_5_4_b a (kd_lt h (by decide)) h
theorem ow_5_6_b : ∀ a, a < 331 → kd a = 5 → 23 ≤ rf a 6 := by decide +kernel
theorem ow_5_6 {a : Nat} (h : kd a = 5) : 23 ≤ rf a 6 := ow_5_6_b a (kd_lt h (by decide)) h
theorem ow_7_1_b : ∀ a, a < 331 → kd a = 7 → 23 ≤ rf a 1 := by decide +kernel
theorem ow_7_1 {a : Nat} (h : kd a = 7) : 23 ≤ rf a 1 := ow_7_1_b a (kd_lt h (by decide)) h
theorem ow_7_2_b : ∀ a, a < 331 → kd a = 7 → 23 ≤ rf a 2 := by decide +kernel
theorem ow_7_2 {a : Nat} (h : kd a = 7) : 23 ≤ rf a 2 := ow_7_2_b a (kd_lt h (by decide)) h
theorem ow_7_3_b : ∀ a, a < 331 → kd a = 7 → 23 ≤ rf a 3 := by decide +kernel
theorem ow_7_3 {a : Nat} (h : kd a = 7) : 23 ≤ rf a 3 := ow_7_3_b a (kd_lt h (by decide)) h
theorem ow_7_5_b : ∀ a, a < 331 → kd a = 7 → 23 ≤ rf a 5 := by decide +kernel
theorem ow_7_5 {a : Nat} (h : kd a = 7) : 23 ≤ rf a 5 := ow_7_5_b a (kd_lt h (by decide)) h
theorem ow_7_6_b : ∀ a, a < 331 → kd a = 7 → 23 ≤ rf a 6 := by decide +kernel
theorem ow_7_6 {a : Nat} (h : kd a = 7) : 23 ≤ rf a 6 := ow_7_6_b a (kd_lt h (by decide)) h
theorem ow_7_7_b : ∀ a, a < 331 → kd a = 7 → 23 ≤ rf a 7 := by decide +kernel
theorem ow_7_7 {a : Nat} (h : kd a = 7) : 23 ≤ rf a 7 := ow_7_7_b a (kd_lt h (by decide)) h
theorem ow_8_0_b : ∀ a, a < 331 → kd a = 8 → 23 ≤ rf a 0 := by decide +kernel
theorem ow_8_0 {a : Nat} (h : kd a = 8) : 23 ≤ rf a 0 := ow_8_0_b a (kd_lt h (by decide)) h
theorem ow_8_3_b : ∀ a, a < 331 → kd a = 8 → 23 ≤ rf a 3 := by decide +kernel
theorem ow_8_3 {a : Nat} (h : kd a = 8) : 23 ≤ rf a 3 := ow_8_3_b a (kd_lt h (by decide)) h
theorem ow_8_4_b : ∀ a, a < 331 → kd a = 8 → 23 ≤ rf a 4 := by decide +kernel
theorem ow_8_4 {a : Nat} (h : kd a = 8) : 23 ≤ rf a 4 := ow_8_4_b a (kd_lt h (by decide)) h
theorem ow_8_5_b : ∀ a, a < 331 → kd a = 8 → 23 ≤ rf a 5 := by decide +kernel
theorem ow_8_5 {a : Nat} (h : kd a = 8) : 23 ≤ rf a 5 := ow_8_5_b a (kd_lt h (by decide)) h
theorem ow_9_16_b : ∀ a, a < 331 → kd a = 9 → 23 ≤ rf a 16 := by decide +kernel
theorem ow_9_16 {a : Nat} (h : kd a = 9) : 23 ≤ rf a 16 := ow_9_16_b a (kd_lt h (by decide)) h
theorem ow_9_17_b : ∀ a, a < 331 → kd a = 9 → 23 ≤ rf a 17 := by decide +kernel
theorem ow_9_17 {a : Nat} (h : kd a = 9) : 23 ≤ rf a 17 := ow_9_17_b a (kd_lt h (by decide)) h
theorem ow_9_18_b : ∀ a, a < 331 → kd a = 9 → 23 ≤ rf a 18 := by decide +kernel
theorem ow_9_18 {a : Nat} (h : kd a = 9) : 23 ≤ rf a 18 := ow_9_18_b a (kd_lt h (by decide)) h
theorem ow_10_3_b : ∀ a, a < 331 → kd a = 10 → 23 ≤ rf a 3 := by decide +kernel
theorem ow_10_3 {a : Nat} (h : kd a = 10) : 23 ≤ rf a 3 := ow_10_3_b a (kd_lt h (by decide)) h
theorem ow_10_4_b : ∀ a, a < 331 → kd a = 10 → 23 ≤ rf a 4 := by decide +kernel
theorem ow_10_4 {a : Nat} (h : kd a = 10) : 23 ≤ rf a 4 := ow_10_4_b a (kd_lt h (by decide)) h
theorem ow_11_6_b : ∀ a, a < 331 → kd a = 11 → 23 ≤ rf a 6 := by decide +kernel
theorem ow_11_6 {a : Nat} (h : kd a = 11) : 23 ≤ rf a 6 := ow_11_6_b a (kd_lt h (by decide)) h
theorem ow_11_7_b : ∀ a, a < 331 → kd a = 11 → 23 ≤ rf a 7 := by decide +kernel
theorem ow_11_7 {a : Nat} (h : kd a = 11) : 23 ≤ rf a 7 := ow_11_7_b a (kd_lt h (by decide)) h
theorem ow_11_11_b : ∀ a, a < 331 → kd a = 11 → 23 ≤ rf a 11 := by decide +kernel
theorem ow_11_11 {a : Nat} (h : kd a = 11) : 23 ≤ rf a 11 := ow_11_11_b a (kd_lt h (by decide)) h
theorem ow_11_12_b : ∀ a, a < 331 → kd a = 11 → 23 ≤ rf a 12 := by decide +kernel
theorem ow_11_12 {a : Nat} (h : kd a = 11) : 23 ≤ rf a 12 := ow_11_12_b a (kd_lt h (by decide)) h
theorem ow_11_14_b : ∀ a, a < 331 → kd a = 11 → 23 ≤ rf a 14 := by decide +kernel
theorem ow_11_14 {a : Nat} (h : kd a = 11) : 23 ≤ rf a 14 := ow_11_14_b a (kd_lt h (by decide)) h
theorem ow_11_15_b : ∀ a, a < 331 → kd a = 11 → 23 ≤ rf a 15 := by decide +kernel
theorem ow_11_15 {a : Nat} (h : kd a = 11) : 23 ≤ rf a 15 := ow_11_15_b a (kd_lt h (by decide)) h
theorem ow_11_16_b : ∀ a, a < 331 → kd a = 11 → 23 ≤ rf a 16 := by decide +kernel
theorem ow_11_16 {a : Nat} (h : kd a = 11) : 23 ≤ rf a 16 := ow_11_16_b a (kd_lt h (by decide)) h
theorem ow_l_b : ∀ a, a < 331 → kd a = 23 → ∀ i, i < len a → 23 ≤ rf a i := by decide +kernel
theorem ow_l {a b : Nat} {i : Int32} (h : lda a i = some b) (ha : kd a = 23) : 23 ≤ b := by
  obtain ⟨j, hj, rfl⟩ := lda_lt h
  exact ow_l_b a (kd_lt ha (by decide)) ha j hj
theorem mo_kd_b : ∀ a, a < 331 → kd a = 12 → a < 23 := by decide +kernel
theorem mo_kd {a : Nat} (h : kd a = 12) : a < 23 := mo_kd_b a (kd_lt h (by decide)) h
theorem mo_0_b : ∀ a, a < 331 → kd a = 12 → rf a 0 < 23 := by decide +kernel
theorem mo_0 {a : Nat} (h : kd a = 12) : rf a 0 < 23 := mo_0_b a (kd_lt h (by decide)) h
theorem mo_1_b : ∀ a, a < 331 → kd a = 12 → rf a 1 < 23 := by decide +kernel
theorem mo_1 {a : Nat} (h : kd a = 12) : rf a 1 < 23 := mo_1_b a (kd_lt h (by decide)) h
theorem mo_2_b : ∀ a, a < 331 → kd a = 12 → rf a 2 < 23 := by decide +kernel
theorem mo_2 {a : Nat} (h : kd a = 12) : rf a 2 < 23 := mo_2_b a (kd_lt h (by decide)) h
theorem mo_4_b : ∀ a, a < 331 → kd a = 12 → rf a 4 < 23 := by decide +kernel
theorem mo_4 {a : Nat} (h : kd a = 12) : rf a 4 < 23 := mo_4_b a (kd_lt h (by decide)) h
theorem mo_6_b : ∀ a, a < 331 → kd a = 12 → rf a 6 < 23 := by decide +kernel
theorem mo_6 {a : Nat} (h : kd a = 12) : rf a 6 < 23 := mo_6_b a (kd_lt h (by decide)) h
theorem mo_7_b : ∀ a, a < 331 → kd a = 12 → rf a 7 < 23 := by decide +kernel
theorem mo_7 {a : Nat} (h : kd a = 12) : rf a 7 < 23 := mo_7_b a (kd_lt h (by decide)) h
theorem mo_17_b : ∀ a, a < 331 → kd a = 12 → rf a 17 < 23 := by decide +kernel
theorem mo_17 {a : Nat} (h : kd a = 12) : rf a 17 < 23 := mo_17_b a (kd_lt h (by decide)) h
theorem mo_18_b : ∀ a, a < 331 → kd a = 12 → rf a 18 < 23 := by decide +kernel
theorem mo_18 {a : Nat} (h : kd a = 12) : rf a 18 < 23 := mo_18_b a (kd_lt h (by decide)) h
theorem mo_19_b : ∀ a, a < 331 → kd a = 12 → rf a 19 < 23 := by decide +kernel
theorem mo_19 {a : Nat} (h : kd a = 12) : rf a 19 < 23 := mo_19_b a (kd_lt h (by decide)) h
theorem mo_20_b : ∀ a, a < 331 → kd a = 12 → rf a 20 < 23 := by decide +kernel
theorem mo_20 {a : Nat} (h : kd a = 12) : rf a 20 < 23 := mo_20_b a (kd_lt h (by decide)) h
theorem mo_21_b : ∀ a, a < 331 → kd a = 12 → rf a 21 < 23 := by decide +kernel
theorem mo_21 {a : Nat} (h : kd a = 12) : rf a 21 < 23 := mo_21_b a (kd_lt h (by decide)) h
theorem mo_22_b : ∀ a, a < 331 → kd a = 12 → rf a 22 < 23 := by decide +kernel
theorem mo_22 {a : Nat} (h : kd a = 12) : rf a 22 < 23 := mo_22_b a (kd_lt h (by decide)) h
theorem mo_23_b : ∀ a, a < 331 → kd a = 12 → rf a 23 < 23 := by decide +kernel
theorem mo_23 {a : Nat} (h : kd a = 12) : rf a 23 < 23 := mo_23_b a (kd_lt h (by decide)) h
theorem mo_24_b : ∀ a, a < 331 → kd a = 12 → rf a 24 < 23 := by decide +kernel
theorem mo_24 {a : Nat} (h : kd a = 12) : rf a 24 < 23 := mo_24_b a (kd_lt h (by decide)) h
theorem mo_25_b : ∀ a, a < 331 → kd a = 12 → rf a 25 < 23 := by decide +kernel
theorem mo_25 {a : Nat} (h : kd a = 12) : rf a 25 < 23 := mo_25_b a (kd_lt h (by decide)) h
theorem mo_26_b : ∀ a, a < 331 → kd a = 12 → rf a 26 < 23 := by decide +kernel
theorem mo_26 {a : Nat} (h : kd a = 12) : rf a 26 < 23 := mo_26_b a (kd_lt h (by decide)) h
theorem mo_27_b : ∀ a, a < 331 → kd a = 12 → rf a 27 < 23 := by decide +kernel
theorem mo_27 {a : Nat} (h : kd a = 12) : rf a 27 < 23 := mo_27_b a (kd_lt h (by decide)) h
theorem mo_28_b : ∀ a, a < 331 → kd a = 12 → rf a 28 < 23 := by decide +kernel
theorem mo_28 {a : Nat} (h : kd a = 12) : rf a 28 < 23 := mo_28_b a (kd_lt h (by decide)) h
theorem mo_29_b : ∀ a, a < 331 → kd a = 12 → rf a 29 < 23 := by decide +kernel
theorem mo_29 {a : Nat} (h : kd a = 12) : rf a 29 < 23 := mo_29_b a (kd_lt h (by decide)) h
theorem mo_30_b : ∀ a, a < 331 → kd a = 12 → rf a 30 < 23 := by decide +kernel
theorem mo_30 {a : Nat} (h : kd a = 12) : rf a 30 < 23 := mo_30_b a (kd_lt h (by decide)) h
theorem mo_31_b : ∀ a, a < 331 → kd a = 12 → rf a 31 < 23 := by decide +kernel
theorem mo_31 {a : Nat} (h : kd a = 12) : rf a 31 < 23 := mo_31_b a (kd_lt h (by decide)) h
theorem mo_32_b : ∀ a, a < 331 → kd a = 12 → rf a 32 < 23 := by decide +kernel
theorem mo_32 {a : Nat} (h : kd a = 12) : rf a 32 < 23 := mo_32_b a (kd_lt h (by decide)) h
