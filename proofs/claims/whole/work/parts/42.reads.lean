/-! any of the three valleys: its cells -/
def isV (v : Nat) : Prop := v = 49 ∨ v = 143 ∨ v = 237
theorem isV_now : isV 49 := Or.inl rfl
theorem isV_im : isV 237 := Or.inr (Or.inr rfl)
theorem isV_kp : isV 143 := Or.inr (Or.inl rfl)
theorem rV_0_7 {v : Nat} (hv : isV v) : rf v 7 = v + 1 := by rcases hv with rfl | rfl | rfl <;> decide
theorem rV_0_8 {v : Nat} (hv : isV v) : rf v 8 = v + 8 := by rcases hv with rfl | rfl | rfl <;> decide
theorem rV_0_9 {v : Nat} (hv : isV v) : rf v 9 = v + 9 := by rcases hv with rfl | rfl | rfl <;> decide
theorem rV_0_10 {v : Nat} (hv : isV v) : rf v 10 = v + 10 := by rcases hv with rfl | rfl | rfl <;> decide
theorem rV_0_11 {v : Nat} (hv : isV v) : rf v 11 = v + 11 := by rcases hv with rfl | rfl | rfl <;> decide
theorem rV_0_12 {v : Nat} (hv : isV v) : rf v 12 = v + 12 := by rcases hv with rfl | rfl | rfl <;> decide
theorem rV_0_13 {v : Nat} (hv : isV v) : rf v 13 = v + 15 := by rcases hv with rfl | rfl | rfl <;> decide
theorem rV_0_14 {v : Nat} (hv : isV v) : rf v 14 = v + 22 := by rcases hv with rfl | rfl | rfl <;> decide
theorem rV_0_15 {v : Nat} (hv : isV v) : rf v 15 = v + 36 := by rcases hv with rfl | rfl | rfl <;> decide
theorem rV_0_16 {v : Nat} (hv : isV v) : rf v 16 = v + 49 := by rcases hv with rfl | rfl | rfl <;> decide
theorem rV_0_17 {v : Nat} (hv : isV v) : rf v 17 = v + 50 := by rcases hv with rfl | rfl | rfl <;> decide
theorem rV_0_18 {v : Nat} (hv : isV v) : rf v 18 = v + 51 := by rcases hv with rfl | rfl | rfl <;> decide
theorem rV_12_3 {v : Nat} (hv : isV v) : rf (v + 12) 3 = v + 13 := by rcases hv with rfl | rfl | rfl <;> decide
theorem rV_12_4 {v : Nat} (hv : isV v) : rf (v + 12) 4 = v + 14 := by rcases hv with rfl | rfl | rfl <;> decide
theorem rV_15_1 {v : Nat} (hv : isV v) : rf (v + 15) 1 = v + 16 := by rcases hv with rfl | rfl | rfl <;> decide
theorem rV_15_2 {v : Nat} (hv : isV v) : rf (v + 15) 2 = v + 17 := by rcases hv with rfl | rfl | rfl <;> decide
theorem rV_15_3 {v : Nat} (hv : isV v) : rf (v + 15) 3 = v + 18 := by rcases hv with rfl | rfl | rfl <;> decide
theorem rV_15_5 {v : Nat} (hv : isV v) : rf (v + 15) 5 = v + 19 := by rcases hv with rfl | rfl | rfl <;> decide
theorem rV_15_6 {v : Nat} (hv : isV v) : rf (v + 15) 6 = v + 20 := by rcases hv with rfl | rfl | rfl <;> decide
theorem rV_15_7 {v : Nat} (hv : isV v) : rf (v + 15) 7 = v + 21 := by rcases hv with rfl | rfl | rfl <;> decide
theorem rV_22_3 {v : Nat} (hv : isV v) : rf (v + 22) 3 = v + 23 := by rcases hv with rfl | rfl | rfl <;> decide
theorem rV_22_4 {v : Nat} (hv : isV v) : rf (v + 22) 4 = v + 24 := by rcases hv with rfl | rfl | rfl <;> decide
theorem rV_22_5 {v : Nat} (hv : isV v) : rf (v + 22) 5 = v + 25 := by rcases hv with rfl | rfl | rfl <;> decide
theorem rV_22_6 {v : Nat} (hv : isV v) : rf (v + 22) 6 = v + 26 := by rcases hv with rfl | rfl | rfl <;> decide
theorem rV_36_1 {v : Nat} (hv : isV v) : rf (v + 36) 1 = v + 37 := by rcases hv with rfl | rfl | rfl <;> decide
theorem rV_36_2 {v : Nat} (hv : isV v) : rf (v + 36) 2 = v + 38 := by rcases hv with rfl | rfl | rfl <;> decide
theorem rV_36_5 {v : Nat} (hv : isV v) : rf (v + 36) 5 = v + 48 := by rcases hv with rfl | rfl | rfl <;> decide
theorem rR_1 {v s : Nat} (hv : isV v) (hs : s < 3) : rf (v + 76 + 6 * s) 1 = v + 77 + 6 * s := by
  revert s
  rcases hv with rfl | rfl | rfl <;> decide
theorem rR_2 {v s : Nat} (hv : isV v) (hs : s < 3) : rf (v + 76 + 6 * s) 2 = v + 78 + 6 * s := by
  revert s
  rcases hv with rfl | rfl | rfl <;> decide
theorem rR_3 {v s : Nat} (hv : isV v) (hs : s < 3) : rf (v + 76 + 6 * s) 3 = v + 79 + 6 * s := by
  revert s
  rcases hv with rfl | rfl | rfl <;> decide
theorem rR_4 {v s : Nat} (hv : isV v) (hs : s < 3) : rf (v + 76 + 6 * s) 4 = v + 80 + 6 * s := by
  revert s
  rcases hv with rfl | rfl | rfl <;> decide
theorem rR_6 {v s : Nat} (hv : isV v) (hs : s < 3) : rf (v + 76 + 6 * s) 6 = v + 81 + 6 * s := by
  revert s
  rcases hv with rfl | rfl | rfl <;> decide
theorem lV_1 {v : Nat} (hv : isV v) : len (v + 1) = 6 := by rcases hv with rfl | rfl | rfl <;> decide
theorem lV_8 {v : Nat} (hv : isV v) : len (v + 8) = 4 := by rcases hv with rfl | rfl | rfl <;> decide
theorem lV_9 {v : Nat} (hv : isV v) : len (v + 9) = 4 := by rcases hv with rfl | rfl | rfl <;> decide
theorem lV_10 {v : Nat} (hv : isV v) : len (v + 10) = 16 := by rcases hv with rfl | rfl | rfl <;> decide
theorem lV_11 {v : Nat} (hv : isV v) : len (v + 11) = 3 := by rcases hv with rfl | rfl | rfl <;> decide
theorem lV_13 {v : Nat} (hv : isV v) : len (v + 13) = 6 := by rcases hv with rfl | rfl | rfl <;> decide
theorem lV_14 {v : Nat} (hv : isV v) : len (v + 14) = 6 := by rcases hv with rfl | rfl | rfl <;> decide
theorem lV_16 {v : Nat} (hv : isV v) : len (v + 16) = 12 := by rcases hv with rfl | rfl | rfl <;> decide
theorem lV_17 {v : Nat} (hv : isV v) : len (v + 17) = 12 := by rcases hv with rfl | rfl | rfl <;> decide
theorem lV_18 {v : Nat} (hv : isV v) : len (v + 18) = 12 := by rcases hv with rfl | rfl | rfl <;> decide
theorem lV_19 {v : Nat} (hv : isV v) : len (v + 19) = 12 := by rcases hv with rfl | rfl | rfl <;> decide
theorem lV_20 {v : Nat} (hv : isV v) : len (v + 20) = 12 := by rcases hv with rfl | rfl | rfl <;> decide
theorem lV_21 {v : Nat} (hv : isV v) : len (v + 21) = 12 := by rcases hv with rfl | rfl | rfl <;> decide
theorem lV_23 {v : Nat} (hv : isV v) : len (v + 23) = 4 := by rcases hv with rfl | rfl | rfl <;> decide
theorem lV_24 {v : Nat} (hv : isV v) : len (v + 24) = 8 := by rcases hv with rfl | rfl | rfl <;> decide
theorem lV_25 {v : Nat} (hv : isV v) : len (v + 25) = 8 := by rcases hv with rfl | rfl | rfl <;> decide
theorem lV_26 {v : Nat} (hv : isV v) : len (v + 26) = 9 := by rcases hv with rfl | rfl | rfl <;> decide
theorem lV_37 {v : Nat} (hv : isV v) : len (v + 37) = 9 := by rcases hv with rfl | rfl | rfl <;> decide
theorem lV_38 {v : Nat} (hv : isV v) : len (v + 38) = 9 := by rcases hv with rfl | rfl | rfl <;> decide
theorem lV_48 {v : Nat} (hv : isV v) : len (v + 48) = 4 := by rcases hv with rfl | rfl | rfl <;> decide
theorem lV_49 {v : Nat} (hv : isV v) : len (v + 49) = 16 := by rcases hv with rfl | rfl | rfl <;> decide
theorem lV_50 {v : Nat} (hv : isV v) : len (v + 50) = 16 := by rcases hv with rfl | rfl | rfl <;> decide
theorem lV_51 {v : Nat} (hv : isV v) : len (v + 51) = 16 := by rcases hv with rfl | rfl | rfl <;> decide
theorem lV_2 {v s : Nat} (hv : isV v) (hs : s < 6) : len (v + 2 + s) = 6 := by
  revert s
  rcases hv with rfl | rfl | rfl <;> decide
theorem lV_27 {v s : Nat} (hv : isV v) (hs : s < 9) : len (v + 27 + s) = 16 := by
  revert s
  rcases hv with rfl | rfl | rfl <;> decide
theorem lV_39 {v s : Nat} (hv : isV v) (hs : s < 9) : len (v + 39 + s) = 4 := by
  revert s
  rcases hv with rfl | rfl | rfl <;> decide
theorem lR_77 {v s : Nat} (hv : isV v) (hs : s < 3) : len (v + 77 + 6 * s) = 10 := by
  revert s
  rcases hv with rfl | rfl | rfl <;> decide
theorem lR_78 {v s : Nat} (hv : isV v) (hs : s < 3) : len (v + 78 + 6 * s) = 10 := by
  revert s
  rcases hv with rfl | rfl | rfl <;> decide
theorem lR_79 {v s : Nat} (hv : isV v) (hs : s < 3) : len (v + 79 + 6 * s) = 10 := by
  revert s
  rcases hv with rfl | rfl | rfl <;> decide
theorem lR_80 {v s : Nat} (hv : isV v) (hs : s < 3) : len (v + 80 + 6 * s) = 10 := by
  revert s
  rcases hv with rfl | rfl | rfl <;> decide
theorem lR_81 {v s : Nat} (hv : isV v) (hs : s < 3) : len (v + 81 + 6 * s) = 300 := by
  revert s
  rcases hv with rfl | rfl | rfl <;> decide
theorem rA_1 {v s : Nat} (hv : isV v) (hs : s < 6) : rf (v + 1) s = v + 2 + s := by
  revert s
  rcases hv with rfl | rfl | rfl <;> decide
theorem aV_1 {v s : Nat} (hv : isV v) (hs : s < 6) : lda (v + 1) (nI s) = some (v + 2 + s) := ldaL (lV_1 hv) (rA_1 hv hs) hs (by decide)
theorem rA_8 {v s : Nat} (hv : isV v) (hs : s < 4) : rf (v + 8) s = v + 52 + s := by
  revert s
  rcases hv with rfl | rfl | rfl <;> decide
theorem aV_8 {v s : Nat} (hv : isV v) (hs : s < 4) : lda (v + 8) (nI s) = some (v + 52 + s) := ldaL (lV_8 hv) (rA_8 hv hs) hs (by decide)
theorem rA_9 {v s : Nat} (hv : isV v) (hs : s < 4) : rf (v + 9) s = v + 56 + s := by
  revert s
  rcases hv with rfl | rfl | rfl <;> decide
theorem aV_9 {v s : Nat} (hv : isV v) (hs : s < 4) : lda (v + 9) (nI s) = some (v + 56 + s) := ldaL (lV_9 hv) (rA_9 hv hs) hs (by decide)
theorem rA_10 {v s : Nat} (hv : isV v) (hs : s < 16) : rf (v + 10) s = v + 60 + s := by
  revert s
  rcases hv with rfl | rfl | rfl <;> decide
theorem aV_10 {v s : Nat} (hv : isV v) (hs : s < 16) : lda (v + 10) (nI s) = some (v + 60 + s) := ldaL (lV_10 hv) (rA_10 hv hs) hs (by decide)
theorem rA_26 {v s : Nat} (hv : isV v) (hs : s < 9) : rf (v + 26) s = v + 27 + s := by
  revert s
  rcases hv with rfl | rfl | rfl <;> decide
theorem aV_26 {v s : Nat} (hv : isV v) (hs : s < 9) : lda (v + 26) (nI s) = some (v + 27 + s) := ldaL (lV_26 hv) (rA_26 hv hs) hs (by decide)
theorem rA_38 {v s : Nat} (hv : isV v) (hs : s < 9) : rf (v + 38) s = v + 39 + s := by
  revert s
  rcases hv with rfl | rfl | rfl <;> decide
theorem aV_38 {v s : Nat} (hv : isV v) (hs : s < 9) : lda (v + 38) (nI s) = some (v + 39 + s) := ldaL (lV_38 hv) (rA_38 hv hs) hs (by decide)
theorem rA_11 {v s : Nat} (hv : isV v) (hs : s < 3) : rf (v + 11) s = v + 76 + 6 * s := by
  revert s
  rcases hv with rfl | rfl | rfl <;> decide
theorem aV_11 {v s : Nat} (hv : isV v) (hs : s < 3) : lda (v + 11) (nI s) = some (v + 76 + 6 * s) := ldaL (lV_11 hv) (rA_11 hv hs) hs (by decide)
/-! ROWS judged -/
theorem judge_l {μ ν : mm} {r t : Nat} (hrt : r ≤ t) (ht : t ≤ 4) (e1 : μ 23 8 = nI r) (e2 : ν 0 8 = nI r) (e3 : μ 23 9 = nI t) (e4 : ν 0 9 = nI t) (hk : ∀ k, k < 2 * r → μ 37 k = ν 5 k) (hk2 : ∀ k, k < 2 * t → μ 38 k = ν 6 k) : ∀ m i f1 f2 : Nat, i + m = r → m < f1 → 2 * m < f2 → ∃ y, f_11_judge_l12 23 μ f1 (nI i) = some y ∧ f_12_judge_l12 0 ν f2 (nI (2 * i)) = some y := by
  intro m
  induction m with
  | zero =>
    intro i f1 f2 h1 h2 h3
    obtain ⟨a, rfl⟩ : ∃ a, f1 = a + 1 := ⟨f1 - 1, by omega⟩
    obtain ⟨b, rfl⟩ : ∃ b, f2 = b + 1 := ⟨f2 - 1, by omega⟩
    obtain rfl : i = r := by omega
    have d1 : nI i ≤ nI i := Int32.le_refl _
    have d2 : 2 * nI i ≤ nI (2 * i) := by rw [show (2 : Int32) = nI 2 from rfl, pk_mul]; exact Int32.le_refl _
    unfold f_11_judge_l12 f_12_judge_l12
    rw [e1, e2, e3, e4, if_pos d1, if_pos d2]
    by_cases c : nI t ≤ nI i
    · exact ⟨0, by rw [if_pos c], by rw [if_pos c]⟩
    · exact ⟨nI i + 1, by rw [if_neg c], by rw [if_neg c]⟩
  | succ m ih =>
    intro i f1 f2 h1 h2 h3
    obtain ⟨a, rfl⟩ : ∃ a, f1 = a + 1 := ⟨f1 - 1, by omega⟩
    obtain ⟨b, rfl⟩ : ∃ b, f2 = b + 1 + 1 := ⟨f2 - 2, by omega⟩
    have d1 : ¬ nI r ≤ nI i := nI_ge (by omega) (by omega)
    have d2 : ¬ nI (2 * r) ≤ nI (2 * i) := nI_ge (by omega) (by omega)
    have d3 : ¬ nI (2 * r) ≤ nI (2 * i + 1) := nI_ge (by omega) (by omega)
    have ix : (2 * nI i : Int32) = nI (2 * i) := by rw [show (2 : Int32) = nI 2 from rfl, pk_mul]
    have ir : (2 * nI r : Int32) = nI (2 * r) := by rw [show (2 : Int32) = nI 2 from rfl, pk_mul]
    have v1 : nI (2 * i) / 2 = nI i := by
      rw [show (2 : Int32) = nI 2 from rfl, pk_div (by omega) (by decide) (by decide)]
      congr 1; omega
    have v2 : nI (2 * i + 1) / 2 = nI i := by
      rw [show (2 : Int32) = nI 2 from rfl, pk_div (by omega) (by decide) (by decide)]
      congr 1; omega
    obtain ⟨y, y1, y2⟩ := ih (i + 1) a b (by omega) (by omega) (by omega)
    have q1 := hk (2 * i) (by omega)
    have q2 := hk (2 * i + 1) (by omega)
    have q3 := hk2 (2 * i) (by omega)
    have q4 := hk2 (2 * i + 1) (by omega)
    rw [show 2 * (i + 1) = 2 * i + 1 + 1 from by omega] at y2
    unfold f_11_judge_l12 f_12_judge_l12
    rw [e1, e2, ir, if_neg d1, if_neg d2, ix, nI_1, rf_23_6, rf_23_7, rf_0_6, rf_0_7, ldL len_37 (by omega) (by decide), ldL len_38 (by omega) (by decide), ldL len_37 (by omega) (by decide), ldL len_38 (by omega) (by decide), ldL len_5 (by omega) (by decide), ldL len_6 (by omega) (by decide), q1, q2, q3, q4]
    by_cases c1 : ν 5 (2 * i) = ν 6 (2 * i)
    · by_cases c2 : ν 5 (2 * i + 1) = ν 6 (2 * i + 1)
      · refine ⟨y, ?_, ?_⟩
        · simp [c1, c2, nI_1, y1]
        · unfold f_12_judge_l12
          rw [e2, ir]
          simp (disch := omega) [c1, c2, d3, nI_1, rf_0_6, rf_0_7, ldL len_5, ldL len_6, y2]
      · refine ⟨nI (i + 1), ?_, ?_⟩
        · simp [c1, c2, nI_1]
        · unfold f_12_judge_l12
          rw [e2, ir]
          simp (disch := omega) [c1, c2, d3, nI_1, rf_0_6, rf_0_7, ldL len_5, ldL len_6, v2]
    · refine ⟨nI (i + 1), ?_, ?_⟩
      · simp [c1, nI_1]
      · simp [c1, v1, nI_1]
theorem T_judge {μ ν : mm} (h : Cp μ ν) : Ok (f_11_judge 23 μ) fun z => Ok (f_12_judge 0 ν) fun w => z = w := by
  obtain ⟨r, t, hrt, ht, e1, e2, hk, hd⟩ := h.2.2.2.2.1
  rcases hd with ⟨d1, d2, -⟩ | ⟨d1, d2, d3, d4⟩
  · exact Ok_of (y := -3) (by simp [f_11_judge, d1]) (Ok_of (y := -3) (by simp [f_12_judge, d2]) rfl)
  · obtain ⟨y, y1, y2⟩ := judge_l hrt ht e1 e2 d3 d2 hk d4 r 0 FU FU (by omega) (show r < 2000 by omega) (show 2 * r < 2000 by omega)
    have z : 0 ≤ nI t := nI_pos' (by omega)
    exact Ok_of (y := y) (by unfold f_11_judge; rw [d1, if_neg (by decide)]; exact y1) (Ok_of (y := y) (by unfold f_12_judge; rw [d2, if_pos z]; exact y2) rfl)
/-! who hears -/
theorem dayH_eq {v j w u : Nat} {μ : mm} (hv : isV v) (hj : j < 12) (hw : w < 6) (hu : u < 6) (e : μ (v + 16) j = nI u) : f_7_dayHeard (v + 15) (nI j) (nI w) (v + 1) μ = some (μ (v + 18) j + (if u = w then 1 else μ (v + 2 + u) w)) := by
  have c := nI_eq (a := u) (b := w) (by omega) (by omega)
  by_cases d : u = w
  · simp (disch := omega) [f_7_dayHeard, rV_15_1 hv, rV_15_3 hv, ldL (lV_16 hv), ldL (lV_18 hv), e, c, d]
  · simp (disch := omega) [f_7_dayHeard, rV_15_1 hv, rV_15_3 hv, ldL (lV_16 hv), ldL (lV_18 hv), e, c, d, aV_1 hv hu, ldL (lV_2 hv hu)]
theorem way_eq {j w u : Nat} {ν : mm} (hj : j < 12) (hw : w < 6) (hu : u < 6) (e : ν 1 (771 + 3 * j) = nI u) : f_12_wayOfNews 0 (nI j) (nI w) ν = some (if u = w then 1 else ν 1 (20 + 6 * u + w)) := by
  have c := nI_eq (a := u) (b := w) (by omega) (by omega)
  by_cases d : u = w
  · simp (disch := omega) [f_12_wayOfNews, rf_0_0, ix_771_, ld1, e, c, d]
  · simp (disch := omega) [f_12_wayOfNews, f_12_roadOf, rf_0_0, ix_771_, ix_20_, nI_add, ld1, e, c, d]
theorem vil_of {x : Int32} {n : Nat} (hn : n ≤ 6) (h : 0 ≤ x ∧ x < nI n) : ∃ u, u < n ∧ x = nI u := by
  obtain ⟨j, hj, rfl⟩ := nI_of (Int32.not_lt.mpr h.1)
  exact ⟨j, (nI_ltI hj (by omega)).mp h.2, rfl⟩
set_option maxHeartbeats 1000000 in
theorem T_hears {μ ν : mm} (a b : Int32) (h : Cp μ ν) : Ok (f_11_hears 23 a b μ) fun z => Ok (f_12_hears 0 a b ν) fun w => z = w := by

  obtain ⟨n8, hn8, en8, nn8⟩ := cnt_of (m := 6) (by decide) h.2.1.2.1.1
  have em8 : μ 49 1 = nI n8 := (h.1.1 8 (by decide)).symm.trans en8
  obtain ⟨n11, hn11, en11, nn11⟩ := cnt_of (m := 16) (by decide) h.2.1.2.1.2.2.2.1
  have em11 : μ 49 4 = nI n11 := (h.1.1 11 (by decide)).symm.trans en11
  obtain ⟨n12, hn12, en12, nn12⟩ := cnt_of (m := 12) (by decide) h.2.1.2.1.2.2.2.2.1
  have em12 : μ 64 0 = nI n12 := (h.1.1 12 (by decide)).symm.trans en12
  have hN := IV_nn h.2.1
  obtain ⟨⟨v1, v2, v3, v4, v5, v6, v7, v8, v9, v10, v11, v12⟩, ⟨i1, i2, i3, i4, i5, i6, i7, i8, i9, i10, i11, i12⟩, -⟩ := id h
  by_cases c1 : 0 ≤ a ∧ a ≤ nI n11 - 1
  · by_cases c2 : 0 ≤ b ∧ b ≤ nI n12 - 1
    · obtain ⟨p, hp, rfl⟩ := in_of (by omega) c1
      obtain ⟨j, hj, rfl⟩ := in_of (by omega) c2
      have b1 := (i6 p (by omega)).1
      have b2 := (i7 j (by omega)).1
      rw [en8] at b1 b2
      obtain ⟨w, hw, ew⟩ := vil_of hn8 b1
      obtain ⟨u, hu, eu⟩ := vil_of hn8 b2
      have f0 : ν 1 (96 + 12 * p) = μ (109 + p) 0 := v5 p 0 (by omega) (by decide)
      obtain ⟨q1, q2, -⟩ := v6 j (by omega)
      have q3 := v2 u w (by omega) (by omega)
      have d := dayH_eq (v := 49) (μ := μ) isV_now (show j < 12 by omega) (show w < 6 by omega) (show u < 6 by omega) (by rw [← q1]; exact eu)
      have e := way_eq (ν := ν) (show j < 12 by omega) (show w < 6 by omega) (show u < 6 by omega) eu
      have l := aV_10 (v := 49) (s := p) isV_now (by omega)
      refine Ok_of (y := μ (49 + 18) j + (if u = w then 1 else μ (49 + 2 + u) w)) (by simp (disch := omega) [f_11_hears, hasH_eq, em11, isIn_t c2, em12, c1, rf_23_0, rf_49_13, rf_49_10, rf_49_7, show lda 59 (nI p) = some (109 + p) from l, ← f0, ew]; exact d) ?_
      refine Ok_of (y := ν 1 (771 + 3 * j + 1) + (if u = w then 1 else ν 1 (20 + 6 * u + w))) (by simp (disch := omega) [f_12_hears, is_11, is_12, en11, en12, c1, c2, rf_0_0, f_12_house, ix_771_, ix_96_, nI_1, ld1, ew, e]) ?_
      rw [← q2, ← q3]
    · exact Ok_of (y := -1) (by simp [f_11_hears, hasH_eq, isIn_f c2, rf_23_0, rf_49_13, em11, em12, c1]) (Ok_of (y := -1) (by simp [f_12_hears, is_11, is_12, en11, en12, c1, c2]) rfl)
  · exact Ok_of (y := -1) (by simp [f_11_hears, hasH_eq, rf_23_0, em11, c1]) (Ok_of (y := -1) (by simp [f_12_hears, is_11, en11, c1]) rfl)
/-! lines -/
theorem ix_288 (s : Nat) : (288 + 161 * nI s : Int32) = nI (288 + 161 * s) := by rw [show (288 : Int32) = nI 288 from rfl, show (161 : Int32) = nI 161 from rfl, pk_mul, nI_add]
theorem ix_4 (l : Nat) : (4 * nI l : Int32) = nI (4 * l) := by rw [show (4 : Int32) = nI 4 from rfl, pk_mul]
theorem lineOf_eq {ν : mm} {s l f : Nat} (hs : s < 3) (hl : l < 10) (hf : f < 4) : f_12_lineOf 0 (nI s) (nI l) (nI f) ν = some (ν 1 (288 + 161 * s + 1 + 4 * l + f)) := by
  simp (disch := omega) [f_12_lineOf, rf_0_0, ix_288, nI_1, ix_4, nI_add, ld1]
theorem three_of {a : Int32} (h : 0 ≤ a ∧ a ≤ 2) : ∃ s : Nat, s < 3 ∧ a = nI s := by
  obtain ⟨s, hs, e⟩ := nI_of2 (M := 2) (n := 2) (by decide) (Int32.not_lt.mpr h.1) h.2
  exact ⟨s, by omega, e⟩
theorem hasC_eq {v s l : Nat} {μ : mm} (hv : isV v) (hs : s < 3) (hl : l < 10) : f_5_hasCond (v + 76 + 6 * s) (nI l) μ = some (if μ (v + 80 + 6 * s) l ≤ μ (v + 79 + 6 * s) l then 0 else 1) := by
  by_cases c : μ (v + 80 + 6 * s) l ≤ μ (v + 79 + 6 * s) l <;> simp (disch := omega) [f_5_hasCond, rR_3 hv hs, rR_4 hv hs, ldL (lR_79 hv hs), ldL (lR_80 hv hs), c]
set_option maxHeartbeats 1000000 in
theorem T_line {μ ν : mm} (a b c : Int32) (h : Cp μ ν) : Ok (f_11_line 23 a b c μ) fun z => Ok (f_12_line 0 a b c ν) fun w => z = w := by
  by_cases c1 : 0 ≤ a ∧ a ≤ 2
  · obtain ⟨s, hs, rfl⟩ := three_of c1
    obtain ⟨n, z, hn, hz, en, em, ez, hL⟩ := h.1.2.2.2.2.2.2.2.2.2.2.2 s hs
    have l0 : lda 60 (nI s) = some (49 + 76 + 6 * s) := aV_11 isV_now hs
    by_cases c2 : 0 ≤ b ∧ b ≤ nI n - 1
    · obtain ⟨l, hl, rfl⟩ := in_of (by omega) c2
      obtain ⟨a1, a2, a3, a4, a5, fm, tm, fc, tc, b1, b2, b3, b4, b5, b6, b7, b8, b9, b0⟩ := hL l hl
      by_cases d0 : c = 0
      · subst d0
        have e := lineOf_eq (ν := ν) hs (show l < 10 by omega) (show 0 < 4 by decide)
        rw [show nI 0 = 0 from rfl] at e
        refine Ok_of (y := μ (49 + 77 + 6 * s) l) ?_ (Ok_of (y := ν 1 (288 + 161 * s + 1 + 4 * l + 0)) (by simp (disch := omega) [f_12_line, within_t c1, rf_0_0, ix_288, ld1, en, within_t c2, within_t (show (0 : Int32) ≤ 0 ∧ (0 : Int32) ≤ 2 from by decide), e]) a1.symm)
        simp (disch := omega) [f_11_line, isIn_t c1, rf_23_0, rf_49_11, l0, em, isIn_t c2, rR_1 isV_now hs, ldL (lR_77 isV_now hs)]
      · by_cases d1 : c = 1
        · subst d1
          have e := lineOf_eq (ν := ν) hs (show l < 10 by omega) (show 1 < 4 by decide)
          rw [show nI 1 = 1 from rfl] at e
          refine Ok_of (y := if μ (49 + 77 + 6 * s) l = 5 then -9 else μ (49 + 78 + 6 * s) l) ?_ (Ok_of (y := ν 1 (288 + 161 * s + 1 + 4 * l + 1)) (by simp (disch := omega) [f_12_line, within_t c1, rf_0_0, ix_288, ld1, en, within_t c2, within_t (show (0 : Int32) ≤ 1 ∧ (1 : Int32) ≤ 2 from by decide), e]) ?_)
          · by_cases d5 : μ (49 + 77 + 6 * s) l = 5
            · rw [if_pos d5]
              simp (disch := omega) [f_11_line, isIn_t c1, rf_23_0, rf_49_11, l0, em, isIn_t c2, rR_1 isV_now hs, ldL (lR_77 isV_now hs)]
              simp [d5]
            · rw [if_neg d5]
              simp (disch := omega) [f_11_line, isIn_t c1, rf_23_0, rf_49_11, l0, em, isIn_t c2, rR_1 isV_now hs, rR_2 isV_now hs, ldL (lR_77 isV_now hs), ldL (lR_78 isV_now hs)]
              intro q
              exact absurd q d5
          · rw [← a3]
            congr 1
            omega
        · by_cases d2 : c = 2
          · subst d2
            have e3 := lineOf_eq (ν := ν) hs (show l < 10 by omega) (show 3 < 4 by decide)
            have e2 := lineOf_eq (ν := ν) hs (show l < 10 by omega) (show 2 < 4 by decide)
            rw [show nI 3 = 3 from rfl, show 288 + 161 * s + 1 + 4 * l + 3 = 288 + 161 * s + 4 + 4 * l from by omega, b2] at e3
            rw [show nI 2 = 2 from rfl, show 288 + 161 * s + 1 + 4 * l + 2 = 288 + 161 * s + 3 + 4 * l from by omega, b1] at e2
            have hc := hasC_eq (v := 49) (μ := μ) (l := l) isV_now hs (by omega)
            rw [b3, b4] at hc
            have k1 : nI tc ≤ nI fc ↔ tc ≤ fc := nI_leI (by omega) (by omega)
            have k2 : nI tm ≤ nI fm ↔ tm ≤ fm := nI_leI (by omega) (by omega)
            by_cases d : tc ≤ fc
            · have d' : tm ≤ fm := by omega
              rw [if_pos (k1.mpr d)] at hc
              exact Ok_of (y := 0) (by simp [f_11_line, isIn_t c1, rf_23_0, rf_49_11, l0, em, isIn_t c2, hc, f_11_asBit]) (Ok_of (y := 0) (by simp (disch := omega) [f_12_line, within_t c1, rf_0_0, ix_288, ld1, en, within_t c2, within_t (show (0 : Int32) ≤ 2 ∧ (2 : Int32) ≤ 2 from by decide), e2, e3, k2, d']) rfl)
            · have d' : ¬ tm ≤ fm := by omega
              rw [if_neg (fun q => d (k1.mp q))] at hc
              exact Ok_of (y := 1) (by simp [f_11_line, isIn_t c1, rf_23_0, rf_49_11, l0, em, isIn_t c2, hc, f_11_asBit]) (Ok_of (y := 1) (by simp (disch := omega) [f_12_line, within_t c1, rf_0_0, ix_288, ld1, en, within_t c2, within_t (show (0 : Int32) ≤ 2 ∧ (2 : Int32) ≤ 2 from by decide), e2, e3, k2, d']) rfl)
          · have nr : ¬ (0 ≤ c ∧ c ≤ 2) := fun q => by
              obtain ⟨j, hj, rfl⟩ := three_of q
              have : j = 0 ∨ j = 1 ∨ j = 2 := by omega
              rcases this with rfl | rfl | rfl
              · exact d0 rfl
              · exact d1 rfl
              · exact d2 rfl
            exact Ok_of (y := -9) (by simp [f_11_line, isIn_t c1, rf_23_0, rf_49_11, l0, em, isIn_t c2, d0, d1, d2]) (Ok_of (y := -9) (by simp (disch := omega) [f_12_line, within_t c1, rf_0_0, ix_288, ld1, en, within_t c2, within_f nr]) rfl)
    · exact Ok_of (y := -9) (by simp [f_11_line, isIn_t c1, rf_23_0, rf_49_11, l0, em, isIn_f c2]) (Ok_of (y := -9) (by simp (disch := omega) [f_12_line, within_t c1, rf_0_0, ix_288, ld1, en, within_f c2]) rfl)
  · exact Ok_of (y := -9) (by simp [f_11_line, isIn_f c1]) (Ok_of (y := -9) (by simp [f_12_line, within_f c1]) rfl)
