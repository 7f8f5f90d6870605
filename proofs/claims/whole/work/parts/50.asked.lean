/-! of, why, pitOf, evict -/
theorem so36 : ∀ k, k < 18 → so k = 36 → k = 17 := by decide +kernel
theorem VP_cgS {v : Nat} {μ μ' : mm} {g g' : Nat → Int32} (hN : NN g) (hg : ∀ k, k < 912 → g' k = g k) (hm : ∀ b, (v ≤ b ∧ b < v + 25 ∨ v + 37 ≤ b ∧ b < v + 48 ∨ v + 52 ≤ b ∧ b < v + 94) → μ' b = μ b) (h36 : μ' (v + 36) 0 = μ (v + 36) 0) (h : VP v μ g) : VP v μ' g' := by
  obtain ⟨v1, v2, v3, v4, v5, v6, v7, v8, v9, v10, v11, v12⟩ := h
  refine ⟨?_, ?_, ?_, ?_, ?_, ?_, ?_, ?_, ?_, ?_, ?_, ?_⟩
  · intro k hk
    have hs := so_in18 k hk
    rw [hg k (by omega)]
    by_cases e : k = 17
    · subst e
      rw [show so 17 = 36 from rfl, show ss 17 = 0 from rfl, h36]
      exact v1 17 hk
    · have n36 : so k ≠ 36 := fun z => e (so36 k hk z)
      rw [hm _ (by omega)]
      exact v1 k hk
  · exact V2_cg hN (fun k a => hg k (by omega)) (fun b a => hm b (by omega)) v2
  · exact V3_cg hN (fun k a => hg k (by omega)) (fun b a => hm b (by omega)) v3
  · exact V4_cg hN (fun k a => hg k (by omega)) (fun b a => hm b (by omega)) v4
  · exact V5_cg hN (fun k a => hg k (by omega)) (fun b a => hm b (by omega)) v5
  · exact V6_cg hN (fun k a => hg k (by omega)) (fun b a => hm b (by omega)) v6
  · exact V7_cg hN (fun k a => hg k (by omega)) (fun b a => hm b (by omega)) v7
  · exact V8_cg hN (fun k a => hg k (by omega)) (fun b a => hm b (by omega)) v8
  · exact V9_cg hN (fun k a => hg k (by omega)) (fun b a => hm b (by omega)) v9
  · exact V10_cg hN (fun k a => hg k (by omega)) (fun b a => hm b (by omega)) v10
  · exact V11_cg hN (fun k a => hg k (by omega)) (fun b a => hm b (by omega)) v11
  · exact V12_cg hN (fun k a => hg k (by omega)) (fun b a => hm b (by omega)) v12
/-- a call that changes scratch alone -/
theorem Cp_scr {μ μ' ν ν' : mm} (h : Cp μ ν) (hm : ∀ b, (b = 23 ∨ b = 24 ∨ b = 25 ∨ 35 ≤ b ∧ b < 74 ∨ 86 ≤ b ∧ b < 97 ∨ 101 ≤ b ∧ b < 237) → μ' b = μ b) (h85 : μ' 85 0 = μ 85 0) (hn : ∀ b, (b < 3 ∨ 4 ≤ b ∧ b < 7 ∨ 16 ≤ b) → ν' b = ν b) : Cp μ' ν' := by
  obtain ⟨hV, hI, ⟨k1, k2, k3⟩, ht, hr, hs, hv, hc⟩ := h
  have m23 := hm 23 (by omega)
  have n0 := hn 0 (by omega)
  refine ⟨?_, ?_, ⟨by rw [m23, n0]; exact k1, by rw [m23]; exact k2, fun e => ?_⟩, ?_, ?_, ?_, ?_, ?_⟩
  · rw [hn 1 (by omega)]
    exact VP_cgS (IV_nn hI) (fun _ _ => rfl) (fun b q => hm b (by omega)) h85 hV
  · rw [hn 1 (by omega)]
    exact hI
  · rw [m23] at e
    obtain ⟨q1, q2⟩ := k3 e
    rw [hn 2 (by omega)]
    exact ⟨VP_congr (fun _ _ => rfl) (fun b h1 h2 => hm b (by omega)) (IV_nn q2) q1, q2⟩
  · unfold Tp
    rw [hm 24 (by omega), hm 25 (by omega), n0, hn 4 (by omega)]
    exact ht
  · unfold Rw
    rw [m23, n0, hm 37 (by omega), hm 38 (by omega), hn 5 (by omega), hn 6 (by omega)]
    exact hr
  · exact Sh_cg (fun b q => hm b (by omega)) (fun b q => hn b (by omega)) hs
  · exact Sv_cg (fun b q => hm b (by omega)) (fun b q => hn b (by omega)) hv
  · exact Tc_cg ⟨hm 35 (by omega), hm 36 (by omega)⟩ ⟨by rw [n0], hn 22 (by omega)⟩ hc
theorem Cp_9 {μ ν ν' : mm} (h : Cp μ ν) (hn : ∀ b, b ≠ 9 → ν' b = ν b) : Cp μ ν' := Cp_scr h (fun _ _ => rfl) rfl (fun b q => hn b (by omega))
theorem fsF_rg {v s h : Nat} {μ ν : mm} {srt : Int32} (hR : RS v μ ν) (hs : s < 3) : fsF (ν 1) s srt h = -1 ∨ ∃ j : Nat, j < 10 ∧ fsF (ν 1) s srt h = nI j := by
  obtain ⟨n, hn, en, nn0, em⟩ := cntS hR hs
  rcases fsS_rg (g := ν 1) (s := s) (srt := srt) (h := h) (nn (ν 1 (288 + 161 * s))) 0 with e | ⟨j, h1, h2, h3, h4⟩
  · exact Or.inl e
  · exact Or.inr ⟨j, by omega, h3⟩
theorem ne_m1 {j : Nat} (h : j < 2 ^ 31) : ¬ nI j = -1 := fun z => absurd (show (0 : Int32) ≤ -1 from z ▸ nI_pos' h) (by decide)
set_option maxHeartbeats 1000000 in
theorem T_why {μ ν : mm} (a b : Int32) (h : Cp μ ν) : Ok (f_11_why 23 a b μ) fun z => Ok (f_12_why 0 a b ν) fun w => z = w.1 ∧ Cp μ w.2 := by
  obtain ⟨n11, hn11, en11, nn11⟩ := cnt_of (m := 16) (by decide) h.2.1.2.1.2.2.2.1
  have em11 : μ 49 4 = nI n11 := (h.1.1 11 (by decide)).symm.trans en11
  have hR := Cp_RS h
  have r0 : lda (rf 49 11) 0 = some 125 := rl_0 isV_now
  have r1 : lda (rf 49 11) 1 = some 131 := rl_1 isV_now
  by_cases c1 : 0 ≤ a ∧ a ≤ nI n11 - 1
  · obtain ⟨p, hp, rfl⟩ := in_of (by omega) c1
    have hH := Cp_HS h (p := p) (by omega)
    have l1 : lda 59 (nI p) = some (109 + p) := aV_10 (v := 49) isV_now (by omega)
    by_cases d0 : b = 0
    · subst d0
      obtain ⟨ν', e1, e2⟩ := M_first (s := 0) (srt := 0) hR (by decide) hH
      have e3 : f_12_firstOf 0 0 0 (nI p) ν = some (fsF (ν 1) 0 0 p, ν') := e1
      have c3 : f_5_firstHolding 125 0 (109 + p) μ = some (fsF (ν 1) 0 0 p) := C_first (v := 49) (s := 0) hR (by decide) hH
      rcases fsF_rg (s := 0) (srt := 0) (h := p) hR (by decide) with e | ⟨j, hj, e⟩
      · rw [e] at e3 c3
        exact Ok_of (y := -3) (by simp [f_11_why, hasH_eq, rf_23_0, em11, c1, isIn_t (show (0 : Int32) ≤ 0 ∧ (0 : Int32) ≤ 2 from by decide), rf_49_10, l1, r0, c3]) (Ok_of (y := (-3, ν')) (by simp [f_12_why, is_11, en11, c1, within_t (show (0 : Int32) ≤ 0 ∧ (0 : Int32) ≤ 2 from by decide), e3]) ⟨rfl, Cp_9 h e2⟩)
      · rw [e] at e3 c3
        have ne := ne_m1 (j := j) (by omega)
        have np : 0 ≤ nI j := nI_pos' (by omega)
        exact Ok_of (y := nI j) (by simp [f_11_why, hasH_eq, rf_23_0, em11, c1, isIn_t (show (0 : Int32) ≤ 0 ∧ (0 : Int32) ≤ 2 from by decide), rf_49_10, l1, r0, c3, ne]) (Ok_of (y := (nI j, ν')) (by simp [f_12_why, is_11, en11, c1, within_t (show (0 : Int32) ≤ 0 ∧ (0 : Int32) ≤ 2 from by decide), e3, np]) ⟨rfl, Cp_9 h e2⟩)
    by_cases d1 : b = 1
    · subst d1
      obtain ⟨ν', e1, e2⟩ := M_first (s := 0) (srt := 1) hR (by decide) hH
      have e3 : f_12_firstOf 0 0 1 (nI p) ν = some (fsF (ν 1) 0 1 p, ν') := e1
      have c3 : f_5_firstHolding 125 1 (109 + p) μ = some (fsF (ν 1) 0 1 p) := C_first (v := 49) (s := 0) hR (by decide) hH
      rcases fsF_rg (s := 0) (srt := 1) (h := p) hR (by decide) with e | ⟨j, hj, e⟩
      · rw [e] at e3 c3
        exact Ok_of (y := -3) (by simp [f_11_why, hasH_eq, rf_23_0, em11, c1, isIn_t (show (0 : Int32) ≤ 1 ∧ (1 : Int32) ≤ 2 from by decide), rf_49_10, l1, r0, c3]) (Ok_of (y := (-3, ν')) (by simp [f_12_why, is_11, en11, c1, within_t (show (0 : Int32) ≤ 1 ∧ (1 : Int32) ≤ 2 from by decide), e3]) ⟨rfl, Cp_9 h e2⟩)
      · rw [e] at e3 c3
        have ne := ne_m1 (j := j) (by omega)
        have np : 0 ≤ nI j := nI_pos' (by omega)
        exact Ok_of (y := nI j) (by simp [f_11_why, hasH_eq, rf_23_0, em11, c1, isIn_t (show (0 : Int32) ≤ 1 ∧ (1 : Int32) ≤ 2 from by decide), rf_49_10, l1, r0, c3, ne]) (Ok_of (y := (nI j, ν')) (by simp [f_12_why, is_11, en11, c1, within_t (show (0 : Int32) ≤ 1 ∧ (1 : Int32) ≤ 2 from by decide), e3, np]) ⟨rfl, Cp_9 h e2⟩)
    by_cases d2 : b = 2
    · subst d2
      obtain ⟨ν', e1, e2⟩ := M_first (s := 1) (srt := 6) hR (by decide) hH
      have e3 : f_12_firstOf 0 1 6 (nI p) ν = some (fsF (ν 1) 1 6 p, ν') := e1
      have c3 : f_5_firstHolding 131 6 (109 + p) μ = some (fsF (ν 1) 1 6 p) := C_first (v := 49) (s := 1) hR (by decide) hH
      rcases fsF_rg (s := 1) (srt := 6) (h := p) hR (by decide) with e | ⟨j, hj, e⟩
      · rw [e] at e3 c3
        exact Ok_of (y := -3) (by simp [f_11_why, hasH_eq, rf_23_0, em11, c1, isIn_t (show (0 : Int32) ≤ 2 ∧ (2 : Int32) ≤ 2 from by decide), rf_49_10, l1, r1, c3]) (Ok_of (y := (-3, ν')) (by simp [f_12_why, is_11, en11, c1, within_t (show (0 : Int32) ≤ 2 ∧ (2 : Int32) ≤ 2 from by decide), e3]) ⟨rfl, Cp_9 h e2⟩)
      · rw [e] at e3 c3
        have ne := ne_m1 (j := j) (by omega)
        have np : 0 ≤ nI j := nI_pos' (by omega)
        exact Ok_of (y := nI j) (by simp [f_11_why, hasH_eq, rf_23_0, em11, c1, isIn_t (show (0 : Int32) ≤ 2 ∧ (2 : Int32) ≤ 2 from by decide), rf_49_10, l1, r1, c3, ne]) (Ok_of (y := (nI j, ν')) (by simp [f_12_why, is_11, en11, c1, within_t (show (0 : Int32) ≤ 2 ∧ (2 : Int32) ≤ 2 from by decide), e3, np]) ⟨rfl, Cp_9 h e2⟩)
    have nr : ¬ (0 ≤ b ∧ b ≤ 2) := fun q => by
      obtain ⟨j, hj, rfl⟩ := three_of q
      have : j = 0 ∨ j = 1 ∨ j = 2 := by omega
      rcases this with rfl | rfl | rfl
      · exact d0 rfl
      · exact d1 rfl
      · exact d2 rfl
    exact Ok_of (y := -1) (by simp [f_11_why, hasH_eq, rf_23_0, em11, c1, isIn_f nr]) (Ok_of (y := (-1, ν)) (by simp [f_12_why, is_11, en11, c1, within_f nr]) ⟨rfl, h⟩)
  · exact Ok_of (y := -1) (by simp [f_11_why, hasH_eq, rf_23_0, em11, c1]) (Ok_of (y := (-1, ν)) (by simp [f_12_why, is_11, en11, c1]) ⟨rfl, h⟩)
theorem mv_bit (g : Nat → Int32) (p : Nat) : mvS g p = 0 ∨ mvS g p = 1 := by
  unfold mvS
  split
  · exact Or.inr rfl
  · split
    · exact Or.inl rfl
    · exact Or.inr rfl
set_option maxHeartbeats 2000000 in
theorem T_of {μ ν : mm} (a b : Int32) (h : Cp μ ν) : Ok (f_11_of 23 a b μ) fun z => Ok (f_12_of 0 a b ν) fun w => z = w.1 ∧ Cp μ w.2 := by
  obtain ⟨n11, hn11, en11, nn11⟩ := cnt_of (m := 16) (by decide) h.2.1.2.1.2.2.2.1
  have em11 : μ 49 4 = nI n11 := (h.1.1 11 (by decide)).symm.trans en11
  have hN := IV_nn h.2.1
  obtain ⟨⟨v1, v2, v3, v4, v5, v6, v7, v8, v9, v10, v11, v12⟩, ⟨i1, i2, i3, i4, i5, i6, i7, i8, i9, i10, i11, i12⟩, -⟩ := id h
  have hR := Cp_RS h
  by_cases c1 : 0 ≤ a ∧ a ≤ nI n11 - 1
  · obtain ⟨p, hp, rfl⟩ := in_of (by omega) c1
    have hH := Cp_HS h (p := p) (by omega)
    have l1 : lda 59 (nI p) = some (109 + p) := aV_10 (v := 49) isV_now (by omega)
    have hf : ∀ f, f < 12 → ν 1 (96 + 12 * p + f) = μ (109 + p) f := fun f hf => v5 p f (by omega) hf
    have hh : ∀ f, f < 12 → f_12_house 0 (nI p) (nI f) ν = some (μ (109 + p) f) := fun f q => by rw [house1 (by omega), hf f q]
    obtain ⟨-, -, -, -, -, -, -, b10, b11, -⟩ := i6 p (by omega)
    rw [show 106 + 12 * p = 96 + 12 * p + 10 from by omega, hf 10 (by decide)] at b10
    rw [show 107 + 12 * p = 96 + 12 * p + 11 from by omega, hf 11 (by decide)] at b11
    by_cases d0 : b = 0
    · subst d0
      refine Ok_of (y := μ (109 + p) 0) ?_ (Ok_of (y := (μ (109 + p) 0, ν)) (by simp [f_12_of, is_11, en11, c1, within_t (show (0 : Int32) ≤ 0 ∧ (0 : Int32) ≤ 15 from by decide), show f_12_house 0 (nI p) 0 ν = _ from hh 0 (by decide)]) ⟨rfl, h⟩)
      simp [f_11_of, hasH_eq, rf_23_0, em11, c1, rf_49_10, l1]
    by_cases d1 : b = 1
    · subst d1
      refine Ok_of (y := μ (109 + p) 1) ?_ (Ok_of (y := (μ (109 + p) 1, ν)) (by simp [f_12_of, is_11, en11, c1, within_t (show (0 : Int32) ≤ 1 ∧ (1 : Int32) ≤ 15 from by decide), show f_12_house 0 (nI p) 1 ν = _ from hh 1 (by decide)]) ⟨rfl, h⟩)
      simp [f_11_of, hasH_eq, rf_23_0, em11, c1, rf_49_10, l1]
    by_cases d2 : b = 2
    · subst d2
      refine Ok_of (y := μ (109 + p) 2) ?_ (Ok_of (y := (μ (109 + p) 2, ν)) (by simp [f_12_of, is_11, en11, c1, within_t (show (0 : Int32) ≤ 2 ∧ (2 : Int32) ≤ 15 from by decide), show f_12_house 0 (nI p) 2 ν = _ from hh 2 (by decide)]) ⟨rfl, h⟩)
      simp [f_11_of, hasH_eq, rf_23_0, em11, c1, rf_49_10, l1]
    by_cases d3 : b = 3
    · subst d3
      refine Ok_of (y := μ (109 + p) 3) ?_ (Ok_of (y := (μ (109 + p) 3, ν)) (by simp [f_12_of, is_11, en11, c1, within_t (show (0 : Int32) ≤ 3 ∧ (3 : Int32) ≤ 15 from by decide), show f_12_house 0 (nI p) 3 ν = _ from hh 3 (by decide)]) ⟨rfl, h⟩)
      simp [f_11_of, hasH_eq, rf_23_0, em11, c1, rf_49_10, l1]
    by_cases d4 : b = 4
    · subst d4
      refine Ok_of (y := μ (109 + p) 4) ?_ (Ok_of (y := (μ (109 + p) 4, ν)) (by simp [f_12_of, is_11, en11, c1, within_t (show (0 : Int32) ≤ 4 ∧ (4 : Int32) ≤ 15 from by decide), show f_12_house 0 (nI p) 4 ν = _ from hh 4 (by decide)]) ⟨rfl, h⟩)
      simp [f_11_of, hasH_eq, rf_23_0, em11, c1, rf_49_10, l1]
    by_cases d5 : b = 5
    · subst d5
      refine Ok_of (y := μ (109 + p) 5) ?_ (Ok_of (y := (μ (109 + p) 5, ν)) (by simp [f_12_of, is_11, en11, c1, within_t (show (0 : Int32) ≤ 5 ∧ (5 : Int32) ≤ 15 from by decide), show f_12_house 0 (nI p) 5 ν = _ from hh 5 (by decide)]) ⟨rfl, h⟩)
      simp [f_11_of, hasH_eq, rf_23_0, em11, c1, rf_49_10, l1]
    by_cases d6 : b = 6
    · subst d6
      refine Ok_of (y := μ (109 + p) 6) ?_ (Ok_of (y := (μ (109 + p) 6, ν)) (by simp [f_12_of, is_11, en11, c1, within_t (show (0 : Int32) ≤ 6 ∧ (6 : Int32) ≤ 15 from by decide), show f_12_house 0 (nI p) 6 ν = _ from hh 6 (by decide)]) ⟨rfl, h⟩)
      simp [f_11_of, hasH_eq, rf_23_0, em11, c1, rf_49_10, l1]
    by_cases d7 : b = 7
    · subst d7
      refine Ok_of (y := μ (109 + p) 7) ?_ (Ok_of (y := (μ (109 + p) 7, ν)) (by simp [f_12_of, is_11, en11, c1, within_t (show (0 : Int32) ≤ 7 ∧ (7 : Int32) ≤ 15 from by decide), show f_12_house 0 (nI p) 7 ν = _ from hh 7 (by decide)]) ⟨rfl, h⟩)
      simp [f_11_of, hasH_eq, rf_23_0, em11, c1, rf_49_10, l1]
    by_cases d8 : b = 8
    · subst d8
      refine Ok_of (y := μ (109 + p) 8) ?_ (Ok_of (y := (μ (109 + p) 8, ν)) (by simp [f_12_of, is_11, en11, c1, within_t (show (0 : Int32) ≤ 8 ∧ (8 : Int32) ≤ 15 from by decide), show f_12_house 0 (nI p) 8 ν = _ from hh 8 (by decide)]) ⟨rfl, h⟩)
      simp [f_11_of, hasH_eq, rf_23_0, em11, c1, rf_49_10, l1]
    by_cases d9 : b = 9
    · subst d9
      refine Ok_of (y := μ (109 + p) 9) ?_ (Ok_of (y := (μ (109 + p) 9, ν)) (by simp [f_12_of, is_11, en11, c1, within_t (show (0 : Int32) ≤ 9 ∧ (9 : Int32) ≤ 15 from by decide), show f_12_house 0 (nI p) 9 ν = _ from hh 9 (by decide)]) ⟨rfl, h⟩)
      simp [f_11_of, hasH_eq, rf_23_0, em11, c1, rf_49_10, l1]
    by_cases d10 : b = 10
    · subst d10
      refine Ok_of (y := μ (109 + p) 10) ?_ (Ok_of (y := (μ (109 + p) 10, ν)) (by simp [f_12_of, is_11, en11, c1, within_t (show (0 : Int32) ≤ 10 ∧ (10 : Int32) ≤ 15 from by decide), show f_12_house 0 (nI p) 10 ν = _ from hh 10 (by decide)]) ⟨rfl, h⟩)
      rcases b10 with e | e <;> simp [f_11_of, f_11_asBit, hasH_eq, rf_23_0, em11, c1, rf_49_10, l1, e]
    by_cases d11 : b = 11
    · subst d11
      refine Ok_of (y := μ (109 + p) 11) ?_ (Ok_of (y := (μ (109 + p) 11, ν)) (by simp [f_12_of, is_11, en11, c1, within_t (show (0 : Int32) ≤ 11 ∧ (11 : Int32) ≤ 15 from by decide), show f_12_house 0 (nI p) 11 ν = _ from hh 11 (by decide)]) ⟨rfl, h⟩)
      rcases b11 with e | e <;> simp [f_11_of, f_11_asBit, hasH_eq, rf_23_0, em11, c1, rf_49_10, l1, e]
    by_cases d12 : b = 12
    · subst d12
      obtain ⟨ν', e1, e2⟩ := M_ticket hR hH
      have c3 : f_9_ticketOf 49 (109 + p) μ = some (nuS (ν 1) 0 0 p 0) := C_ticket hR hH
      exact Ok_of (y := nuS (ν 1) 0 0 p 0) (by simp [f_11_of, hasH_eq, rf_23_0, em11, c1, rf_49_10, l1, c3]) (Ok_of (y := (nuS (ν 1) 0 0 p 0, ν')) (by simp [f_12_of, is_11, en11, c1, within_t (show (0 : Int32) ≤ 12 ∧ (12 : Int32) ≤ 15 from by decide), e1]) ⟨rfl, Cp_9 h e2⟩)
    by_cases d13 : b = 13
    · subst d13
      obtain ⟨ν', e1, e2⟩ := M_rank hR hH
      have c3 : f_9_rankOf 49 (109 + p) μ = some (nuS (ν 1) 0 1 p 9) := C_rank hR hH
      exact Ok_of (y := nuS (ν 1) 0 1 p 9) (by simp [f_11_of, hasH_eq, rf_23_0, em11, c1, rf_49_10, l1, c3]) (Ok_of (y := (nuS (ν 1) 0 1 p 9, ν')) (by simp [f_12_of, is_11, en11, c1, within_t (show (0 : Int32) ≤ 13 ∧ (13 : Int32) ≤ 15 from by decide), e1]) ⟨rfl, Cp_9 h e2⟩)
    by_cases d14 : b = 14
    · subst d14
      obtain ⟨ν', e1, e2⟩ := M_relief hR hH
      have c3 : f_9_reliefOf 49 (109 + p) μ = some (nuS (ν 1) 1 6 p 0) := C_relief hR hH
      exact Ok_of (y := nuS (ν 1) 1 6 p 0) (by simp [f_11_of, hasH_eq, rf_23_0, em11, c1, rf_49_10, l1, c3]) (Ok_of (y := (nuS (ν 1) 1 6 p 0, ν')) (by simp [f_12_of, is_11, en11, c1, within_t (show (0 : Int32) ≤ 14 ∧ (14 : Int32) ≤ 15 from by decide), e1]) ⟨rfl, Cp_9 h e2⟩)
    by_cases d15 : b = 15
    · subst d15
      obtain ⟨ν', e1, e2⟩ := M_vote hR hH
      have c3 : f_9_mayVote 49 (109 + p) μ = some (mvS (ν 1) p) := C_vote hR hH
      rcases mv_bit (ν 1) p with e | e
      · rw [e] at c3 e1
        exact Ok_of (y := 0) (by simp [f_11_of, f_11_asBit, hasH_eq, rf_23_0, em11, c1, rf_49_10, l1, c3]) (Ok_of (y := (0, ν')) (by simp [f_12_of, is_11, en11, c1, within_t (show (0 : Int32) ≤ 15 ∧ (15 : Int32) ≤ 15 from by decide), e1]) ⟨rfl, Cp_9 h e2⟩)
      · rw [e] at c3 e1
        exact Ok_of (y := 1) (by simp [f_11_of, f_11_asBit, hasH_eq, rf_23_0, em11, c1, rf_49_10, l1, c3]) (Ok_of (y := (1, ν')) (by simp [f_12_of, is_11, en11, c1, within_t (show (0 : Int32) ≤ 15 ∧ (15 : Int32) ≤ 15 from by decide), e1]) ⟨rfl, Cp_9 h e2⟩)
    have nr : ¬ (0 ≤ b ∧ b ≤ 15) := fun q => by
      obtain ⟨j, hj, rfl⟩ := nI_of2 (M := 15) (n := 15) (by decide) (Int32.not_lt.mpr q.1) q.2
      have : j = 0 ∨ j = 1 ∨ j = 2 ∨ j = 3 ∨ j = 4 ∨ j = 5 ∨ j = 6 ∨ j = 7 ∨ j = 8 ∨ j = 9 ∨ j = 10 ∨ j = 11 ∨ j = 12 ∨ j = 13 ∨ j = 14 ∨ j = 15 := by omega
      rcases this with rfl | rfl | rfl | rfl | rfl | rfl | rfl | rfl | rfl | rfl | rfl | rfl | rfl | rfl | rfl | rfl
      · exact d0 rfl
      · exact d1 rfl
      · exact d2 rfl
      · exact d3 rfl
      · exact d4 rfl
      · exact d5 rfl
      · exact d6 rfl
      · exact d7 rfl
      · exact d8 rfl
      · exact d9 rfl
      · exact d10 rfl
      · exact d11 rfl
      · exact d12 rfl
      · exact d13 rfl
      · exact d14 rfl
      · exact d15 rfl
    exact Ok_of (y := -1) (by simp [f_11_of, hasH_eq, rf_23_0, em11, c1, rf_49_10, l1, d0, d1, d2, d3, d4, d5, d6, d7, d8, d9, d10, d11, d12, d13, d14, d15]) (Ok_of (y := (-1, ν)) (by simp [f_12_of, is_11, en11, c1, within_f nr]) ⟨rfl, h⟩)
  · exact Ok_of (y := -1) (by simp [f_11_of, hasH_eq, rf_23_0, em11, c1]) (Ok_of (y := (-1, ν)) (by simp [f_12_of, is_11, en11, c1]) ⟨rfl, h⟩)
/-! pits -/
theorem pit1 {ν : mm} {p f : Nat} : f_12_ofPit (nI p) (nI f) ν = some (nI (56 + 7 * p + f)) := by
  simp [f_12_ofPit, ix_56_, nI_add]
theorem waterB {v p : Nat} {μ ν : mm} {w : Int32} (hR : RS v μ ν) (hp : p < 4) (h1 : ν 1 (56 + 7 * p + 2) = μ (v + 52 + p) 1) (h2 : ν 1 (56 + 7 * p + 3) = μ (v + 52 + p) 2) : f_12_waterBehind 0 (nI p) w ν = f_4_waterAfter (v + 52 + p) w (mn (noS (ν 1) 0 2 0) (noS (ν 1) 2 2 0)) μ := by
  unfold f_12_waterBehind f_4_waterAfter
  rw [show f_12_ofPit (nI p) 2 ν = _ from pit1 (f := 2), Option.bind_some, rf_0_0, ld1 (by omega), Option.bind_some, show f_12_ofPit (nI p) 3 ν = _ from pit1 (f := 3), Option.bind_some, ld1 (by omega), Option.bind_some, M_ruled1 hR, Option.bind_some, h1, h2]
theorem above_l {v p : Nat} {μ ν : mm} (hR : RS v μ ν) (hp : p < 4) (h1 : ν 1 (56 + 7 * p + 2) = μ (v + 52 + p) 1) (h2 : ν 1 (56 + 7 * p + 3) = μ (v + 52 + p) 2) (h4 : ν 1 (56 + 7 * p + 4) = μ (v + 52 + p) 3) (h5 : ν 1 (56 + 7 * p + 5) = -3) : ∀ (m i f1 f2 : Nat) (w : Int32), i + m = 500 → m < f1 → m < f2 → ∃ y, f_4_daysAbove_l16 (v + 52 + p) (mn (noS (ν 1) 0 2 0) (noS (ν 1) 2 2 0)) μ f1 w (nI i) = some y ∧ f_12_pitOf_l83 0 (nI p) ν f2 (nI i) (mx 0 ((w + μ (v + 52 + p) 1) - (μ (v + 52 + p) 2 * (mn (noS (ν 1) 0 2 0) (noS (ν 1) 2 2 0))))) = some y := by
  intro m
  induction m with
  | zero =>
    intro i f1 f2 w e1 e2 e3
    obtain ⟨a, rfl⟩ : ∃ a, f1 = a + 1 := ⟨f1 - 1, by omega⟩
    obtain ⟨b, rfl⟩ : ∃ b, f2 = b + 1 := ⟨f2 - 1, by omega⟩
    obtain rfl : i = 500 := by omega
    refine ⟨500, ?_, ?_⟩
    · unfold f_4_daysAbove_l16
      rw [if_pos (by decide)]
    · unfold f_12_pitOf_l83
      rw [show f_12_ofPit (nI p) 5 ν = _ from pit1 (f := 5), Option.bind_some, rf_0_0, ld1 (by omega), Option.bind_some, h5, if_pos rfl, if_pos (by decide)]
      rfl
  | succ m ih =>
    intro i f1 f2 w e1 e2 e3
    obtain ⟨a, rfl⟩ : ∃ a, f1 = a + 1 := ⟨f1 - 1, by omega⟩
    obtain ⟨b, rfl⟩ : ∃ b, f2 = b + 1 := ⟨f2 - 1, by omega⟩
    have d : ¬ (500 : Int32) ≤ nI i := nI_ge (b := 500) (by omega) (by decide)
    have hw := waterB (w := mx 0 ((w + μ (v + 52 + p) 1) - (μ (v + 52 + p) 2 * (mn (noS (ν 1) 0 2 0) (noS (ν 1) 2 2 0))))) hR hp h1 h2
    unfold f_4_daysAbove_l16 f_12_pitOf_l83
    rw [if_neg d, show f_12_ofPit (nI p) 5 ν = _ from pit1 (f := 5), Option.bind_some, rf_0_0, ld1 (by omega), Option.bind_some, h5, if_pos rfl, if_neg d, show f_12_ofPit (nI p) 4 ν = _ from pit1 (f := 4), Option.bind_some, ld1 (by omega), Option.bind_some, h4, hw]
    unfold f_4_waterAfter
    rw [Option.bind_some, Option.bind_some]
    by_cases c : mx 0 ((w + μ (v + 52 + p) 1) - (μ (v + 52 + p) 2 * (mn (noS (ν 1) 0 2 0) (noS (ν 1) 2 2 0)))) ≤ μ (v + 52 + p) 3
    · rw [if_pos c, if_neg (Int32.not_lt.mpr c), nI_1]
      exact ih (i + 1) a b _ (by omega) (by omega) (by omega)
    · rw [if_neg c, if_pos (Int32.not_le.mp c)]
      exact ⟨nI i, rfl, rfl⟩
theorem FU_lt (n : Nat) (h : n = 500) : n < FU := by
  show n < 2000
  omega
theorem pv53 : pv 5 (-3) = -1 := by
  unfold pv
  rw [if_neg (by decide), if_pos ⟨rfl, rfl⟩]
theorem pitF {p : Nat} {μ ν : mm} (v3 : V3 49 μ (ν 1)) (hp : p < nn (ν 1 9)) : ν 1 (56 + 7 * p + 0) = μ (101 + p) 0 ∧ ν 1 (56 + 7 * p + 1) = μ (101 + p) 4 ∧ ν 1 (56 + 7 * p + 2) = μ (101 + p) 1 ∧ ν 1 (56 + 7 * p + 3) = μ (101 + p) 2 ∧ ν 1 (56 + 7 * p + 4) = μ (101 + p) 3 ∧ ν 1 (56 + 7 * p + 5) = pv 5 (μ (101 + p) 5) ∧ ν 1 (56 + 7 * p + 6) = μ (101 + p) 6 := ⟨v3 p 0 hp (by decide), v3 p 1 hp (by decide), v3 p 2 hp (by decide), v3 p 3 hp (by decide), v3 p 4 hp (by decide), v3 p 5 hp (by decide), v3 p 6 hp (by decide)⟩
theorem pv51 {x : Int32} (e : x = -1) : pv 5 x = -3 := by
  unfold pv
  rw [if_pos ⟨rfl, e⟩]
theorem pv5o {x : Int32} (e : ¬ x = -1) (e2 : ¬ x = -3) : pv 5 x = x := by
  unfold pv
  rw [if_neg (fun z => e z.2), if_neg (fun z => e2 z.2)]
theorem pitL {x : Int32} (h : pv 5 x = -3 ∨ (0 ≤ pv 5 x ∧ pv 5 x ≤ 999)) (e : ¬ x = -1) : ¬ x = -3 := fun z => by
  rw [z, pv53] at h
  rcases h with q | q
  · exact absurd q (by decide)
  · exact absurd q.1 (by decide)
theorem pit4 {p F : Nat} {μ ν : mm} (hR : RS 49 μ ν) (hp : p < 4) (p1 : ν 1 (56 + 7 * p + 1) = μ (101 + p) 4) (p2 : ν 1 (56 + 7 * p + 2) = μ (101 + p) 1) (p3 : ν 1 (56 + 7 * p + 3) = μ (101 + p) 2) (p4 : ν 1 (56 + 7 * p + 4) = μ (101 + p) 3) (p5 : ν 1 (56 + 7 * p + 5) = pv 5 (μ (101 + p) 5)) (hF : 500 < F) : ∃ y, ((f_4_isLost (101 + p) μ).bind fun x2 => if x2 = 0 then f_4_daysAbove_l16 (101 + p) (mn (noS (ν 1) 0 2 0) (noS (ν 1) 2 2 0)) μ F (μ (101 + p) 4) 0 else some 0) = some y ∧ ∃ w, f_12_waterBehind 0 (nI p) (ν 1 (56 + 7 * p + 1)) ν = some w ∧ f_12_pitOf_l83 0 (nI p) ν F 0 w = some y := by
  have hw := waterB (v := 49) (p := p) (w := μ (101 + p) 4) hR hp p2 p3
  rw [show 49 + 52 + p = 101 + p from by omega] at hw
  unfold f_4_waterAfter at hw
  rw [p1]
  by_cases e : μ (101 + p) 5 = -1
  · have e' : ν 1 (56 + 7 * p + 5) = -3 := by rw [p5, e]; rfl
    obtain ⟨y, y1, y2⟩ := above_l (v := 49) hR hp p2 p3 p4 e' 500 0 F F (μ (101 + p) 4) rfl hF hF
    rw [show 49 + 52 + p = 101 + p from by omega, show nI 0 = 0 from rfl] at y1 y2
    refine ⟨y, ?_, _, hw, y2⟩
    unfold f_4_isLost
    rw [if_pos e, Option.bind_some, if_pos rfl]
    exact y1
  · have e3 : ¬ ν 1 (56 + 7 * p + 5) = -3 := fun z => e (pv5 (p5.symm.trans z))
    refine ⟨0, ?_, _, hw, ?_⟩
    · unfold f_4_isLost
      rw [if_neg e, Option.bind_some, if_neg (by decide)]
    · obtain ⟨n, rfl⟩ : ∃ n, F = n + 1 := ⟨F - 1, by omega⟩
      unfold f_12_pitOf_l83
      rw [show f_12_ofPit (nI p) 5 ν = _ from pit1 (f := 5), Option.bind_some, rf_0_0, ld1 (by omega), Option.bind_some, if_neg e3]
set_option maxHeartbeats 1000000 in
theorem T_pitOf {μ ν : mm} (a b : Int32) (h : Cp μ ν) : Ok (f_11_pitOf 23 a b μ) fun z => Ok (f_12_pitOf 0 a b ν) fun w => z = w := by
  obtain ⟨n9, hn9, en9, nn9⟩ := cnt_of (m := 4) (by decide) h.2.1.2.1.2.1
  have em9 : μ 49 2 = nI n9 := (h.1.1 9 (by decide)).symm.trans en9
  have hN := IV_nn h.2.1
  obtain ⟨⟨v1, v2, v3, v4, v5, v6, v7, v8, v9, v10, v11, v12⟩, ⟨i1, i2, i3, i4, i5, i6, i7, i8, i9, i10, i11, i12⟩, -⟩ := id h
  have hR := Cp_RS h
  by_cases c1 : 0 ≤ a ∧ a ≤ nI n9 - 1
  · obtain ⟨p, hp, rfl⟩ := in_of (by omega) c1
    have l1 : lda 57 (nI p) = some (101 + p) := aV_8 (v := 49) isV_now (by omega)
    obtain ⟨p0, p1, p2, p3, p4, p5, p6⟩ := pitF v3 (p := p) (by omega)
    have ll : ∀ f, f < 7 → ld ν 1 (nI (56 + 7 * p + f)) = some (ν 1 (56 + 7 * p + f)) := fun f hf => ld1 (by omega)
    have b5 := (i4 p (by omega)).2.2.2.2.2.1
    rw [show 61 + 7 * p = 56 + 7 * p + 5 from by omega] at b5
    by_cases d0 : b = 0
    · subst d0
      exact Ok_of (y := μ (101 + p) 0) (by simp [f_11_pitOf, hasP_eq, rf_23_0, em9, c1, rf_49_8, l1]) (Ok_of (y := μ (101 + p) 0) (by unfold f_12_pitOf; rw [is_9, en9, if_pos c1, Option.bind_some, if_neg (by decide), within_t (show (0 : Int32) ≤ 0 ∧ (0 : Int32) ≤ 4 from by decide), Option.bind_some, if_neg (by decide), if_neg (show ¬ (4 : Int32) ≤ 0 by decide), if_pos rfl, Option.bind_some, show f_12_ofPit (nI p) 0 ν = _ from pit1 (f := 0), Option.bind_some, rf_0_0, ll 0 (by decide), Option.bind_some, p0]) rfl)
    by_cases d1 : b = 1
    · subst d1
      exact Ok_of (y := μ (101 + p) 4) (by simp [f_11_pitOf, hasP_eq, rf_23_0, em9, c1, rf_49_8, l1]) (Ok_of (y := μ (101 + p) 4) (by unfold f_12_pitOf; rw [is_9, en9, if_pos c1, Option.bind_some, if_neg (by decide), within_t (show (0 : Int32) ≤ 1 ∧ (1 : Int32) ≤ 4 from by decide), Option.bind_some, if_neg (by decide), if_neg (show ¬ (4 : Int32) ≤ 1 by decide), if_neg (by decide), if_pos rfl, Option.bind_some, show f_12_ofPit (nI p) 1 ν = _ from pit1 (f := 1), Option.bind_some, rf_0_0, ll 1 (by decide), Option.bind_some, p1]) rfl)
    by_cases d2 : b = 2
    · subst d2
      by_cases e : μ (101 + p) 5 = -1
      · have q5 : ν 1 (56 + 7 * p + 5) = -3 := p5.trans (pv51 e)
        exact Ok_of (y := -3) (by simp [f_11_pitOf, f_4_isLost, hasP_eq, rf_23_0, em9, c1, rf_49_8, l1, e]) (Ok_of (y := -3) (by unfold f_12_pitOf; rw [is_9, en9, if_pos c1, Option.bind_some, if_neg (by decide), within_t (show (0 : Int32) ≤ 2 ∧ (2 : Int32) ≤ 4 from by decide), Option.bind_some, if_neg (by decide), if_neg (show ¬ (4 : Int32) ≤ 2 by decide), if_neg (by decide), if_neg (by decide), if_pos rfl, Option.bind_some, show f_12_ofPit (nI p) 5 ν = _ from pit1 (f := 5), Option.bind_some, rf_0_0, ll 5 (by decide), Option.bind_some, q5]) rfl)
      · rw [p5] at b5
        have q5 : ν 1 (56 + 7 * p + 5) = μ (101 + p) 5 := p5.trans (pv5o e (pitL b5 e))
        exact Ok_of (y := μ (101 + p) 5) (by simp [f_11_pitOf, f_4_isLost, hasP_eq, rf_23_0, em9, c1, rf_49_8, l1, e]) (Ok_of (y := μ (101 + p) 5) (by unfold f_12_pitOf; rw [is_9, en9, if_pos c1, Option.bind_some, if_neg (by decide), within_t (show (0 : Int32) ≤ 2 ∧ (2 : Int32) ≤ 4 from by decide), Option.bind_some, if_neg (by decide), if_neg (show ¬ (4 : Int32) ≤ 2 by decide), if_neg (by decide), if_neg (by decide), if_pos rfl, Option.bind_some, show f_12_ofPit (nI p) 5 ν = _ from pit1 (f := 5), Option.bind_some, rf_0_0, ll 5 (by decide), Option.bind_some, q5]) rfl)
    by_cases d3 : b = 3
    · subst d3
      exact Ok_of (y := μ (101 + p) 6) (by simp [f_11_pitOf, hasP_eq, rf_23_0, em9, c1, rf_49_8, l1]) (Ok_of (y := μ (101 + p) 6) (by unfold f_12_pitOf; rw [is_9, en9, if_pos c1, Option.bind_some, if_neg (by decide), within_t (show (0 : Int32) ≤ 3 ∧ (3 : Int32) ≤ 4 from by decide), Option.bind_some, if_neg (by decide), if_neg (show ¬ (4 : Int32) ≤ 3 by decide), if_neg (by decide), if_neg (by decide), if_neg (by decide), Option.bind_some, show f_12_ofPit (nI p) 6 ν = _ from pit1 (f := 6), Option.bind_some, rf_0_0, ll 6 (by decide), Option.bind_some, p6]) rfl)
    by_cases d4 : b = 4
    · subst d4
      obtain ⟨y, y1, y2⟩ := pit4 (p := p) (F := FU) hR (by omega) p1 p2 p3 p4 p5 (FU_lt 500 rfl)
      have cs : f_9_safety 49 μ = some (mn (noS (ν 1) 0 2 0) (noS (ν 1) 2 2 0)) := C_safety hR
      refine Ok_of (y := y) ?_ (Ok_of (y := y) ?_ rfl)
      · unfold f_11_pitOf
        rw [hasP_eq, rf_23_0, em9, if_pos c1, Option.bind_some, if_neg (by decide), rf_49_8, l1, Option.bind_some, if_neg (by decide), if_neg (by decide), if_neg (by decide), if_neg (by decide), if_pos rfl, cs, Option.bind_some]
        unfold f_4_daysAbove
        rw [y1]
        rfl
      · unfold f_12_pitOf
        rw [is_9, en9, if_pos c1, Option.bind_some, if_neg (by decide), within_t (show (0 : Int32) ≤ 4 ∧ (4 : Int32) ≤ 4 from by decide), Option.bind_some, if_neg (by decide), if_pos (by decide), show f_12_ofPit (nI p) 1 ν = _ from pit1 (f := 1), Option.bind_some, rf_0_0, ll 1 (by decide), Option.bind_some]
        obtain ⟨w, w1, w2⟩ := y2
        rw [w1, Option.bind_some, w2]
        rfl
    have nr : ¬ (0 ≤ b ∧ b ≤ 4) := fun q => by
      rcases sht_of q with e | e | e | e | e
      · exact d0 e
      · exact d1 e
      · exact d2 e
      · exact d3 e
      · exact d4 e
    exact Ok_of (y := -1) (by simp [f_11_pitOf, hasP_eq, rf_23_0, em9, c1, rf_49_8, l1, d0, d1, d2, d3, d4]) (Ok_of (y := -1) (by simp [f_12_pitOf, is_9, en9, c1, within_f nr]) rfl)
  · exact Ok_of (y := -1) (by simp [f_11_pitOf, hasP_eq, rf_23_0, em9, c1]) (Ok_of (y := -1) (by simp [f_12_pitOf, is_9, en9, c1]) rfl)
