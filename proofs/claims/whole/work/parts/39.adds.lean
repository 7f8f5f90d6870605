/-! roads, shops, pits, households, choices, papers -/
theorem rf_50_ : ∀ s, s < 6 → rf 50 s = 51 + s := by decide +kernel
theorem len_51_ : ∀ s, s < 6 → len (51 + s) = 6 := by decide +kernel
set_option maxHeartbeats 1000000 in
theorem T_road {μ ν : mm} (a b n : Int32) (h : Cp μ ν) : Ok (f_11_road 23 a b n μ) fun z => Ok (f_12_road 0 a b n ν) fun z2 => z.1 = z2.1 ∧ Cp z.2 z2.2 := by
  obtain ⟨n8, hn8, en8, nn8⟩ := cnt_of (m := 6) (by decide) h.2.1.2.1.1
  have em8 : μ 49 1 = nI n8 := (h.1.1 8 (by decide)).symm.trans en8
  have hN := IV_nn h.2.1
  obtain ⟨⟨v1, v2, v3, v4, v5, v6, v7, v8, v9, v10, v11, v12⟩, ⟨i1, i2, i3, i4, i5, i6, i7, i8, i9, i10, i11, i12⟩, -⟩ := id h
  by_cases c1 : 0 ≤ a ∧ a ≤ nI n8 - 1
  · by_cases c2 : 0 ≤ b ∧ b ≤ nI n8 - 1
    · by_cases c3 : a = b
      · exact Ok_of (y := (-1, μ)) (by simp [f_11_road, hasV_eq, rf_23_0, em8, c1, c2, c3]) (Ok_of (y := (-1, ν)) (by simp [f_12_road, is_8, en8, c1, c2, c3]) ⟨rfl, h⟩)
      · by_cases c4 : 1 ≤ n ∧ n ≤ 9
        · obtain ⟨x, hx, rfl⟩ := in_of (by omega) c1
          obtain ⟨y, hy, rfl⟩ := in_of (by omega) c2
          have hxy : x ≠ y := fun e => c3 (by rw [e])
          have cn : 0 ≤ n ∧ n ≤ 9 := ⟨Int32.le_trans (by decide) c4.1, c4.2⟩
          have hl1 := len_51_ x (by omega)
          have hl2 := len_51_ y (by omega)
          have s1 : ∀ (μ : mm) v, sto μ (51 + x) (nI y) v = some (up μ (51 + x) y v) := fun μ v => sto_nI (by rw [hl1]; omega) (by rw [hl1]; decide)
          have s2 : ∀ (μ : mm) v, sto μ (51 + y) (nI x) v = some (up μ (51 + y) x v) := fun μ v => sto_nI (by rw [hl2]; omega) (by rw [hl2]; decide)
          have s0 : ∀ (μ : mm), ld μ (51 + x) (nI y) = some (μ (51 + x) y) := fun μ => ld_nI (by rw [hl1]; omega) (by rw [hl1]; decide)
          have s3 : lda 50 (nI x) = some (51 + x) := by rw [lda_nI (by rw [len_50]; omega) (by decide), rf_50_ x (by omega)]
          have s4 : lda 50 (nI y) = some (51 + y) := by rw [lda_nI (by rw [len_50]; omega) (by decide), rf_50_ y (by omega)]
          have hv : μ (51 + x) y = ν 1 (20 + 6 * x + y) := (v2 x y (by omega) (by omega)).symm
          refine Ok_of (y := (μ (51 + x) y, up (up μ (51 + x) (y) (n)) (51 + y) (x) (n))) (by simp (disch := omega) [f_11_road, hasV_eq, isIn_eq, rf_23_0, rf_49_7, em8, c1, c2, c3, c4, s0, s1, s2, s3, s4]) ?_
          refine Ok_of (y := (ν 1 (20 + 6 * x + y), up (up ν (1) (20 + 6 * x + y) (n)) (1) (20 + 6 * y + x) (n))) (by simp (disch := omega) [f_12_road, f_12_roadOf, is_8, within_eq, rf_0_0, sto1, ld1, c1, c2, c3, c4, en8, ix_20_, nI_add]) ?_
          dsimp only
          have hm : ∀ b, (b ≠ 51 + x ∧ b ≠ 51 + y) → (up (up μ (51 + x) (y) (n)) (51 + y) (x) (n)) b = μ b := fun b q => by rw [up_ne (by omega), up_ne (by omega)]
          have hg : ∀ k, (k ≠ 20 + 6 * x + y ∧ k ≠ 20 + 6 * y + x) → (up (up ν (1) (20 + 6 * x + y) (n)) (1) (20 + 6 * y + x) (n)) 1 k = ν 1 k := fun k q => by rw [up_ns (by omega), up_ns (by omega)]
          have hn1 : ∀ b, b ≠ 1 → (up (up ν (1) (20 + 6 * x + y) (n)) (1) (20 + 6 * y + x) (n)) b = ν b := fun b q => by rw [up_ne q, up_ne q]
          refine ⟨hv, Cp_now h (fun b q => hm b (by omega)) hn1 ?_ ?_⟩
          · refine ⟨?_, ?_, ?_, ?_, ?_, ?_, ?_, ?_, ?_, ?_, ?_, ?_⟩
            · exact V1_cg hN (fun k a => hg k (by omega)) (fun b a => hm b (by omega)) v1
            · intro p q hp hq
              have hv2 := v2 p q hp hq
              by_cases e1 : p = y ∧ q = x
              · obtain ⟨rfl, rfl⟩ := e1
                rw [up_at, show 49 + 2 + p = 51 + p from by omega, up_at]
              · rw [up_ns (a := 1) (by omega), up_nx (a := 51 + y) (by omega)]
                by_cases e2 : p = x ∧ q = y
                · obtain ⟨rfl, rfl⟩ := e2
                  rw [up_at, show 49 + 2 + p = 51 + p from by omega, up_at]
                · rw [up_ns (a := 1) (by omega), up_nx (by omega)]
                  exact hv2
            · exact V3_cg hN (fun k a => hg k (by omega)) (fun b a => hm b (by omega)) v3
            · exact V4_cg hN (fun k a => hg k (by omega)) (fun b a => hm b (by omega)) v4
            · exact V5_cg hN (fun k a => hg k (by omega)) (fun b a => hm b (by omega)) v5
            · exact V6_cg hN (fun k a => hg k (by omega)) (fun b a => hm b (by omega)) v6
            · exact V7_cg hN (fun k a => hg k (by omega)) (fun b a => hm b (by omega)) v7
            · exact V8_cg hN (fun k a => hg k (by omega)) (fun b a => hm b (by omega)) v8
            · exact V9_cg hN (fun k a => hg k (by omega)) (fun b a => hm b (by omega)) v9
            · exact V10_cg hN (fun k a => hg k (by omega)) (fun b a => hm b (by omega)) v10
            · exact V11_cg hN (fun k a => hg k (by omega)) (fun b a => hm b (by omega)) v11
            · exact V12_cg hN (fun k a => hg k (by omega)) (fun b a => hm b (by omega)) v12
          · refine ⟨?_, ?_, ?_, ?_, ?_, ?_, ?_, ?_, ?_, ?_, ?_, ?_⟩
            · exact I1_cg hN (fun k a => hg k (by omega)) i1
            · exact I2_cg hN (fun k a => hg k (by omega)) i2
            · intro p q hp hq
              by_cases e1 : p = y ∧ q = x
              · obtain ⟨rfl, rfl⟩ := e1
                rw [up_at]
                exact cn
              · rw [up_ns (by omega)]
                by_cases e2 : p = x ∧ q = y
                · obtain ⟨rfl, rfl⟩ := e2
                  rw [up_at]
                  exact cn
                · rw [up_ns (by omega)]
                  exact i3 p q hp hq
            · exact I4_cg hN (fun k a => hg k (by omega)) i4
            · exact I5_cg hN (fun k a => hg k (by omega)) i5
            · exact I6_cg hN (fun k a => hg k (by omega)) i6
            · exact I7_cg hN (fun k a => hg k (by omega)) i7
            · exact I8_cg hN (fun k a => hg k (by omega)) i8
            · exact I9_cg hN (fun k a => hg k (by omega)) i9
            · exact I10_cg hN (fun k a => hg k (by omega)) i10
            · exact I11_cg hN (fun k a => hg k (by omega)) i11
            · exact I12_cg hN (fun k a => hg k (by omega)) i12
        · exact Ok_of (y := (-1, μ)) (by simp [f_11_road, hasV_eq, isIn_eq, rf_23_0, em8, c1, c2, c3, c4]) (Ok_of (y := (-1, ν)) (by simp [f_12_road, is_8, within_eq, en8, c1, c2, c3, c4]) ⟨rfl, h⟩)
    · exact Ok_of (y := (-1, μ)) (by simp [f_11_road, hasV_eq, rf_23_0, em8, c1, c2]) (Ok_of (y := (-1, ν)) (by simp [f_12_road, is_8, en8, c1, c2]) ⟨rfl, h⟩)
  · exact Ok_of (y := (-1, μ)) (by simp [f_11_road, hasV_eq, rf_23_0, em8, c1]) (Ok_of (y := (-1, ν)) (by simp [f_12_road, is_8, en8, c1]) ⟨rfl, h⟩)
set_option maxHeartbeats 1000000 in
theorem T_shop {μ ν : mm} (a c : Int32) (h : Cp μ ν) : Ok (f_11_shop 23 a c μ) fun z => Ok (f_12_shop 0 a c ν) fun z2 => z.1 = z2.1 ∧ Cp z.2 z2.2 := by
  obtain ⟨n8, hn8, en8, nn8⟩ := cnt_of (m := 6) (by decide) h.2.1.2.1.1
  have em8 : μ 49 1 = nI n8 := (h.1.1 8 (by decide)).symm.trans en8
  obtain ⟨n10, hn10, en10, nn10⟩ := cnt_of (m := 4) (by decide) h.2.1.2.1.2.2.1
  have em10 : μ 49 3 = nI n10 := (h.1.1 10 (by decide)).symm.trans en10
  have hN := IV_nn h.2.1
  obtain ⟨⟨v1, v2, v3, v4, v5, v6, v7, v8, v9, v10, v11, v12⟩, ⟨i1, i2, i3, i4, i5, i6, i7, i8, i9, i10, i11, i12⟩, -⟩ := id h
  by_cases c1 : 0 ≤ a ∧ a ≤ nI n8 - 1
  · by_cases c2 : 0 ≤ c ∧ c ≤ 999
    · by_cases c3 : n10 = 4
      · subst c3
        exact Ok_of (y := (-2, μ)) (by simp [f_11_shop, hasV_eq, isIn_eq, rf_23_0, em8, c1, c2, em10, show ¬ nI 4 < 4 from by decide]) (Ok_of (y := (-2, ν)) (by simp [f_12_shop, is_8, within_eq, rf_0_0, l_10, en8, c1, c2, en10, show nI 4 = 4 from rfl]) ⟨rfl, h⟩)
      · have c4 : n10 < 4 := by omega
        have s1 : lda 58 (nI n10) = some (105 + n10) := by rw [lda_nI (by rw [len_58]; omega) (by decide), rf_58_ n10 c4]
        refine Ok_of (y := (nI n10, up (up (up (up μ (105 + n10) (0) (a)) (105 + n10) (1) (c)) (105 + n10) (2) (0)) (49) (3) (nI (n10 + 1)))) (by simp (disch := omega) [f_11_shop, f_6_open, hasV_eq, isIn_eq, rf_23_0, rf_49_9, pf_eq, em8, c1, c2, em10, lt_4 c4, s1, up_nc, up_at, nI_1, nI_pred]) ?_
        refine Ok_of (y := (nI n10, up (up (up (up ν (1) (84 + 3 * n10) (a)) (1) (84 + 3 * n10 + 1) (c)) (1) (84 + 3 * n10 + 2) (0)) (1) (10) (nI (n10 + 1)))) (by simp (disch := omega) [f_12_shop, f_12_ofShop, is_8, within_eq, rf_0_0, l_10, s_10, sto1, en8, c1, c2, en10, ne_4 c4, ix_84_, nI_1, nI_p2, up_ns, up_at]) ?_
        dsimp only
        have hm : ∀ b, (b ≠ 49 ∧ b ≠ 105 + n10) → (up (up (up (up μ (105 + n10) (0) (a)) (105 + n10) (1) (c)) (105 + n10) (2) (0)) (49) (3) (nI (n10 + 1))) b = μ b := fun b q => by rw [up_ne (by omega), up_ne (by omega), up_ne (by omega), up_ne (by omega)]
        have hg : ∀ k, (k ≠ 10 ∧ (k < 84 + 3 * n10 ∨ 87 + 3 * n10 ≤ k)) → (up (up (up (up ν (1) (84 + 3 * n10) (a)) (1) (84 + 3 * n10 + 1) (c)) (1) (84 + 3 * n10 + 2) (0)) (1) (10) (nI (n10 + 1))) 1 k = ν 1 k := fun k q => by rw [up_ns (by omega), up_ns (by omega), up_ns (by omega), up_ns (by omega)]
        have hn1 : ∀ b, b ≠ 1 → (up (up (up (up ν (1) (84 + 3 * n10) (a)) (1) (84 + 3 * n10 + 1) (c)) (1) (84 + 3 * n10 + 2) (0)) (1) (10) (nI (n10 + 1))) b = ν b := fun b q => by rw [up_ne q, up_ne q, up_ne q, up_ne q]
        refine ⟨rfl, Cp_now h (fun b q => hm b (by omega)) hn1 ?_ ?_⟩
        · refine ⟨?_, ?_, ?_, ?_, ?_, ?_, ?_, ?_, ?_, ?_, ?_, ?_⟩
          · exact V1_up (k0 := 10) (c := 0) (s := 3) (by decide) rfl rfl (by simp (disch := omega) [up_at, up_ns, up_nc]) (fun k a b => hg k (by omega)) (fun b j q1 q2 => by rw [up_nx (by omega), up_nx (by omega), up_nx (by omega), up_nx (by omega)]) v1
          · exact V2_cg hN (fun k a => hg k (by omega)) (fun b a => hm b (by omega)) v2
          · exact V3_cg hN (fun k a => hg k (by omega)) (fun b a => hm b (by omega)) v3
          · intro s f hs hf
            rw [up_at, nn_nI (by omega)] at hs
            by_cases e : s = n10
            · subst e
              have e3 : f = 0 ∨ f = 1 ∨ f = 2 := by omega
              rw [show 49 + 56 + s = 105 + s from by omega]
              rcases e3 with rfl | rfl | rfl <;> simp (disch := omega) [up_at, up_ns, up_nc]
            · have q := v4 s f (by omega) hf
              rw [hg _ (by omega), hm _ (by omega)]
              exact q
          · exact V5_cg hN (fun k a => hg k (by omega)) (fun b a => hm b (by omega)) v5
          · exact V6_cg hN (fun k a => hg k (by omega)) (fun b a => hm b (by omega)) v6
          · exact V7_cg hN (fun k a => hg k (by omega)) (fun b a => hm b (by omega)) v7
          · exact V8_cg hN (fun k a => hg k (by omega)) (fun b a => hm b (by omega)) v8
          · exact V9_cg hN (fun k a => hg k (by omega)) (fun b a => hm b (by omega)) v9
          · exact V10_cg hN (fun k a => hg k (by omega)) (fun b a => hm b (by omega)) v10
          · exact V11_cg hN (fun k a => hg k (by omega)) (fun b a => hm b (by omega)) v11
          · exact V12_cg hN (fun k a => hg k (by omega)) (fun b a => hm b (by omega)) v12
        · refine ⟨?_, ?_, ?_, ?_, ?_, ?_, ?_, ?_, ?_, ?_, ?_, ?_⟩
          · exact I1_cg hN (fun k a => hg k (by omega)) i1
          · refine ⟨?_, ?_, ?_, ?_, ?_, ?_, ?_, ?_, ?_, ?_⟩
            · rw [hg 8 (by omega)]; exact i2.1
            · rw [hg 9 (by omega)]; exact i2.2.1
            · rw [up_at]; exact le_lit (m := 4) (by omega) (by decide)
            · rw [hg 11 (by omega)]; exact i2.2.2.2.1
            · rw [hg 12 (by omega)]; exact i2.2.2.2.2.1
            · rw [hg 13 (by omega)]; exact i2.2.2.2.2.2.1
            · rw [hg 14 (by omega)]; exact i2.2.2.2.2.2.2.1
            · rw [hg 15 (by omega)]; exact i2.2.2.2.2.2.2.2.1
            · rw [hg 16 (by omega)]; exact i2.2.2.2.2.2.2.2.2.1
            · rw [hg 17 (by omega)]; exact i2.2.2.2.2.2.2.2.2.2
          · exact I3_cg hN (fun k a => hg k (by omega)) i3
          · exact I4_cg hN (fun k a => hg k (by omega)) i4
          · intro s hs
            rw [up_at, nn_nI (by omega)] at hs
            rw [hg 8 (by omega)]
            by_cases e : s = n10
            · subst e
              rw [show 85 + 3 * s = 84 + 3 * s + 1 from by omega, show 86 + 3 * s = 84 + 3 * s + 2 from by omega]
              simp (disch := omega) only [up_at, up_ns]
              rw [en8]
              exact ⟨lt_of_in (by omega) c1, c2.2, by decide, c2.1⟩
            · have q := i5 s (by omega)
              rw [hg _ (by omega), hg _ (by omega), hg _ (by omega)]
              exact q
          · exact I6_cg hN (fun k a => hg k (by omega)) i6
          · exact I7_cg hN (fun k a => hg k (by omega)) i7
          · exact I8_cg hN (fun k a => hg k (by omega)) i8
          · exact I9_cg hN (fun k a => hg k (by omega)) i9
          · exact I10_cg hN (fun k a => hg k (by omega)) i10
          · exact I11_cg hN (fun k a => hg k (by omega)) i11
          · exact I12_cg hN (fun k a => hg k (by omega)) i12
    · exact Ok_of (y := (-1, μ)) (by simp [f_11_shop, hasV_eq, isIn_eq, rf_23_0, em8, c1, c2]) (Ok_of (y := (-1, ν)) (by simp [f_12_shop, is_8, within_eq, en8, c1, c2]) ⟨rfl, h⟩)
  · exact Ok_of (y := (-1, μ)) (by simp [f_11_shop, hasV_eq, rf_23_0, em8, c1]) (Ok_of (y := (-1, ν)) (by simp [f_12_shop, is_8, en8, c1]) ⟨rfl, h⟩)
theorem rf_59_ : ∀ s, s < 16 → rf 59 s = 109 + s := by decide +kernel
theorem house1 {ν : mm} {p f : Nat} (h : 96 + 12 * p + f < 912) : f_12_house 0 (nI p) (nI f) ν = some (ν 1 (96 + 12 * p + f)) := by
  simp (disch := omega) [f_12_house, rf_0_0, ix_96_, nI_add, ld1]
theorem gone_eq {ν : mm} {p : Nat} (hp : p < 16) : f_12_isGone 0 (nI p) ν = some (if ν 1 (96 + 12 * p + 10) = 1 ∨ ν 1 (96 + 12 * p + 11) = 1 then 1 else 0) := by
  unfold f_12_isGone
  rw [show (10 : Int32) = nI 10 from rfl, show (11 : Int32) = nI 11 from rfl, house1 (by omega), house1 (by omega)]
  by_cases a : ν 1 (96 + 12 * p + 10) = 1 <;> by_cases b : ν 1 (96 + 12 * p + 11) = 1 <;> simp [a, b]
set_option maxHeartbeats 1000000 in
theorem T_paper {μ ν : mm} (a : Int32) (h : Cp μ ν) : Ok (f_11_paper 23 a μ) fun z => Ok (f_12_paper 0 a ν) fun z2 => z.1 = z2.1 ∧ Cp z.2 z2.2 := by
  obtain ⟨n11, hn11, en11, nn11⟩ := cnt_of (m := 16) (by decide) h.2.1.2.1.2.2.2.1
  have em11 : μ 49 4 = nI n11 := (h.1.1 11 (by decide)).symm.trans en11
  obtain ⟨n13, hn13, en13, nn13⟩ := cnt_of (m := 12) (by decide) h.2.1.2.1.2.2.2.2.2.1
  have em13 : μ 64 4 = nI n13 := (h.1.1 13 (by decide)).symm.trans en13
  have e0 : ν 1 0 = μ 49 0 := h.1.1 0 (by decide)
  have hN := IV_nn h.2.1
  obtain ⟨⟨v1, v2, v3, v4, v5, v6, v7, v8, v9, v10, v11, v12⟩, ⟨i1, i2, i3, i4, i5, i6, i7, i8, i9, i10, i11, i12⟩, -⟩ := id h
  by_cases c1 : 0 ≤ a ∧ a ≤ nI n11 - 1
  · obtain ⟨p, hp, rfl⟩ := in_of (by omega) c1
    have l1 : lda 59 (nI p) = some (109 + p) := by rw [lda_nI (by rw [len_59]; omega) (by decide), rf_59_ p (by omega)]
    have f10 : ν 1 (96 + 12 * p + 10) = μ (109 + p) 10 := v5 p 10 (by omega) (by decide)
    have f11 : ν 1 (96 + 12 * p + 11) = μ (109 + p) 11 := v5 p 11 (by omega) (by decide)
    obtain ⟨-, -, -, -, -, -, -, b10, b11, -⟩ := i6 p (by omega)
    rw [show 106 + 12 * p = 96 + 12 * p + 10 from by omega, f10] at b10
    rw [show 107 + 12 * p = 96 + 12 * p + 11 from by omega, f11] at b11
    by_cases c2 : μ (109 + p) 10 = 1 ∨ μ (109 + p) 11 = 1
    · refine Ok_of (y := (-4, μ)) ?_ (Ok_of (y := (-4, ν)) (by simp [f_12_paper, is_11, en11, c1, gone_eq (ν := ν) (p := p) (by omega), f10, f11, c2]) ⟨rfl, h⟩)
      rcases b11 with b11 | b11
      · rcases b10 with b10 | b10
        · rw [b10, b11] at c2
          exact absurd c2 (by decide)
        · simp [f_11_paper, hasH_eq, rf_23_0, rf_49_10, em11, c1, l1, b10, b11]
      · simp [f_11_paper, hasH_eq, rf_23_0, rf_49_10, em11, c1, l1, b11]
    · have b10 : μ (109 + p) 10 = 0 := b10.resolve_right (fun q => c2 (Or.inl q))
      have b11 : μ (109 + p) 11 = 0 := b11.resolve_right (fun q => c2 (Or.inr q))
      rw [b10] at f10
      rw [b11] at f11
      by_cases c3 : n13 = 12
      · subst c3
        exact Ok_of (y := (-2, μ)) (by simp [f_11_paper, hasH_eq, rf_23_0, rf_49_10, rf_49_13, em11, c1, l1, b10, b11, em13, show ¬ nI 12 < 12 from by decide]) (Ok_of (y := (-2, ν)) (by simp [f_12_paper, is_11, rf_0_0, l_13, en11, c1, gone_eq (ν := ν) (p := p) (by omega), f10, f11, en13, show nI 12 = 12 from rfl]) ⟨rfl, h⟩)
      · have c4 : n13 < 12 := by omega
        have s1 : ∀ (μ : mm) v, sto μ 68 (nI n13) v = some (up μ 68 n13 v) := fun μ v => sto_nI (by rw [len_68]; exact c4) (by decide)
        have s2 : ∀ (μ : mm) v, sto μ 69 (nI n13) v = some (up μ 69 n13 v) := fun μ v => sto_nI (by rw [len_69]; exact c4) (by decide)
        have s3 : ∀ (μ : mm) v, sto μ 70 (nI n13) v = some (up μ 70 n13 v) := fun μ v => sto_nI (by rw [len_70]; exact c4) (by decide)
        refine Ok_of (y := (nI n13, up (up (up (up μ (68) (n13) (nI p)) (69) (n13) (μ 49 0)) (70) (n13) (0)) (64) (4) (nI (n13 + 1)))) (by simp (disch := omega) [f_11_paper, f_7_writePaper, hasH_eq, rf_23_0, rf_49_10, rf_49_13, rf_64_5, rf_64_6, rf_64_7, pf_eq, em11, c1, l1, b10, b11, em13, lt_12 c4, s1, s2, s3, up_nc, up_at, nI_1, nI_pred]) ?_
        refine Ok_of (y := (nI n13, up (up (up (up ν (1) (807 + 3 * n13) (nI p)) (1) (807 + 3 * n13 + 1) (μ 49 0)) (1) (807 + 3 * n13 + 2) (0)) (1) (13) (nI (n13 + 1)))) (by simp (disch := omega) [f_12_paper, is_11, rf_0_0, l_13, l_0, s_13, sto1, en11, c1, gone_eq (ν := ν) (p := p) (by omega), f10, f11, en13, ne_12 c4, ix_807_, nI_1, nI_p2, up_ns, up_at, e0]) ?_
        dsimp only
        have hm : ∀ b, (b ≠ 64 ∧ b ≠ 68 ∧ b ≠ 69 ∧ b ≠ 70) → (up (up (up (up μ (68) (n13) (nI p)) (69) (n13) (μ 49 0)) (70) (n13) (0)) (64) (4) (nI (n13 + 1))) b = μ b := fun b q => by rw [up_ne (by omega), up_ne (by omega), up_ne (by omega), up_ne (by omega)]
        have hg : ∀ k, (k ≠ 13 ∧ (k < 807 + 3 * n13 ∨ 810 + 3 * n13 ≤ k)) → (up (up (up (up ν (1) (807 + 3 * n13) (nI p)) (1) (807 + 3 * n13 + 1) (μ 49 0)) (1) (807 + 3 * n13 + 2) (0)) (1) (13) (nI (n13 + 1))) 1 k = ν 1 k := fun k q => by rw [up_ns (by omega), up_ns (by omega), up_ns (by omega), up_ns (by omega)]
        have hn1 : ∀ b, b ≠ 1 → (up (up (up (up ν (1) (807 + 3 * n13) (nI p)) (1) (807 + 3 * n13 + 1) (μ 49 0)) (1) (807 + 3 * n13 + 2) (0)) (1) (13) (nI (n13 + 1))) b = ν b := fun b q => by rw [up_ne q, up_ne q, up_ne q, up_ne q]
        refine ⟨rfl, Cp_now h (fun b q => hm b (by omega)) hn1 ?_ ?_⟩
        · refine ⟨?_, ?_, ?_, ?_, ?_, ?_, ?_, ?_, ?_, ?_, ?_, ?_⟩
          · exact V1_up (k0 := 13) (c := 15) (s := 4) (by decide) rfl rfl (by simp (disch := omega) [up_at, up_ns, up_nc]) (fun k a b => hg k (by omega)) (fun b j q1 q2 => by rw [up_nx (by omega), up_nx (by omega), up_nx (by omega), up_nx (by omega)]) v1
          · exact V2_cg hN (fun k a => hg k (by omega)) (fun b a => hm b (by omega)) v2
          · exact V3_cg hN (fun k a => hg k (by omega)) (fun b a => hm b (by omega)) v3
          · exact V4_cg hN (fun k a => hg k (by omega)) (fun b a => hm b (by omega)) v4
          · exact V5_cg hN (fun k a => hg k (by omega)) (fun b a => hm b (by omega)) v5
          · exact V6_cg hN (fun k a => hg k (by omega)) (fun b a => hm b (by omega)) v6
          · intro j hj12
            have q := v7 j hj12
            refine ⟨?_, fun hj => ?_⟩
            · by_cases e : j = n13
              · subst e
                refine Or.inl ?_
                simp (disch := omega) [up_at, up_ns, up_nc]
              · simpa (disch := omega) [up_ns, up_nc] using q.1
            · rw [up_at, nn_nI (by omega)] at hj
              by_cases e : j = n13
              · subst e
                refine ⟨?_, ?_, ?_⟩ <;> simp (disch := omega) [up_at, up_ns, up_nc]
              · have q := q.2 (by omega)
                rw [hg _ (by omega), hg _ (by omega), hg _ (by omega)]
                simpa (disch := omega) [up_ns, up_nc] using q
          · exact V8_cg hN (fun k a => hg k (by omega)) (fun b a => hm b (by omega)) v8
          · exact V9_cg hN (fun k a => hg k (by omega)) (fun b a => hm b (by omega)) v9
          · exact V10_cg hN (fun k a => hg k (by omega)) (fun b a => hm b (by omega)) v10
          · exact V11_cg hN (fun k a => hg k (by omega)) (fun b a => hm b (by omega)) v11
          · exact V12_cg hN (fun k a => hg k (by omega)) (fun b a => hm b (by omega)) v12
        · refine ⟨?_, ?_, ?_, ?_, ?_, ?_, ?_, ?_, ?_, ?_, ?_, ?_⟩
          · exact I1_cg hN (fun k a => hg k (by omega)) i1
          · refine ⟨?_, ?_, ?_, ?_, ?_, ?_, ?_, ?_, ?_, ?_⟩
            · rw [hg 8 (by omega)]; exact i2.1
            · rw [hg 9 (by omega)]; exact i2.2.1
            · rw [hg 10 (by omega)]; exact i2.2.2.1
            · rw [hg 11 (by omega)]; exact i2.2.2.2.1
            · rw [hg 12 (by omega)]; exact i2.2.2.2.2.1
            · rw [up_at]; exact le_lit (m := 12) (by omega) (by decide)
            · rw [hg 14 (by omega)]; exact i2.2.2.2.2.2.2.1
            · rw [hg 15 (by omega)]; exact i2.2.2.2.2.2.2.2.1
            · rw [hg 16 (by omega)]; exact i2.2.2.2.2.2.2.2.2.1
            · rw [hg 17 (by omega)]; exact i2.2.2.2.2.2.2.2.2.2
          · exact I3_cg hN (fun k a => hg k (by omega)) i3
          · exact I4_cg hN (fun k a => hg k (by omega)) i4
          · exact I5_cg hN (fun k a => hg k (by omega)) i5
          · exact I6_cg hN (fun k a => hg k (by omega)) i6
          · exact I7_cg hN (fun k a => hg k (by omega)) i7
          · intro j hj
            rw [up_at, nn_nI (by omega)] at hj
            rw [hg 11 (by omega)]
            by_cases e : j = n13
            · subst e
              rw [show 808 + 3 * j = 807 + 3 * j + 1 from by omega, show 809 + 3 * j = 807 + 3 * j + 2 from by omega]
              simp (disch := omega) only [up_at, up_ns]
              rw [en11]
              exact ⟨lt_of_in (by omega) c1, by rw [← e0]; exact i1.1, Or.inl trivial⟩
            · have q := i8 j (by omega)
              rw [hg _ (by omega), hg _ (by omega), hg _ (by omega)]
              exact q
          · exact I9_cg hN (fun k a => hg k (by omega)) i9
          · exact I10_cg hN (fun k a => hg k (by omega)) i10
          · exact I11_cg hN (fun k a => hg k (by omega)) i11
          · exact I12_cg hN (fun k a => hg k (by omega)) i12
  · exact Ok_of (y := (-1, μ)) (by simp [f_11_paper, hasH_eq, rf_23_0, em11, c1]) (Ok_of (y := (-1, ν)) (by simp [f_12_paper, is_11, en11, c1]) ⟨rfl, h⟩)
theorem rf_57_ : ∀ s, s < 4 → rf 57 s = 101 + s := by decide +kernel
theorem pm6 : ∀ f, f < 7 → pm f = 6 → f = 6 := by decide +kernel
set_option maxHeartbeats 1000000 in
theorem T_set {μ ν : mm} (a x : Int32) (h : Cp μ ν) : Ok (f_11_set 23 a x μ) fun z => Ok (f_12_set 0 a x ν) fun z2 => z.1 = z2.1 ∧ Cp z.2 z2.2 := by
  obtain ⟨n9, hn9, en9, nn9⟩ := cnt_of (m := 4) (by decide) h.2.1.2.1.2.1
  have em9 : μ 49 2 = nI n9 := (h.1.1 9 (by decide)).symm.trans en9
  have e3 : ν 1 3 = μ 49 6 := h.1.1 3 (by decide)
  have e4 : ν 1 4 = μ 61 1 := h.1.1 4 (by decide)
  have e5 : ν 1 5 = μ 71 0 := h.1.1 5 (by decide)
  have hN := IV_nn h.2.1
  obtain ⟨⟨v1, v2, v3, v4, v5, v6, v7, v8, v9, v10, v11, v12⟩, ⟨i1, i2, i3, i4, i5, i6, i7, i8, i9, i10, i11, i12⟩, -⟩ := id h
  by_cases a0 : a = 0
  · subst a0
    by_cases c : 0 ≤ x ∧ x ≤ 1
    · have b3 := i1.2.2.2.1
      rw [e3] at b3
      have bx : x = 0 ∨ x = 1 := by
        obtain ⟨k, hk, rfl⟩ := bit_of c
        have : k = 0 ∨ k = 1 := by omega
        rcases this with rfl | rfl
        · exact Or.inl rfl
        · exact Or.inr rfl
      refine Ok_of (y := (μ 49 6, up μ 49 6 x)) ?_ (Ok_of (y := (μ 49 6, up ν 1 3 x)) (by simp [f_12_set, f_12_set_b72, within_eq, rf_0_0, l_3, s_3, c, Int32.not_lt.mpr c.2, e3]) ⟨rfl, Cp_scal 3 (by decide) (by decide) c h⟩)
      rcases bx with rfl | rfl <;> rcases b3 with b3 | b3 <;> simp [f_11_set, f_11_chooseCold, f_11_asBit, isIn_eq, rf_23_0, pf_eq, gb_0, gb_1, b3]
    · exact Ok_of (y := (-1, μ)) (by simp [f_11_set, f_11_chooseCold, isIn_eq, c]) (Ok_of (y := (-1, ν)) (by simp [f_12_set, f_12_set_b72, within_eq, c]) ⟨rfl, h⟩)
  · by_cases a1 : a = 1
    · subst a1
      by_cases c : 0 ≤ x ∧ x ≤ 999
      · exact Ok_of (y := (μ 61 1, up μ 61 1 x)) (by simp [f_11_set, f_11_chooseBurn, isIn_eq, rf_23_0, rf_49_12, pf_eq, c]) (Ok_of (y := (μ 61 1, up ν 1 4 x)) (by simp [f_12_set, f_12_set_b72, within_eq, rf_0_0, l_4, s_4, c, Int32.not_lt.mpr c.2, e4]) ⟨rfl, Cp_scal 4 (by decide) (by decide) c h⟩)
      · exact Ok_of (y := (-1, μ)) (by simp [f_11_set, f_11_chooseBurn, isIn_eq, c]) (Ok_of (y := (-1, ν)) (by simp [f_12_set, f_12_set_b72, within_eq, c]) ⟨rfl, h⟩)
    · by_cases a2 : a = 2
      · subst a2
        by_cases c : 0 ≤ x ∧ x ≤ 9
        · exact Ok_of (y := (μ 71 0, up μ 71 0 x)) (by simp [f_11_set, f_11_chooseMiles, isIn_eq, rf_23_0, rf_49_14, pf_eq, c]) (Ok_of (y := (μ 71 0, up ν 1 5 x)) (by simp [f_12_set, f_12_set_b72, within_eq, rf_0_0, l_5, s_5, c, Int32.not_lt.mpr c.2, e5]) ⟨rfl, Cp_scal 5 (by decide) (by decide) c h⟩)
        · exact Ok_of (y := (-1, μ)) (by simp [f_11_set, f_11_chooseMiles, isIn_eq, c]) (Ok_of (y := (-1, ν)) (by simp [f_12_set, f_12_set_b72, within_eq, c]) ⟨rfl, h⟩)
      · have nr : ¬ (0 ≤ a ∧ a ≤ 2) := fun q => by
          obtain ⟨j, hj, rfl⟩ := nI_of2 (M := 2) (n := 2) (by decide) (Int32.not_lt.mpr q.1) q.2
          have : j = 0 ∨ j = 1 ∨ j = 2 := by omega
          rcases this with rfl | rfl | rfl
          · exact a0 rfl
          · exact a1 rfl
          · exact a2 rfl
        by_cases c1 : 10 ≤ a ∧ a ≤ 13
        · have c1a : ¬ a < 10 := Int32.not_lt.mpr c1.1
          by_cases c2 : 0 ≤ a - 10 ∧ a - 10 ≤ nI n9 - 1
          · by_cases c3 : 0 ≤ x ∧ x ≤ 900
            · obtain ⟨p, hp, ep⟩ := in_of (by omega) c2
              have s1 : lda 57 (nI p) = some (101 + p) := by rw [lda_nI (by rw [len_57]; omega) (by decide), rf_57_ p (by omega)]
              have hv : μ (101 + p) 6 = ν 1 (56 + 7 * p + 6) := (v3 p 6 (by omega) (by decide)).symm
              rw [ep] at c2
              refine Ok_of (y := (μ (101 + p) 6, up μ (101 + p) (6) (x))) (by simp (disch := omega) [f_11_set, f_11_chooseWant, a0, a1, a2, hasP_eq, isIn_eq, rf_23_0, rf_49_8, pf_eq, em9, c1, c2, c3, ep, s1]) ?_
              refine Ok_of (y := (ν 1 (56 + 7 * p + 6), up ν (1) (56 + 7 * p + 6) (x))) (by simp (disch := omega) [f_12_set, f_12_set_b72, a0, a1, a2, f_12_ofPit, is_9, within_eq, rf_0_0, sto1, ld1, c1a, c2, c3, Int32.not_lt.mpr c3.2, ep, en9, ix_56_, nI_p6]) ?_
              dsimp only
              have hm : ∀ b, (b ≠ 101 + p) → (up μ (101 + p) (6) (x)) b = μ b := fun b q => by rw [up_ne (by omega)]
              have hg : ∀ k, (k ≠ 56 + 7 * p + 6) → (up ν (1) (56 + 7 * p + 6) (x)) 1 k = ν 1 k := fun k q => by rw [up_ns (by omega)]
              have hn1 : ∀ b, b ≠ 1 → (up ν (1) (56 + 7 * p + 6) (x)) b = ν b := fun b q => by rw [up_ne q]
              refine ⟨hv, Cp_now h (fun b q => hm b (by omega)) hn1 ?_ ?_⟩
              · refine ⟨?_, ?_, ?_, ?_, ?_, ?_, ?_, ?_, ?_, ?_, ?_, ?_⟩
                · exact V1_cg hN (fun k a => hg k (by omega)) (fun b a => hm b (by omega)) v1
                · exact V2_cg hN (fun k a => hg k (by omega)) (fun b a => hm b (by omega)) v2
                · intro q f hq hf
                  rw [hg 9 (by omega)] at hq
                  have hv3 := v3 q f hq hf
                  by_cases e : q = p ∧ f = 6
                  · obtain ⟨rfl, rfl⟩ := e
                    rw [up_at, show 49 + 52 + q = 101 + q from by omega, show pm 6 = 6 from rfl, up_at]
                    rfl
                  · rw [hg _ (by omega), up_nx (fun z => e ⟨by omega, pm6 f hf z.2⟩)]
                    exact hv3
                · exact V4_cg hN (fun k a => hg k (by omega)) (fun b a => hm b (by omega)) v4
                · exact V5_cg hN (fun k a => hg k (by omega)) (fun b a => hm b (by omega)) v5
                · exact V6_cg hN (fun k a => hg k (by omega)) (fun b a => hm b (by omega)) v6
                · exact V7_cg hN (fun k a => hg k (by omega)) (fun b a => hm b (by omega)) v7
                · exact V8_cg hN (fun k a => hg k (by omega)) (fun b a => hm b (by omega)) v8
                · exact V9_cg hN (fun k a => hg k (by omega)) (fun b a => hm b (by omega)) v9
                · exact V10_cg hN (fun k a => hg k (by omega)) (fun b a => hm b (by omega)) v10
                · exact V11_cg hN (fun k a => hg k (by omega)) (fun b a => hm b (by omega)) v11
                · exact V12_cg hN (fun k a => hg k (by omega)) (fun b a => hm b (by omega)) v12
              · refine ⟨?_, ?_, ?_, ?_, ?_, ?_, ?_, ?_, ?_, ?_, ?_, ?_⟩
                · exact I1_cg hN (fun k a => hg k (by omega)) i1
                · exact I2_cg hN (fun k a => hg k (by omega)) i2
                · exact I3_cg hN (fun k a => hg k (by omega)) i3
                · intro q hq
                  rw [hg 9 (by omega)] at hq
                  obtain ⟨a1, a2, a3, a4, a5, a6, a7, a8⟩ := i4 q hq
                  rw [hg 8 (by omega), hg (56 + 7 * q) (by omega), hg (57 + 7 * q) (by omega), hg (58 + 7 * q) (by omega), hg (59 + 7 * q) (by omega), hg (60 + 7 * q) (by omega), hg (61 + 7 * q) (by omega)]
                  refine ⟨a1, a2, a3, a4, a5, a6, a7, ?_⟩
                  by_cases e : q = p
                  · subst e
                    rw [show 62 + 7 * q = 56 + 7 * q + 6 from by omega, up_at]
                    exact c3
                  · rw [hg _ (by omega)]
                    exact a8
                · exact I5_cg hN (fun k a => hg k (by omega)) i5
                · exact I6_cg hN (fun k a => hg k (by omega)) i6
                · exact I7_cg hN (fun k a => hg k (by omega)) i7
                · exact I8_cg hN (fun k a => hg k (by omega)) i8
                · exact I9_cg hN (fun k a => hg k (by omega)) i9
                · exact I10_cg hN (fun k a => hg k (by omega)) i10
                · exact I11_cg hN (fun k a => hg k (by omega)) i11
                · exact I12_cg hN (fun k a => hg k (by omega)) i12
            · exact Ok_of (y := (-1, μ)) (by simp [f_11_set, f_11_chooseWant, a0, a1, a2, hasP_eq, isIn_eq, rf_23_0, em9, c1, c2, c3]) (Ok_of (y := (-1, ν)) (by simp [f_12_set, f_12_set_b72, a0, a1, a2, is_9, within_eq, c1a, c2, c3, en9]) ⟨rfl, h⟩)
          · exact Ok_of (y := (-1, μ)) (by simp [f_11_set, f_11_chooseWant, a0, a1, a2, hasP_eq, isIn_eq, rf_23_0, em9, c1, c2]) (Ok_of (y := (-1, ν)) (by simp [f_12_set, a0, a1, a2, is_9, within_eq, c1a, c2, en9, nr]) ⟨rfl, h⟩)
        · refine Ok_of (y := (-1, μ)) (by simp [f_11_set, f_11_chooseWant, a0, a1, a2, isIn_eq, c1]) (Ok_of (y := (-1, ν)) ?_ ⟨rfl, h⟩)
          by_cases c1a : a < 10
          · simp [f_12_set, a0, a1, a2, within_eq, c1a, nr]
          · have c2 : ¬ (0 ≤ a - 10 ∧ a - 10 ≤ nI n9 - 1) := fun q => by
              obtain ⟨p, hp, ep⟩ := in_of (by omega) q
              have e1 : a = nI (p + 10) := by rw [← nI_p10, ← ep, Int32.sub_add_cancel]
              exact c1 ⟨Int32.not_lt.mp c1a, by rw [e1]; exact nI_le (b := 13) (by omega) (by decide)⟩
            simp [f_12_set, a0, a1, a2, is_9, within_eq, c1a, c2, en9, nr]
