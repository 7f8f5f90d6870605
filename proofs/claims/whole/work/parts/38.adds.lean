/-! news, ships, posts, clauses, worths -/
theorem up_nx {μ : mm} {a k b j : Nat} {v : Int32} (h : ¬ (b = a ∧ j = k)) : up μ a k v b j = μ b j := by rw [up_app, if_neg h]
/-- a cell's slots from i on below e are x -/
def flM (μ : mm) (a i e : Nat) (x : Int32) : mm := fun b => if b = a then fun j => if i ≤ j ∧ j < e then x else μ a j else μ b
theorem flM_ne {μ : mm} {a i e b : Nat} {x : Int32} (h : b ≠ a) : flM μ a i e x b = μ b := if_neg h
theorem flM_nx {μ : mm} {a i e b j : Nat} {x : Int32} (h : b ≠ a) : flM μ a i e x b j = μ b j := by rw [flM_ne h]
theorem flM_in {μ : mm} {a i e j : Nat} {x : Int32} (h : i ≤ j ∧ j < e) : flM μ a i e x a j = x := by
  unfold flM
  rw [if_pos rfl, if_pos h]
theorem flM_out {μ : mm} {a i e j : Nat} {x : Int32} (h : ¬ (i ≤ j ∧ j < e)) : flM μ a i e x a j = μ a j := by
  unfold flM
  rw [if_pos rfl, if_neg h]
theorem flM_nil {μ : mm} {a i : Nat} {x : Int32} : flM μ a i i x = μ := by
  funext b
  by_cases hb : b = a
  · subst hb
    funext j
    exact flM_out (by omega)
  · exact flM_ne hb
theorem flM_up {μ : mm} {a i e : Nat} {x : Int32} (h : i < e) : flM (up μ a i x) a (i + 1) e x = flM μ a i e x := by
  funext b
  by_cases hb : b = a
  · subst hb
    funext j
    by_cases c : i + 1 ≤ j ∧ j < e
    · rw [flM_in c, flM_in (by omega)]
    · rw [flM_out c]
      by_cases c2 : j = i
      · subst c2
        rw [up_at, flM_in (by omega)]
      · rw [up_ns c2, flM_out (by omega)]
  · rw [flM_ne hb, flM_ne hb, up_ne hb]
theorem fill_l {a : Nat} {x : Int32} (hl : len a < 2 ^ 31) : ∀ (m i fuel : Nat) (μ : mm), i + m = len a → m < fuel → f_J7_fill_l5 a x (Int32.ofNat (len a)) fuel (nI i) μ = some (flM μ a i (len a) x) := by
  intro m
  induction m with
  | zero =>
    intro i fuel μ h1 h2
    obtain ⟨f, rfl⟩ : ∃ f, fuel = f + 1 := ⟨fuel - 1, by omega⟩
    obtain rfl : i = len a := by omega
    unfold f_J7_fill_l5
    rw [if_pos (show Int32.ofNat (len a) ≤ nI (len a) from Int32.le_refl _), flM_nil]
  | succ m ih =>
    intro i fuel μ h1 h2
    obtain ⟨f, rfl⟩ : ∃ f, fuel = f + 1 := ⟨fuel - 1, by omega⟩
    unfold f_J7_fill_l5
    rw [if_neg (show ¬ Int32.ofNat (len a) ≤ nI i from nI_ge (a := i) (b := len a) (by omega) hl), sto_nI (by omega) hl]
    show f_J7_fill_l5 a x (Int32.ofNat (len a)) f (nI i + 1) (up μ a i x) = _
    rw [nI_1, ih (i + 1) f (up μ a i x) (by omega) (by omega), flM_up (by omega)]
theorem fill_eq {a : Nat} {x : Int32} {μ : mm} {n : Nat} (hl : len a = n) (hn : n < 2000) : f_J7_fill a x μ = some (flM μ a 0 n x) := by
  subst hl
  unfold f_J7_fill
  rw [show (0 : Int32) = nI 0 from rfl, fill_l (by omega) (len a) 0 FU μ (by omega) hn]
  rfl
set_option maxHeartbeats 1000000 in
theorem T_news {μ ν : mm} (a w : Int32) (h : Cp μ ν) : Ok (f_11_news 23 a w μ) fun z => Ok (f_12_news 0 a w ν) fun z2 => z.1 = z2.1 ∧ Cp z.2 z2.2 := by
  obtain ⟨n8, hn8, en8, nn8⟩ := cnt_of (m := 6) (by decide) h.2.1.2.1.1
  have em8 : μ 49 1 = nI n8 := (h.1.1 8 (by decide)).symm.trans en8
  obtain ⟨n12, hn12, en12, nn12⟩ := cnt_of (m := 12) (by decide) h.2.1.2.1.2.2.2.2.1
  have em12 : μ 64 0 = nI n12 := (h.1.1 12 (by decide)).symm.trans en12
  have e0 : ν 1 0 = μ 49 0 := h.1.1 0 (by decide)
  have hN := IV_nn h.2.1
  obtain ⟨⟨v1, v2, v3, v4, v5, v6, v7, v8, v9, v10, v11, v12⟩, ⟨i1, i2, i3, i4, i5, i6, i7, i8, i9, i10, i11, i12⟩, -⟩ := id h
  by_cases c1 : 0 ≤ a ∧ a ≤ nI n8 - 1
  · by_cases c2 : -20 ≤ w ∧ w ≤ 20
    · by_cases c3 : n12 = 12
      · subst c3
        exact Ok_of (y := (-2, μ)) (by simp [f_11_news, hasV_eq, isIn_eq, rf_23_0, rf_49_13, em8, c1, c2, em12, show ¬ nI 12 < 12 from by decide]) (Ok_of (y := (-2, ν)) (by simp [f_12_news, is_8, within_eq, rf_0_0, l_12, en8, c1, c2, en12, show nI 12 = 12 from rfl]) ⟨rfl, h⟩)
      · have c4 : n12 < 12 := by omega
        have s1 : ∀ (μ : mm) v, sto μ 65 (nI n12) v = some (up μ 65 n12 v) := fun μ v => sto_nI (by rw [len_65]; exact c4) (by decide)
        have s2 : ∀ (μ : mm) v, sto μ 66 (nI n12) v = some (up μ 66 n12 v) := fun μ v => sto_nI (by rw [len_66]; exact c4) (by decide)
        have s3 : ∀ (μ : mm) v, sto μ 67 (nI n12) v = some (up μ 67 n12 v) := fun μ v => sto_nI (by rw [len_67]; exact c4) (by decide)
        refine Ok_of (y := (nI n12, up (up (up (up μ (65) (n12) (a)) (66) (n12) (w)) (67) (n12) (μ 49 0)) (64) (0) (nI (n12 + 1)))) (by simp (disch := omega) [f_11_news, f_7_tell, hasV_eq, isIn_eq, rf_23_0, rf_49_13, rf_64_1, rf_64_2, rf_64_3, pf_eq, em8, c1, c2, em12, lt_12 c4, s1, s2, s3, up_nc, up_at, nI_1, nI_pred]) ?_
        refine Ok_of (y := (nI n12, up (up (up (up ν (1) (771 + 3 * n12) (a)) (1) (771 + 3 * n12 + 1) (μ 49 0)) (1) (771 + 3 * n12 + 2) (w)) (1) (12) (nI (n12 + 1)))) (by simp (disch := omega) [f_12_news, is_8, within_eq, rf_0_0, l_12, l_0, s_12, sto1, en8, c1, c2, en12, ne_12 c4, ix_771_, nI_1, nI_p2, up_ns, up_at, e0]) ?_
        dsimp only
        have hm : ∀ b, (b ≠ 64 ∧ b ≠ 65 ∧ b ≠ 66 ∧ b ≠ 67) → (up (up (up (up μ (65) (n12) (a)) (66) (n12) (w)) (67) (n12) (μ 49 0)) (64) (0) (nI (n12 + 1))) b = μ b := fun b q => by rw [up_ne (by omega), up_ne (by omega), up_ne (by omega), up_ne (by omega)]
        have hg : ∀ k, (k ≠ 12 ∧ (k < 771 + 3 * n12 ∨ 774 + 3 * n12 ≤ k)) → (up (up (up (up ν (1) (771 + 3 * n12) (a)) (1) (771 + 3 * n12 + 1) (μ 49 0)) (1) (771 + 3 * n12 + 2) (w)) (1) (12) (nI (n12 + 1))) 1 k = ν 1 k := fun k q => by rw [up_ns (by omega), up_ns (by omega), up_ns (by omega), up_ns (by omega)]
        have hn1 : ∀ b, b ≠ 1 → (up (up (up (up ν (1) (771 + 3 * n12) (a)) (1) (771 + 3 * n12 + 1) (μ 49 0)) (1) (771 + 3 * n12 + 2) (w)) (1) (12) (nI (n12 + 1))) b = ν b := fun b q => by rw [up_ne q, up_ne q, up_ne q, up_ne q]
        refine ⟨rfl, Cp_now h (fun b q => hm b (by omega)) hn1 ?_ ?_⟩
        · refine ⟨?_, ?_, ?_, ?_, ?_, ?_, ?_, ?_, ?_, ?_, ?_, ?_⟩
          · exact V1_up (k0 := 12) (c := 15) (s := 0) (by decide) rfl rfl (by simp (disch := omega) [up_at, up_ns, up_nc]) (fun k a b => hg k (by omega)) (fun b j q1 q2 => by rw [up_nx (by omega), up_nx (by omega), up_nx (by omega), up_nx (by omega)]) v1
          · exact V2_cg hN (fun k a => hg k (by omega)) (fun b a => hm b (by omega)) v2
          · exact V3_cg hN (fun k a => hg k (by omega)) (fun b a => hm b (by omega)) v3
          · exact V4_cg hN (fun k a => hg k (by omega)) (fun b a => hm b (by omega)) v4
          · exact V5_cg hN (fun k a => hg k (by omega)) (fun b a => hm b (by omega)) v5
          · intro j hj
            rw [up_at, nn_nI (by omega)] at hj
            by_cases e : j = n12
            · subst e
              refine ⟨?_, ?_, ?_⟩ <;> simp (disch := omega) [up_at, up_ns, up_nc]
            · have q := v6 j (by omega)
              rw [hg _ (by omega), hg _ (by omega), hg _ (by omega)]
              simpa (disch := omega) [up_ns, up_nc] using q
          · exact V7_cg hN (fun k a => hg k (by omega)) (fun b a => hm b (by omega)) v7
          · exact V8_cg hN (fun k a => hg k (by omega)) (fun b a => hm b (by omega)) v8
          · exact V9_cg hN (fun k a => hg k (by omega)) (fun b a => hm b (by omega)) v9
          · exact V10_cg hN (fun k a => hg k (by omega)) (fun b a => hm b (by omega)) v10
          · exact V11_cg hN (fun k a => hg k (by omega)) (fun b a => hm b (by omega)) v11
          · exact V12_cg hN (fun k a => hg k (by omega)) (fun b a => hm b (by omega)) v12
        · refine ⟨?_, ?_, ?_, ?_, ?_, ?_, ?_, ?_, ?_, ?_, ?_, ?_⟩
          · exact I1_cg hN (fun k a => hg k (by omega)) i1
          · refine ⟨?_, ?_, ?_, ?_, ?_, ?_, ?_, ?_, ?_, ?_⟩
            · rw [hg 8 (by omega)]; exact i2.1
            · rw [hg 9 (by omega)]; exact i2.2.1
            · rw [hg 10 (by omega)]; exact i2.2.2.1
            · rw [hg 11 (by omega)]; exact i2.2.2.2.1
            · rw [up_at]; exact le_lit (m := 12) (by omega) (by decide)
            · rw [hg 13 (by omega)]; exact i2.2.2.2.2.2.1
            · rw [hg 14 (by omega)]; exact i2.2.2.2.2.2.2.1
            · rw [hg 15 (by omega)]; exact i2.2.2.2.2.2.2.2.1
            · rw [hg 16 (by omega)]; exact i2.2.2.2.2.2.2.2.2.1
            · rw [hg 17 (by omega)]; exact i2.2.2.2.2.2.2.2.2.2
          · exact I3_cg hN (fun k a => hg k (by omega)) i3
          · exact I4_cg hN (fun k a => hg k (by omega)) i4
          · exact I5_cg hN (fun k a => hg k (by omega)) i5
          · exact I6_cg hN (fun k a => hg k (by omega)) i6
          · intro j hj
            rw [up_at, nn_nI (by omega)] at hj
            rw [hg 8 (by omega)]
            by_cases e : j = n12
            · subst e
              rw [show 772 + 3 * j = 771 + 3 * j + 1 from by omega, show 773 + 3 * j = 771 + 3 * j + 2 from by omega]
              simp (disch := omega) only [up_at, up_ns]
              rw [en8]
              exact ⟨lt_of_in (by omega) c1, by rw [← e0]; exact i1.1, c2⟩
            · have q := i7 j (by omega)
              rw [hg _ (by omega), hg _ (by omega), hg _ (by omega)]
              exact q
          · exact I8_cg hN (fun k a => hg k (by omega)) i8
          · exact I9_cg hN (fun k a => hg k (by omega)) i9
          · exact I10_cg hN (fun k a => hg k (by omega)) i10
          · exact I11_cg hN (fun k a => hg k (by omega)) i11
          · exact I12_cg hN (fun k a => hg k (by omega)) i12
    · exact Ok_of (y := (-1, μ)) (by simp [f_11_news, hasV_eq, isIn_eq, rf_23_0, em8, c1, c2]) (Ok_of (y := (-1, ν)) (by simp [f_12_news, is_8, within_eq, en8, c1, c2]) ⟨rfl, h⟩)
  · exact Ok_of (y := (-1, μ)) (by simp [f_11_news, hasV_eq, rf_23_0, em8, c1]) (Ok_of (y := (-1, ν)) (by simp [f_12_news, is_8, en8, c1]) ⟨rfl, h⟩)
set_option maxHeartbeats 1000000 in
theorem T_ship {μ ν : mm} (a w : Int32) (h : Cp μ ν) : Ok (f_11_ship 23 a w μ) fun z => Ok (f_12_ship 0 a w ν) fun z2 => z.1 = z2.1 ∧ Cp z.2 z2.2 := by
  obtain ⟨n14, hn14, en14, nn14⟩ := cnt_of (m := 6) (by decide) h.2.1.2.1.2.2.2.2.2.2.1
  have em14 : μ 61 2 = nI n14 := (h.1.1 14 (by decide)).symm.trans en14
  have e0 : ν 1 0 = μ 49 0 := h.1.1 0 (by decide)
  have b0 := h.2.1.1.1
  have hN := IV_nn h.2.1
  obtain ⟨⟨v1, v2, v3, v4, v5, v6, v7, v8, v9, v10, v11, v12⟩, ⟨i1, i2, i3, i4, i5, i6, i7, i8, i9, i10, i11, i12⟩, -⟩ := id h
  by_cases c1 : 1 ≤ w ∧ w ≤ 9999
  · by_cases c2 : a ≤ μ 49 0
    · have c2a : ¬ (μ 49 0 + 1 ≤ a ∧ a ≤ 999) := by rw [e0] at b0; clear v1 v2 v3 v4 v5 v6 v7 v8 v9 v10 v11 v12 i1 i2 i3 i4 i5 i6 i7 i8 i9 i10 i11 i12 hN h; grind
      exact Ok_of (y := (-1, μ)) (by simp [f_11_ship, isIn_eq, rf_23_0, c1, c2]) (Ok_of (y := (-1, ν)) (by simp [f_12_ship, within_eq, rf_0_0, l_0, e0, c1, c2a]) ⟨rfl, h⟩)
    · by_cases c3 : a ≤ 999
      · have c2a : μ 49 0 + 1 ≤ a ∧ a ≤ 999 := by rw [e0] at b0; clear v1 v2 v3 v4 v5 v6 v7 v8 v9 v10 v11 v12 i1 i2 i3 i4 i5 i6 i7 i8 i9 i10 i11 i12 hN h; grind
        by_cases c4 : n14 = 6
        · subst c4
          exact Ok_of (y := (-2, μ)) (by simp [f_11_ship, isIn_eq, rf_23_0, rf_49_12, em14, c1, c2, c3, show ¬ nI 6 < 6 from by decide]) (Ok_of (y := (-2, ν)) (by simp [f_12_ship, within_eq, rf_0_0, l_0, l_14, e0, en14, c1, c2a, show nI 6 = 6 from rfl]) ⟨rfl, h⟩)
        · have c5 : n14 < 6 := by omega
          have s1 : ∀ (μ : mm) v, sto μ 62 (nI n14) v = some (up μ 62 n14 v) := fun μ v => sto_nI (by rw [len_62]; exact c5) (by decide)
          have s2 : ∀ (μ : mm) v, sto μ 63 (nI n14) v = some (up μ 63 n14 v) := fun μ v => sto_nI (by rw [len_63]; exact c5) (by decide)
          refine Ok_of (y := (nI (n14 + 1), up (up (up μ (62) (n14) (a)) (63) (n14) (w)) (61) (2) (nI (n14 + 1)))) (by simp (disch := omega) [f_11_ship, f_10_expect, isIn_eq, rf_23_0, rf_49_12, rf_61_3, rf_61_4, pf_eq, c1, c2, c3, em14, lt_6 c5, s1, s2, up_nc, up_at, nI_1]) ?_
          refine Ok_of (y := (nI (n14 + 1), up (up (up ν (1) (843 + 2 * n14) (a)) (1) (843 + 2 * n14 + 1) (w)) (1) (14) (nI (n14 + 1)))) (by simp (disch := omega) [f_12_ship, within_eq, rf_0_0, l_14, l_0, s_14, sto1, en14, c1, c2a, Int32.not_lt.mpr c2a.1, ne_6 c5, ix_843_, nI_1, up_ns, up_at, e0]) ?_
          dsimp only
          have hm : ∀ b, (b ≠ 61 ∧ b ≠ 62 ∧ b ≠ 63) → (up (up (up μ (62) (n14) (a)) (63) (n14) (w)) (61) (2) (nI (n14 + 1))) b = μ b := fun b q => by rw [up_ne (by omega), up_ne (by omega), up_ne (by omega)]
          have hg : ∀ k, (k ≠ 14 ∧ (k < 843 + 2 * n14 ∨ 845 + 2 * n14 ≤ k)) → (up (up (up ν (1) (843 + 2 * n14) (a)) (1) (843 + 2 * n14 + 1) (w)) (1) (14) (nI (n14 + 1))) 1 k = ν 1 k := fun k q => by rw [up_ns (by omega), up_ns (by omega), up_ns (by omega)]
          have hn1 : ∀ b, b ≠ 1 → (up (up (up ν (1) (843 + 2 * n14) (a)) (1) (843 + 2 * n14 + 1) (w)) (1) (14) (nI (n14 + 1))) b = ν b := fun b q => by rw [up_ne q, up_ne q, up_ne q]
          refine ⟨rfl, Cp_now h (fun b q => hm b (by omega)) hn1 ?_ ?_⟩
          · refine ⟨?_, ?_, ?_, ?_, ?_, ?_, ?_, ?_, ?_, ?_, ?_, ?_⟩
            · exact V1_up (k0 := 14) (c := 12) (s := 2) (by decide) rfl rfl (by simp (disch := omega) [up_at, up_ns, up_nc]) (fun k a b => hg k (by omega)) (fun b j q1 q2 => by rw [up_nx (by omega), up_nx (by omega), up_nx (by omega)]) v1
            · exact V2_cg hN (fun k a => hg k (by omega)) (fun b a => hm b (by omega)) v2
            · exact V3_cg hN (fun k a => hg k (by omega)) (fun b a => hm b (by omega)) v3
            · exact V4_cg hN (fun k a => hg k (by omega)) (fun b a => hm b (by omega)) v4
            · exact V5_cg hN (fun k a => hg k (by omega)) (fun b a => hm b (by omega)) v5
            · exact V6_cg hN (fun k a => hg k (by omega)) (fun b a => hm b (by omega)) v6
            · exact V7_cg hN (fun k a => hg k (by omega)) (fun b a => hm b (by omega)) v7
            · intro j hj
              rw [up_at, nn_nI (by omega)] at hj
              by_cases e : j = n14
              · subst e
                refine ⟨?_, ?_⟩ <;> simp (disch := omega) [up_at, up_ns, up_nc]
              · have q := v8 j (by omega)
                rw [hg _ (by omega), hg _ (by omega)]
                simpa (disch := omega) [up_ns, up_nc] using q
            · exact V9_cg hN (fun k a => hg k (by omega)) (fun b a => hm b (by omega)) v9
            · exact V10_cg hN (fun k a => hg k (by omega)) (fun b a => hm b (by omega)) v10
            · exact V11_cg hN (fun k a => hg k (by omega)) (fun b a => hm b (by omega)) v11
            · exact V12_cg hN (fun k a => hg k (by omega)) (fun b a => hm b (by omega)) v12
          · refine ⟨?_, ?_, ?_, ?_, ?_, ?_, ?_, ?_, ?_, ?_, ?_, ?_⟩
            · exact I1_cg hN (fun k a => hg k (by omega)) i1
            · refine ⟨?_, ?_, ?_, ?_, ?_, ?_, ?_, ?_, ?_, ?_⟩
              · rw [hg 8 (by omega)]; exact i2.1
              · rw [hg 9 (by omega)]; exact i2.2.1
              · rw [hg 10 (by omega)]; exact i2.2.2.1
              · rw [hg 11 (by omega)]; exact i2.2.2.2.1
              · rw [hg 12 (by omega)]; exact i2.2.2.2.2.1
              · rw [hg 13 (by omega)]; exact i2.2.2.2.2.2.1
              · rw [up_at]; exact le_lit (m := 6) (by omega) (by decide)
              · rw [hg 15 (by omega)]; exact i2.2.2.2.2.2.2.2.1
              · rw [hg 16 (by omega)]; exact i2.2.2.2.2.2.2.2.2.1
              · rw [hg 17 (by omega)]; exact i2.2.2.2.2.2.2.2.2.2
            · exact I3_cg hN (fun k a => hg k (by omega)) i3
            · exact I4_cg hN (fun k a => hg k (by omega)) i4
            · exact I5_cg hN (fun k a => hg k (by omega)) i5
            · exact I6_cg hN (fun k a => hg k (by omega)) i6
            · exact I7_cg hN (fun k a => hg k (by omega)) i7
            · exact I8_cg hN (fun k a => hg k (by omega)) i8
            · intro j hj
              rw [up_at, nn_nI (by omega)] at hj
              rw [hg 0 (by omega)]
              by_cases e : j = n14
              · subst e
                rw [show 844 + 2 * j = 843 + 2 * j + 1 from by omega]
                simp (disch := omega) only [up_at, up_ns]
                exact ⟨⟨by rw [e0]; exact Int32.not_le.mp c2, c3⟩, c1⟩
              · have q := i9 j (by omega)
                rw [hg _ (by omega), hg _ (by omega)]
                exact q
            · exact I10_cg hN (fun k a => hg k (by omega)) i10
            · exact I11_cg hN (fun k a => hg k (by omega)) i11
            · exact I12_cg hN (fun k a => hg k (by omega)) i12
      · have c2a : ¬ (μ 49 0 + 1 ≤ a ∧ a ≤ 999) := fun q => c3 q.2
        exact Ok_of (y := (-1, μ)) (by simp [f_11_ship, isIn_eq, rf_23_0, c1, c2, c3]) (Ok_of (y := (-1, ν)) (by simp [f_12_ship, within_eq, rf_0_0, l_0, e0, c1, c2a]) ⟨rfl, h⟩)
  · exact Ok_of (y := (-1, μ)) (by simp [f_11_ship, isIn_eq, c1]) (Ok_of (y := (-1, ν)) (by simp [f_12_ship, within_eq, c1]) ⟨rfl, h⟩)
set_option maxHeartbeats 1000000 in
theorem T_post {μ ν : mm} (m a : Int32) (h : Cp μ ν) : Ok (f_11_post 23 m a μ) fun z => Ok (f_12_post 0 m a ν) fun z2 => z.1 = z2.1 ∧ Cp z.2 z2.2 := by
  obtain ⟨n8, hn8, en8, nn8⟩ := cnt_of (m := 6) (by decide) h.2.1.2.1.1
  have em8 : μ 49 1 = nI n8 := (h.1.1 8 (by decide)).symm.trans en8
  obtain ⟨n15, hn15, en15, nn15⟩ := cnt_of (m := 4) (by decide) h.2.1.2.1.2.2.2.2.2.2.2.1
  have em15 : μ 71 1 = nI n15 := (h.1.1 15 (by decide)).symm.trans en15
  obtain ⟨n16, hn16, en16, nn16⟩ := cnt_of (m := 8) (by decide) h.2.1.2.1.2.2.2.2.2.2.2.2.1
  have em16 : μ 71 2 = nI n16 := (h.1.1 16 (by decide)).symm.trans en16
  have hN := IV_nn h.2.1
  obtain ⟨⟨v1, v2, v3, v4, v5, v6, v7, v8, v9, v10, v11, v12⟩, ⟨i1, i2, i3, i4, i5, i6, i7, i8, i9, i10, i11, i12⟩, -⟩ := id h
  by_cases c1 : 0 ≤ a ∧ a ≤ nI n8 - 1
  · by_cases c2 : m = 0
    · by_cases c4 : n15 = 4
      · subst c4
        exact Ok_of (y := (-2, μ)) (by simp [f_11_post, hasV_eq, rf_23_0, rf_49_14, em8, c1, em15, c2, show 4 ≤ nI 4 from by decide]) (Ok_of (y := (-2, ν)) (by simp [f_12_post, is_8, rf_0_0, l_15, en8, c1, en15, c2, show nI 4 = 4 from rfl]) ⟨rfl, h⟩)
      · have c5 : n15 < 4 := by omega
        have s1 : ∀ (μ : mm) v, sto μ 72 (nI n15) v = some (up μ 72 n15 v) := fun μ v => sto_nI (by rw [len_72]; exact c5) (by decide)
        refine Ok_of (y := (nI n15, up (up μ (72) (n15) (a)) (71) (1) (nI (n15 + 1)))) (by simp (disch := omega) [f_11_post, f_3_addGate, hasV_eq, rf_23_0, rf_49_14, rf_71_3, rf_71_4, pf_eq, em8, c1, c2, em15, nle_4 c5, s1, up_nc, up_at, nI_1, nI_pred]) ?_
        refine Ok_of (y := (nI n15, up (up ν (1) (855 + n15) (a)) (1) (15) (nI (n15 + 1)))) (by simp (disch := omega) [f_12_post, is_8, rf_0_0, l_15, s_15, sto1, en8, c1, c2, en15, ne_4 c5, ix_855_, nI_1, up_ns, up_at]) ?_
        dsimp only
        have hm : ∀ b, (b ≠ 71 ∧ b ≠ 72) → (up (up μ (72) (n15) (a)) (71) (1) (nI (n15 + 1))) b = μ b := fun b q => by rw [up_ne (by omega), up_ne (by omega)]
        have hg : ∀ k, (k ≠ 15 ∧ k ≠ 855 + n15) → (up (up ν (1) (855 + n15) (a)) (1) (15) (nI (n15 + 1))) 1 k = ν 1 k := fun k q => by rw [up_ns (by omega), up_ns (by omega)]
        have hn1 : ∀ b, b ≠ 1 → (up (up ν (1) (855 + n15) (a)) (1) (15) (nI (n15 + 1))) b = ν b := fun b q => by rw [up_ne q, up_ne q]
        refine ⟨rfl, Cp_now h (fun b q => hm b (by omega)) hn1 ?_ ?_⟩
        · refine ⟨?_, ?_, ?_, ?_, ?_, ?_, ?_, ?_, ?_, ?_, ?_, ?_⟩
          · exact V1_up (k0 := 15) (c := 22) (s := 1) (by decide) rfl rfl (by simp (disch := omega) [up_at, up_ns, up_nc]) (fun k a b => hg k (by omega)) (fun b j q1 q2 => by rw [up_nx (by omega), up_nx (by omega)]) v1
          · exact V2_cg hN (fun k a => hg k (by omega)) (fun b a => hm b (by omega)) v2
          · exact V3_cg hN (fun k a => hg k (by omega)) (fun b a => hm b (by omega)) v3
          · exact V4_cg hN (fun k a => hg k (by omega)) (fun b a => hm b (by omega)) v4
          · exact V5_cg hN (fun k a => hg k (by omega)) (fun b a => hm b (by omega)) v5
          · exact V6_cg hN (fun k a => hg k (by omega)) (fun b a => hm b (by omega)) v6
          · exact V7_cg hN (fun k a => hg k (by omega)) (fun b a => hm b (by omega)) v7
          · exact V8_cg hN (fun k a => hg k (by omega)) (fun b a => hm b (by omega)) v8
          · intro j hj
            rw [up_at, nn_nI (by omega)] at hj
            by_cases e : j = n15
            · subst e
              simp (disch := omega) [up_at, up_ns, up_nc]
            · have q := v9 j (by omega)
              rw [hg _ (by omega)]
              simpa (disch := omega) [up_ns, up_nc] using q
          · exact V10_cg hN (fun k a => hg k (by omega)) (fun b a => hm b (by omega)) v10
          · exact V11_cg hN (fun k a => hg k (by omega)) (fun b a => hm b (by omega)) v11
          · exact V12_cg hN (fun k a => hg k (by omega)) (fun b a => hm b (by omega)) v12
        · refine ⟨?_, ?_, ?_, ?_, ?_, ?_, ?_, ?_, ?_, ?_, ?_, ?_⟩
          · exact I1_cg hN (fun k a => hg k (by omega)) i1
          · refine ⟨?_, ?_, ?_, ?_, ?_, ?_, ?_, ?_, ?_, ?_⟩
            · rw [hg 8 (by omega)]; exact i2.1
            · rw [hg 9 (by omega)]; exact i2.2.1
            · rw [hg 10 (by omega)]; exact i2.2.2.1
            · rw [hg 11 (by omega)]; exact i2.2.2.2.1
            · rw [hg 12 (by omega)]; exact i2.2.2.2.2.1
            · rw [hg 13 (by omega)]; exact i2.2.2.2.2.2.1
            · rw [hg 14 (by omega)]; exact i2.2.2.2.2.2.2.1
            · rw [up_at]; exact le_lit (m := 4) (by omega) (by decide)
            · rw [hg 16 (by omega)]; exact i2.2.2.2.2.2.2.2.2.1
            · rw [hg 17 (by omega)]; exact i2.2.2.2.2.2.2.2.2.2
          · exact I3_cg hN (fun k a => hg k (by omega)) i3
          · exact I4_cg hN (fun k a => hg k (by omega)) i4
          · exact I5_cg hN (fun k a => hg k (by omega)) i5
          · exact I6_cg hN (fun k a => hg k (by omega)) i6
          · exact I7_cg hN (fun k a => hg k (by omega)) i7
          · exact I8_cg hN (fun k a => hg k (by omega)) i8
          · exact I9_cg hN (fun k a => hg k (by omega)) i9
          · intro j hj
            rw [up_at, nn_nI (by omega)] at hj
            rw [hg 8 (by omega)]
            by_cases e : j = n15
            · subst e
              simp (disch := omega) only [up_at, up_ns]
              rw [en8]
              exact lt_of_in (by omega) c1
            · have q := i10 j (by omega)
              rw [hg _ (by omega)]
              exact q
          · exact I11_cg hN (fun k a => hg k (by omega)) i11
          · exact I12_cg hN (fun k a => hg k (by omega)) i12
    · by_cases c4 : n16 = 8
      · subst c4
        exact Ok_of (y := (-2, μ)) (by simp [f_11_post, hasV_eq, rf_23_0, rf_49_14, em8, c1, em16, c2, show 8 ≤ nI 8 from by decide]) (Ok_of (y := (-2, ν)) (by simp [f_12_post, is_8, rf_0_0, l_16, en8, c1, en16, c2, show nI 8 = 8 from rfl]) ⟨rfl, h⟩)
      · have c5 : n16 < 8 := by omega
        have s1 : ∀ (μ : mm) v, sto μ 73 (nI n16) v = some (up μ 73 n16 v) := fun μ v => sto_nI (by rw [len_73]; exact c5) (by decide)
        refine Ok_of (y := (nI n16, up (up μ (73) (n16) (a)) (71) (2) (nI (n16 + 1)))) (by simp (disch := omega) [f_11_post, f_3_addMan, hasV_eq, rf_23_0, rf_49_14, rf_71_3, rf_71_4, pf_eq, em8, c1, c2, em16, nle_8 c5, s1, up_nc, up_at, nI_1, nI_pred]) ?_
        refine Ok_of (y := (nI n16, up (up ν (1) (859 + n16) (a)) (1) (16) (nI (n16 + 1)))) (by simp (disch := omega) [f_12_post, is_8, rf_0_0, l_16, s_16, sto1, en8, c1, c2, en16, ne_8 c5, ix_859_, nI_1, up_ns, up_at]) ?_
        dsimp only
        have hm : ∀ b, (b ≠ 71 ∧ b ≠ 73) → (up (up μ (73) (n16) (a)) (71) (2) (nI (n16 + 1))) b = μ b := fun b q => by rw [up_ne (by omega), up_ne (by omega)]
        have hg : ∀ k, (k ≠ 16 ∧ k ≠ 859 + n16) → (up (up ν (1) (859 + n16) (a)) (1) (16) (nI (n16 + 1))) 1 k = ν 1 k := fun k q => by rw [up_ns (by omega), up_ns (by omega)]
        have hn1 : ∀ b, b ≠ 1 → (up (up ν (1) (859 + n16) (a)) (1) (16) (nI (n16 + 1))) b = ν b := fun b q => by rw [up_ne q, up_ne q]
        refine ⟨rfl, Cp_now h (fun b q => hm b (by omega)) hn1 ?_ ?_⟩
        · refine ⟨?_, ?_, ?_, ?_, ?_, ?_, ?_, ?_, ?_, ?_, ?_, ?_⟩
          · exact V1_up (k0 := 16) (c := 22) (s := 2) (by decide) rfl rfl (by simp (disch := omega) [up_at, up_ns, up_nc]) (fun k a b => hg k (by omega)) (fun b j q1 q2 => by rw [up_nx (by omega), up_nx (by omega)]) v1
          · exact V2_cg hN (fun k a => hg k (by omega)) (fun b a => hm b (by omega)) v2
          · exact V3_cg hN (fun k a => hg k (by omega)) (fun b a => hm b (by omega)) v3
          · exact V4_cg hN (fun k a => hg k (by omega)) (fun b a => hm b (by omega)) v4
          · exact V5_cg hN (fun k a => hg k (by omega)) (fun b a => hm b (by omega)) v5
          · exact V6_cg hN (fun k a => hg k (by omega)) (fun b a => hm b (by omega)) v6
          · exact V7_cg hN (fun k a => hg k (by omega)) (fun b a => hm b (by omega)) v7
          · exact V8_cg hN (fun k a => hg k (by omega)) (fun b a => hm b (by omega)) v8
          · exact V9_cg hN (fun k a => hg k (by omega)) (fun b a => hm b (by omega)) v9
          · intro j hj
            rw [up_at, nn_nI (by omega)] at hj
            by_cases e : j = n16
            · subst e
              simp (disch := omega) [up_at, up_ns, up_nc]
            · have q := v10 j (by omega)
              rw [hg _ (by omega)]
              simpa (disch := omega) [up_ns, up_nc] using q
          · exact V11_cg hN (fun k a => hg k (by omega)) (fun b a => hm b (by omega)) v11
          · exact V12_cg hN (fun k a => hg k (by omega)) (fun b a => hm b (by omega)) v12
        · refine ⟨?_, ?_, ?_, ?_, ?_, ?_, ?_, ?_, ?_, ?_, ?_, ?_⟩
          · exact I1_cg hN (fun k a => hg k (by omega)) i1
          · refine ⟨?_, ?_, ?_, ?_, ?_, ?_, ?_, ?_, ?_, ?_⟩
            · rw [hg 8 (by omega)]; exact i2.1
            · rw [hg 9 (by omega)]; exact i2.2.1
            · rw [hg 10 (by omega)]; exact i2.2.2.1
            · rw [hg 11 (by omega)]; exact i2.2.2.2.1
            · rw [hg 12 (by omega)]; exact i2.2.2.2.2.1
            · rw [hg 13 (by omega)]; exact i2.2.2.2.2.2.1
            · rw [hg 14 (by omega)]; exact i2.2.2.2.2.2.2.1
            · rw [hg 15 (by omega)]; exact i2.2.2.2.2.2.2.2.1
            · rw [up_at]; exact le_lit (m := 8) (by omega) (by decide)
            · rw [hg 17 (by omega)]; exact i2.2.2.2.2.2.2.2.2.2
          · exact I3_cg hN (fun k a => hg k (by omega)) i3
          · exact I4_cg hN (fun k a => hg k (by omega)) i4
          · exact I5_cg hN (fun k a => hg k (by omega)) i5
          · exact I6_cg hN (fun k a => hg k (by omega)) i6
          · exact I7_cg hN (fun k a => hg k (by omega)) i7
          · exact I8_cg hN (fun k a => hg k (by omega)) i8
          · exact I9_cg hN (fun k a => hg k (by omega)) i9
          · exact I10_cg hN (fun k a => hg k (by omega)) i10
          · intro j hj
            rw [up_at, nn_nI (by omega)] at hj
            rw [hg 8 (by omega)]
            by_cases e : j = n16
            · subst e
              simp (disch := omega) only [up_at, up_ns]
              rw [en8]
              exact lt_of_in (by omega) c1
            · have q := i11 j (by omega)
              rw [hg _ (by omega)]
              exact q
          · exact I12_cg hN (fun k a => hg k (by omega)) i12
  · exact Ok_of (y := (-1, μ)) (by simp [f_11_post, hasV_eq, rf_23_0, em8, c1]) (Ok_of (y := (-1, ν)) (by simp [f_12_post, is_8, en8, c1]) ⟨rfl, h⟩)
theorem rf_87_ : ∀ s, s < 9 → rf 87 s = 88 + s := by decide +kernel
theorem len_88_ : ∀ s, s < 9 → len (88 + s) = 4 := by decide +kernel
theorem cl_l44 {c n : Nat} {μ : mm} (hc : c < 9) : f_12_clause_l44 0 (nI c) (n + 5) 0 μ = some (up (up (up (up μ 1 (867 + 5 * c + 1) 0) 1 (867 + 5 * c + 1 + 1) 0) 1 (867 + 5 * c + 1 + 2) 0) 1 (867 + 5 * c + 1 + 3) 0) := by
  simp (disch := omega) [f_12_clause_l44, rf_0_0, ix_867_, nI_1, nI_p2, nI_p3, sto1]
set_option maxHeartbeats 1000000 in
theorem T_clause {μ ν : mm} (a : Int32) (h : Cp μ ν) : Ok (f_11_clause 23 a μ) fun z => Ok (f_12_clause 0 a ν) fun z2 => z.1 = z2.1 ∧ Cp z.2 z2.2 := by
  obtain ⟨n17, hn17, en17, nn17⟩ := cnt_of (m := 9) (by decide) h.2.1.2.1.2.2.2.2.2.2.2.2.2
  have em17 : μ 85 0 = nI n17 := (h.1.1 17 (by decide)).symm.trans en17
  have hN := IV_nn h.2.1
  obtain ⟨⟨v1, v2, v3, v4, v5, v6, v7, v8, v9, v10, v11, v12⟩, ⟨i1, i2, i3, i4, i5, i6, i7, i8, i9, i10, i11, i12⟩, -⟩ := id h
  by_cases c1 : 0 ≤ a ∧ a ≤ 99
  · by_cases c4 : n17 = 9
    · subst c4
      exact Ok_of (y := (-2, μ)) (by simp [f_11_clause, isIn_eq, rf_23_0, rf_49_15, c1, em17, show 9 ≤ nI 9 from by decide]) (Ok_of (y := (-2, ν)) (by simp [f_12_clause, within_eq, rf_0_0, l_17, c1, en17, show nI 9 = 9 from rfl]) ⟨rfl, h⟩)
    · have c5 : n17 < 9 := by omega
      have s1 : ∀ (μ : mm) v, sto μ 86 (nI n17) v = some (up μ 86 n17 v) := fun μ v => sto_nI (by rw [len_86]; exact c5) (by decide)
      have s2 : lda 87 (nI n17) = some (88 + n17) := by rw [lda_nI (by rw [len_87]; omega) (by decide), rf_87_ n17 c5]
      have s3 := fun (μ : mm) => fill_eq (μ := μ) (x := 0) (len_88_ n17 c5) (by decide)
      refine Ok_of (y := (nI n17, up (flM (up μ (86) (n17) (a)) (88 + n17) (0) (4) (0)) (85) (0) (nI (n17 + 1)))) (by simp (disch := omega) [f_11_clause, f_2_addClause, isIn_eq, rf_23_0, rf_49_15, rf_85_1, rf_85_2, pf_eq, c1, em17, nle_9 c5, s1, s2, s3, up_nc, flM_nx, up_at, nI_1, nI_pred]) ?_
      refine Ok_of (y := (nI n17, up (up (up (up (up (up ν (1) (867 + 5 * n17) (a)) (1) (867 + 5 * n17 + 1) (0)) (1) (867 + 5 * n17 + 1 + 1) (0)) (1) (867 + 5 * n17 + 1 + 2) (0)) (1) (867 + 5 * n17 + 1 + 3) (0)) (1) (17) (nI (n17 + 1)))) (by simp (disch := omega) [f_12_clause, within_eq, rf_0_0, l_17, s_17, sto1, c1, en17, ne_9 c5, ix_867_, nI_1, up_ns, up_at, FU, cl_l44 (n := 1995) c5]) ?_
      dsimp only
      have hm : ∀ b, (b ≠ 85 ∧ b ≠ 86 ∧ b ≠ 88 + n17) → (up (flM (up μ (86) (n17) (a)) (88 + n17) (0) (4) (0)) (85) (0) (nI (n17 + 1))) b = μ b := fun b q => by rw [up_ne (by omega), flM_ne (by omega), up_ne (by omega)]
      have hg : ∀ k, (k ≠ 17 ∧ (k < 867 + 5 * n17 ∨ 872 + 5 * n17 ≤ k)) → (up (up (up (up (up (up ν (1) (867 + 5 * n17) (a)) (1) (867 + 5 * n17 + 1) (0)) (1) (867 + 5 * n17 + 1 + 1) (0)) (1) (867 + 5 * n17 + 1 + 2) (0)) (1) (867 + 5 * n17 + 1 + 3) (0)) (1) (17) (nI (n17 + 1))) 1 k = ν 1 k := fun k q => by rw [up_ns (by omega), up_ns (by omega), up_ns (by omega), up_ns (by omega), up_ns (by omega), up_ns (by omega)]
      have hn1 : ∀ b, b ≠ 1 → (up (up (up (up (up (up ν (1) (867 + 5 * n17) (a)) (1) (867 + 5 * n17 + 1) (0)) (1) (867 + 5 * n17 + 1 + 1) (0)) (1) (867 + 5 * n17 + 1 + 2) (0)) (1) (867 + 5 * n17 + 1 + 3) (0)) (1) (17) (nI (n17 + 1))) b = ν b := fun b q => by rw [up_ne q, up_ne q, up_ne q, up_ne q, up_ne q, up_ne q]
      refine ⟨rfl, Cp_now h (fun b q => hm b (by omega)) hn1 ?_ ?_⟩
      · refine ⟨?_, ?_, ?_, ?_, ?_, ?_, ?_, ?_, ?_, ?_, ?_, ?_⟩
        · exact V1_up (k0 := 17) (c := 36) (s := 0) (by decide) rfl rfl (by simp (disch := omega) [up_at, up_ns, up_nc]) (fun k a b => hg k (by omega)) (fun b j q1 q2 => by rw [up_nx (by omega), flM_nx (by omega), up_nx (by omega)]) v1
        · exact V2_cg hN (fun k a => hg k (by omega)) (fun b a => hm b (by omega)) v2
        · exact V3_cg hN (fun k a => hg k (by omega)) (fun b a => hm b (by omega)) v3
        · exact V4_cg hN (fun k a => hg k (by omega)) (fun b a => hm b (by omega)) v4
        · exact V5_cg hN (fun k a => hg k (by omega)) (fun b a => hm b (by omega)) v5
        · exact V6_cg hN (fun k a => hg k (by omega)) (fun b a => hm b (by omega)) v6
        · exact V7_cg hN (fun k a => hg k (by omega)) (fun b a => hm b (by omega)) v7
        · exact V8_cg hN (fun k a => hg k (by omega)) (fun b a => hm b (by omega)) v8
        · exact V9_cg hN (fun k a => hg k (by omega)) (fun b a => hm b (by omega)) v9
        · exact V10_cg hN (fun k a => hg k (by omega)) (fun b a => hm b (by omega)) v10
        · intro j hj
          rw [up_at, nn_nI (by omega)] at hj
          by_cases e : j = n17
          · subst e
            refine ⟨by simp (disch := omega) [up_at, up_ns, up_nc, flM_nx], fun p hp => ?_⟩
            have e4 : p = 0 ∨ p = 1 ∨ p = 2 ∨ p = 3 := by omega
            rw [up_nc (a := 85) (by omega), show 49 + 39 + j = 88 + j from by omega, flM_in (by omega)]
            rcases e4 with rfl | rfl | rfl | rfl <;> simp (disch := omega) only [up_at, up_ns]
          · obtain ⟨q1, q2⟩ := v11 j (by omega)
            refine ⟨?_, fun p hp => ?_⟩
            · rw [hg _ (by omega), up_nx (by omega), flM_nx (by omega), up_nx (by omega)]
              exact q1
            · rw [hg _ (by omega), up_nx (by omega), flM_nx (by omega), up_nx (by omega)]
              exact q2 p hp
        · exact V12_cg hN (fun k a => hg k (by omega)) (fun b a => hm b (by omega)) v12
      · refine ⟨?_, ?_, ?_, ?_, ?_, ?_, ?_, ?_, ?_, ?_, ?_, ?_⟩
        · exact I1_cg hN (fun k a => hg k (by omega)) i1
        · refine ⟨?_, ?_, ?_, ?_, ?_, ?_, ?_, ?_, ?_, ?_⟩
          · rw [hg 8 (by omega)]; exact i2.1
          · rw [hg 9 (by omega)]; exact i2.2.1
          · rw [hg 10 (by omega)]; exact i2.2.2.1
          · rw [hg 11 (by omega)]; exact i2.2.2.2.1
          · rw [hg 12 (by omega)]; exact i2.2.2.2.2.1
          · rw [hg 13 (by omega)]; exact i2.2.2.2.2.2.1
          · rw [hg 14 (by omega)]; exact i2.2.2.2.2.2.2.1
          · rw [hg 15 (by omega)]; exact i2.2.2.2.2.2.2.2.1
          · rw [hg 16 (by omega)]; exact i2.2.2.2.2.2.2.2.2.1
          · rw [up_at]; exact le_lit (m := 9) (by omega) (by decide)
        · exact I3_cg hN (fun k a => hg k (by omega)) i3
        · exact I4_cg hN (fun k a => hg k (by omega)) i4
        · exact I5_cg hN (fun k a => hg k (by omega)) i5
        · exact I6_cg hN (fun k a => hg k (by omega)) i6
        · exact I7_cg hN (fun k a => hg k (by omega)) i7
        · exact I8_cg hN (fun k a => hg k (by omega)) i8
        · exact I9_cg hN (fun k a => hg k (by omega)) i9
        · exact I10_cg hN (fun k a => hg k (by omega)) i10
        · exact I11_cg hN (fun k a => hg k (by omega)) i11
        · intro j hj
          rw [up_at, nn_nI (by omega)] at hj
          rw [hg 9 (by omega)]
          by_cases e : j = n17
          · subst e
            refine ⟨by simp (disch := omega) only [up_at, up_ns]; exact c1, fun p hp => ?_⟩
            have e4 : p = 0 ∨ p = 1 ∨ p = 2 ∨ p = 3 := by omega
            rw [show 868 + 5 * j + p = 867 + 5 * j + 1 + p from by omega]
            rcases e4 with rfl | rfl | rfl | rfl <;> simp (disch := omega) only [up_at, up_ns] <;> exact ⟨by decide, fun _ => trivial⟩
          · obtain ⟨q1, q2⟩ := i12 j (by omega)
            refine ⟨?_, fun p hp => ?_⟩
            · rw [hg _ (by omega)]
              exact q1
            · rw [hg _ (by omega)]
              exact q2 p hp
  · exact Ok_of (y := (-1, μ)) (by simp [f_11_clause, isIn_eq, c1]) (Ok_of (y := (-1, ν)) (by simp [f_12_clause, within_eq, c1]) ⟨rfl, h⟩)
set_option maxHeartbeats 1000000 in
theorem T_worth {μ ν : mm} (a b x : Int32) (h : Cp μ ν) : Ok (f_11_worth 23 a b x μ) fun z => Ok (f_12_worth 0 a b x ν) fun z2 => z.1 = z2.1 ∧ Cp z.2 z2.2 := by
  obtain ⟨n9, hn9, en9, nn9⟩ := cnt_of (m := 4) (by decide) h.2.1.2.1.2.1
  have em9 : μ 49 2 = nI n9 := (h.1.1 9 (by decide)).symm.trans en9
  obtain ⟨n17, hn17, en17, nn17⟩ := cnt_of (m := 9) (by decide) h.2.1.2.1.2.2.2.2.2.2.2.2.2
  have em17 : μ 85 0 = nI n17 := (h.1.1 17 (by decide)).symm.trans en17
  have hN := IV_nn h.2.1
  obtain ⟨⟨v1, v2, v3, v4, v5, v6, v7, v8, v9, v10, v11, v12⟩, ⟨i1, i2, i3, i4, i5, i6, i7, i8, i9, i10, i11, i12⟩, -⟩ := id h
  by_cases c1 : 0 ≤ a ∧ a ≤ nI n17 - 1
  · by_cases c2 : 0 ≤ b ∧ b ≤ nI n9 - 1
    · by_cases c3 : 0 ≤ x ∧ x ≤ 99
      · obtain ⟨c, hc, rfl⟩ := in_of (by omega) c1
        obtain ⟨p, hp, rfl⟩ := in_of (by omega) c2
        have hl := len_88_ c (by omega)
        have s1 : ∀ (μ : mm) v, sto μ (88 + c) (nI p) v = some (up μ (88 + c) p v) := fun μ v => sto_nI (by rw [hl]; omega) (by rw [hl]; decide)
        have s0 : ∀ (μ : mm), ld μ (88 + c) (nI p) = some (μ (88 + c) p) := fun μ => ld_nI (by rw [hl]; omega) (by rw [hl]; decide)
        have s2 : lda 87 (nI c) = some (88 + c) := by rw [lda_nI (by rw [len_87]; omega) (by decide), rf_87_ c (by omega)]
        have hv : μ (88 + c) p = ν 1 (867 + 5 * c + 1 + p) := by rw [(v11 c (by omega)).2 p (by omega)]
        refine Ok_of (y := (μ (88 + c) p, up μ (88 + c) (p) (x))) (by simp (disch := omega) [f_11_worth, hasP_eq, isIn_eq, rf_23_0, rf_49_15, rf_85_2, c1, c2, c3, em17, em9, s0, s1, s2]) ?_
        refine Ok_of (y := (ν 1 (867 + 5 * c + 1 + p), up ν (1) (867 + 5 * c + 1 + p) (x))) (by simp (disch := omega) [f_12_worth, is_17, is_9, within_eq, rf_0_0, sto1, ld1, c1, c2, c3, en17, en9, ix_867_, nI_1, nI_add]) ?_
        dsimp only
        have hm : ∀ b, (b ≠ 88 + c) → (up μ (88 + c) (p) (x)) b = μ b := fun b q => by rw [up_ne (by omega)]
        have hg : ∀ k, (k ≠ 867 + 5 * c + 1 + p) → (up ν (1) (867 + 5 * c + 1 + p) (x)) 1 k = ν 1 k := fun k q => by rw [up_ns (by omega)]
        have hn1 : ∀ b, b ≠ 1 → (up ν (1) (867 + 5 * c + 1 + p) (x)) b = ν b := fun b q => by rw [up_ne q]
        refine ⟨hv, Cp_now h (fun b q => hm b (by omega)) hn1 ?_ ?_⟩
        · refine ⟨?_, ?_, ?_, ?_, ?_, ?_, ?_, ?_, ?_, ?_, ?_, ?_⟩
          · exact V1_cg hN (fun k a => hg k (by omega)) (fun b a => hm b (by omega)) v1
          · exact V2_cg hN (fun k a => hg k (by omega)) (fun b a => hm b (by omega)) v2
          · exact V3_cg hN (fun k a => hg k (by omega)) (fun b a => hm b (by omega)) v3
          · exact V4_cg hN (fun k a => hg k (by omega)) (fun b a => hm b (by omega)) v4
          · exact V5_cg hN (fun k a => hg k (by omega)) (fun b a => hm b (by omega)) v5
          · exact V6_cg hN (fun k a => hg k (by omega)) (fun b a => hm b (by omega)) v6
          · exact V7_cg hN (fun k a => hg k (by omega)) (fun b a => hm b (by omega)) v7
          · exact V8_cg hN (fun k a => hg k (by omega)) (fun b a => hm b (by omega)) v8
          · exact V9_cg hN (fun k a => hg k (by omega)) (fun b a => hm b (by omega)) v9
          · exact V10_cg hN (fun k a => hg k (by omega)) (fun b a => hm b (by omega)) v10
          · intro j hj
            rw [hg 17 (by omega)] at hj
            obtain ⟨q1, q2⟩ := v11 j hj
            refine ⟨?_, fun q hq => ?_⟩
            · rw [hg _ (by omega), hm _ (by omega)]
              exact q1
            · by_cases e : j = c ∧ q = p
              · obtain ⟨rfl, rfl⟩ := e
                rw [up_at, show 49 + 39 + j = 88 + j from by omega, up_at]
              · rw [up_ns (by omega), up_nx (by omega)]
                exact q2 q hq
          · exact V12_cg hN (fun k a => hg k (by omega)) (fun b a => hm b (by omega)) v12
        · refine ⟨?_, ?_, ?_, ?_, ?_, ?_, ?_, ?_, ?_, ?_, ?_, ?_⟩
          · exact I1_cg hN (fun k a => hg k (by omega)) i1
          · exact I2_cg hN (fun k a => hg k (by omega)) i2
          · exact I3_cg hN (fun k a => hg k (by omega)) i3
          · exact I4_cg hN (fun k a => hg k (by omega)) i4
          · exact I5_cg hN (fun k a => hg k (by omega)) i5
          · exact I6_cg hN (fun k a => hg k (by omega)) i6
          · exact I7_cg hN (fun k a => hg k (by omega)) i7
          · exact I8_cg hN (fun k a => hg k (by omega)) i8
          · exact I9_cg hN (fun k a => hg k (by omega)) i9
          · exact I10_cg hN (fun k a => hg k (by omega)) i10
          · exact I11_cg hN (fun k a => hg k (by omega)) i11
          · intro j hj
            rw [hg 17 (by omega)] at hj
            rw [hg 9 (by omega)]
            obtain ⟨q1, q2⟩ := i12 j hj
            refine ⟨?_, fun q hq => ?_⟩
            · rw [hg _ (by omega)]
              exact q1
            · by_cases e : j = c ∧ q = p
              · obtain ⟨rfl, rfl⟩ := e
                rw [show 868 + 5 * j + q = 867 + 5 * j + 1 + q from by omega, up_at]
                exact ⟨c3, fun z => by omega⟩
              · rw [up_ns (by omega)]
                exact q2 q hq
      · exact Ok_of (y := (-1, μ)) (by simp [f_11_worth, hasP_eq, isIn_eq, rf_23_0, rf_49_15, em17, em9, c1, c2, c3]) (Ok_of (y := (-1, ν)) (by simp [f_12_worth, is_17, is_9, within_eq, en17, en9, c1, c2, c3]) ⟨rfl, h⟩)
    · exact Ok_of (y := (-1, μ)) (by simp [f_11_worth, hasP_eq, isIn_eq, rf_23_0, rf_49_15, em17, em9, c1, c2]) (Ok_of (y := (-1, ν)) (by simp [f_12_worth, is_17, is_9, within_eq, en17, en9, c1, c2]) ⟨rfl, h⟩)
  · exact Ok_of (y := (-1, μ)) (by simp [f_11_worth, isIn_eq, rf_23_0, rf_49_15, em17, c1]) (Ok_of (y := (-1, ν)) (by simp [f_12_worth, is_17, en17, c1]) ⟨rfl, h⟩)
