/-! pits and households -/
theorem lt_up {a : Int32} {n : Nat} (hn : n < 1000) (h : a < nI n) : a < nI (n + 1) := by
  rw [Int32.lt_iff_toInt_lt, nI_toInt (by omega)] at h ⊢
  omega
/-- the model's row with a pit's worths from clause i on made 0 -/
def zcM (μ : mm) (p i : Nat) : mm := fun b => if b = 1 then fun k => if 868 + 5 * i ≤ k ∧ k < 913 ∧ (k - 868) % 5 = p then 0 else μ 1 k else μ b
theorem zcM_ne {μ : mm} {p i b : Nat} (h : b ≠ 1) : zcM μ p i b = μ b := if_neg h
theorem zcM_out {μ : mm} {p i k : Nat} (h : ¬ (868 + 5 * i ≤ k ∧ k < 913 ∧ (k - 868) % 5 = p)) : zcM μ p i 1 k = μ 1 k := by
  unfold zcM
  rw [if_pos rfl, if_neg h]
theorem zcM_in {μ : mm} {p i k : Nat} (h : 868 + 5 * i ≤ k ∧ k < 913 ∧ (k - 868) % 5 = p) : zcM μ p i 1 k = 0 := by
  unfold zcM
  rw [if_pos rfl, if_pos h]
theorem pit_l {p : Nat} (hp : p < 4) : ∀ (m i fuel : Nat) (μ : mm), i + m = 9 → m < fuel → f_12_pit_l153 0 (nI p) fuel (nI i) μ = some (zcM μ p i) := by
  intro m
  induction m with
  | zero =>
    intro i fuel μ h1 h2
    obtain ⟨f, rfl⟩ : ∃ f, fuel = f + 1 := ⟨fuel - 1, by omega⟩
    obtain rfl : i = 9 := by omega
    unfold f_12_pit_l153
    rw [if_pos (show (9 : Int32) ≤ nI 9 from by decide)]
    congr 1
    funext b
    by_cases hb : b = 1
    · subst hb
      funext k
      rw [zcM_out (by omega)]
    · rw [zcM_ne hb]
  | succ m ih =>
    intro i fuel μ h1 h2
    obtain ⟨f, rfl⟩ : ∃ f, fuel = f + 1 := ⟨fuel - 1, by omega⟩
    unfold f_12_pit_l153
    rw [if_neg (nle_9 (by omega)), rf_0_0, ix_867_, nI_1, nI_add, sto1 (by omega)]
    show f_12_pit_l153 0 (nI p) f (nI i + 1) (up μ 1 (867 + 5 * i + 1 + p) 0) = _
    rw [nI_1, ih (i + 1) f _ (by omega) (by omega)]
    congr 1
    funext b
    by_cases hb : b = 1
    · subst hb
      funext k
      by_cases c : 868 + 5 * (i + 1) ≤ k ∧ k < 913 ∧ (k - 868) % 5 = p
      · rw [zcM_in c, zcM_in (by omega)]
      · rw [zcM_out c]
        by_cases c2 : k = 867 + 5 * i + 1 + p
        · rw [c2, up_at, zcM_in (by omega)]
        · rw [up_ns c2, zcM_out (by omega)]
    · rw [zcM_ne hb, zcM_ne hb, up_ne hb]
theorem hh_l {B : Nat} {a1 a2 a3 a4 a5 a7 : Int32} (hB : B + 12 ≤ 912) : ∀ (m i fuel : Nat) (μ : mm), i + m = 12 → m < fuel → f_12_household_l99 0 a1 a2 a3 a4 a5 a7 (nI B) fuel (nI i) μ = some (flM μ 1 (B + i) (B + 12) 0) := by
  intro m
  induction m with
  | zero =>
    intro i fuel μ h1 h2
    obtain ⟨f, rfl⟩ : ∃ f, fuel = f + 1 := ⟨fuel - 1, by omega⟩
    obtain rfl : i = 12 := by omega
    unfold f_12_household_l99
    rw [if_pos (show (12 : Int32) ≤ nI 12 from by decide), flM_nil]
  | succ m ih =>
    intro i fuel μ h1 h2
    obtain ⟨f, rfl⟩ : ∃ f, fuel = f + 1 := ⟨fuel - 1, by omega⟩
    unfold f_12_household_l99
    rw [if_neg (nle_12 (by omega)), rf_0_0, nI_add, sto1 (by omega)]
    show f_12_household_l99 0 a1 a2 a3 a4 a5 a7 (nI B) f (nI i + 1) (up μ 1 (B + i) 0) = _
    rw [nI_1, ih (i + 1) f _ (by omega) (by omega), ← Nat.add_assoc, flM_up (by omega)]
set_option maxHeartbeats 2000000 in
theorem T_pit {μ ν : mm} (a x y w : Int32) (h : Cp μ ν) : Ok (f_11_pit 23 a x y w μ) fun z => Ok (f_12_pit 0 a x y w ν) fun z2 => z.1 = z2.1 ∧ Cp z.2 z2.2 := by
  obtain ⟨n8, hn8, en8, nn8⟩ := cnt_of (m := 6) (by decide) h.2.1.2.1.1
  have em8 : μ 49 1 = nI n8 := (h.1.1 8 (by decide)).symm.trans en8
  obtain ⟨n9, hn9, en9, nn9⟩ := cnt_of (m := 4) (by decide) h.2.1.2.1.2.1
  have em9 : μ 49 2 = nI n9 := (h.1.1 9 (by decide)).symm.trans en9
  obtain ⟨n17, hn17, en17, nn17⟩ := cnt_of (m := 9) (by decide) h.2.1.2.1.2.2.2.2.2.2.2.2.2
  have em17 : μ 85 0 = nI n17 := (h.1.1 17 (by decide)).symm.trans en17
  have hN := IV_nn h.2.1
  obtain ⟨⟨v1, v2, v3, v4, v5, v6, v7, v8, v9, v10, v11, v12⟩, ⟨i1, i2, i3, i4, i5, i6, i7, i8, i9, i10, i11, i12⟩, -⟩ := id h
  by_cases c1 : 0 ≤ a ∧ a ≤ nI n8 - 1
  · by_cases c2 : 1 ≤ x ∧ x ≤ 50
    · by_cases c3 : 0 ≤ y ∧ y ≤ 50
      · by_cases c4 : 1 ≤ w ∧ w ≤ 9999
        · by_cases c5 : n9 = 4
          · subst c5
            exact Ok_of (y := (-2, μ)) (by simp [f_11_pit, hasV_eq, isIn_eq, rf_23_0, em8, c1, c2, c3, c4, em9, show ¬ nI 4 < 4 from by decide]) (Ok_of (y := (-2, ν)) (by simp [f_12_pit, is_8, within_eq, rf_0_0, l_9, en8, c1, c2, c3, c4, en9, show nI 4 = 4 from rfl]) ⟨rfl, h⟩)
          · have c6 : n9 < 4 := by omega
            have s1 : lda 57 (nI n9) = some (101 + n9) := by rw [lda_nI (by rw [len_57]; omega) (by decide), rf_57_ n9 c6]
            have s2 : ∀ μ, f_12_pit_l153 0 (nI n9) FU 0 μ = some (zcM μ n9 0) := fun μ => pit_l c6 9 0 FU μ rfl (by decide)
            refine Ok_of (y := (nI n9, up (up (up (up (up (up (up (up μ (101 + n9) (0) (a)) (101 + n9) (1) (x)) (101 + n9) (2) (y)) (101 + n9) (3) (w)) (101 + n9) (4) (0)) (101 + n9) (5) (-1)) (101 + n9) (6) (50)) (49) (2) (nI (n9 + 1)))) (by simp (disch := omega) [f_11_pit, f_4_dig, hasV_eq, isIn_eq, rf_23_0, rf_49_8, pf_eq, em8, c1, c2, c3, c4, em9, lt_4 c6, s1, up_nc, up_at, nI_1, nI_pred]) ?_
            refine Ok_of (y := (nI n9, up (zcM (up (up (up (up (up (up (up ν (1) (56 + 7 * n9) (a)) (1) (56 + 7 * n9 + 1) (0)) (1) (56 + 7 * n9 + 2) (x)) (1) (56 + 7 * n9 + 3) (y)) (1) (56 + 7 * n9 + 4) (w)) (1) (56 + 7 * n9 + 5) (-3)) (1) (56 + 7 * n9 + 6) (50)) n9 0) (1) (9) (nI (n9 + 1)))) (by simp (disch := omega) [f_12_pit, f_12_ofPit, is_8, within_eq, rf_0_0, l_9, s_9, sto1, en8, c1, c2, c3, c4, en9, ne_4 c6, ix_56_, nI_1, nI_p2, nI_p3, nI_p4, nI_p5, nI_p6, s2, up_ns, zcM_out, up_at]) ?_
            dsimp only
            have hm : ∀ b, (b ≠ 49 ∧ b ≠ 101 + n9) → (up (up (up (up (up (up (up (up μ (101 + n9) (0) (a)) (101 + n9) (1) (x)) (101 + n9) (2) (y)) (101 + n9) (3) (w)) (101 + n9) (4) (0)) (101 + n9) (5) (-1)) (101 + n9) (6) (50)) (49) (2) (nI (n9 + 1))) b = μ b := fun b q => by rw [up_ne (by omega), up_ne (by omega), up_ne (by omega), up_ne (by omega), up_ne (by omega), up_ne (by omega), up_ne (by omega), up_ne (by omega)]
            have hg : ∀ k, (k ≠ 9 ∧ (k < 56 + 7 * n9 ∨ 63 + 7 * n9 ≤ k) ∧ (k < 868 ∨ (k - 868) % 5 ≠ n9)) → (up (zcM (up (up (up (up (up (up (up ν (1) (56 + 7 * n9) (a)) (1) (56 + 7 * n9 + 1) (0)) (1) (56 + 7 * n9 + 2) (x)) (1) (56 + 7 * n9 + 3) (y)) (1) (56 + 7 * n9 + 4) (w)) (1) (56 + 7 * n9 + 5) (-3)) (1) (56 + 7 * n9 + 6) (50)) n9 0) (1) (9) (nI (n9 + 1))) 1 k = ν 1 k := fun k q => by rw [up_ns (by omega), zcM_out (by omega), up_ns (by omega), up_ns (by omega), up_ns (by omega), up_ns (by omega), up_ns (by omega), up_ns (by omega), up_ns (by omega)]
            have hn1 : ∀ b, b ≠ 1 → (up (zcM (up (up (up (up (up (up (up ν (1) (56 + 7 * n9) (a)) (1) (56 + 7 * n9 + 1) (0)) (1) (56 + 7 * n9 + 2) (x)) (1) (56 + 7 * n9 + 3) (y)) (1) (56 + 7 * n9 + 4) (w)) (1) (56 + 7 * n9 + 5) (-3)) (1) (56 + 7 * n9 + 6) (50)) n9 0) (1) (9) (nI (n9 + 1))) b = ν b := fun b q => by rw [up_ne q, zcM_ne q, up_ne q, up_ne q, up_ne q, up_ne q, up_ne q, up_ne q, up_ne q]
            refine ⟨rfl, Cp_now h (fun b q => hm b (by omega)) hn1 ?_ ?_⟩
            · refine ⟨?_, ?_, ?_, ?_, ?_, ?_, ?_, ?_, ?_, ?_, ?_, ?_⟩
              · exact V1_up (k0 := 9) (c := 0) (s := 2) (by decide) rfl rfl (by simp (disch := omega) [up_at, up_ns, up_nc]) (fun k a b => hg k (by omega)) (fun b j q1 q2 => by rw [up_nx (by omega), up_nx (by omega), up_nx (by omega), up_nx (by omega), up_nx (by omega), up_nx (by omega), up_nx (by omega), up_nx (by omega)]) v1
              · exact V2_cg hN (fun k a => hg k (by omega)) (fun b a => hm b (by omega)) v2
              · intro q f hq hf
                rw [up_at, nn_nI (by omega)] at hq
                by_cases e : q = n9
                · subst e
                  have e7 : f = 0 ∨ f = 1 ∨ f = 2 ∨ f = 3 ∨ f = 4 ∨ f = 5 ∨ f = 6 := by omega
                  rw [show 49 + 52 + q = 101 + q from by omega, up_ns (a := 1) (k := 9) (by omega), zcM_out (by omega), up_nc (a := 49) (by omega)]
                  rcases e7 with rfl | rfl | rfl | rfl | rfl | rfl | rfl <;> simp (disch := omega) [up_at, up_ns, pm, pv]
                · have q1 := v3 q f (by omega) hf
                  rw [hg _ (by omega), hm _ (by omega)]
                  exact q1
              · exact V4_cg hN (fun k a => hg k (by omega)) (fun b a => hm b (by omega)) v4
              · exact V5_cg hN (fun k a => hg k (by omega)) (fun b a => hm b (by omega)) v5
              · exact V6_cg hN (fun k a => hg k (by omega)) (fun b a => hm b (by omega)) v6
              · exact V7_cg hN (fun k a => hg k (by omega)) (fun b a => hm b (by omega)) v7
              · exact V8_cg hN (fun k a => hg k (by omega)) (fun b a => hm b (by omega)) v8
              · exact V9_cg hN (fun k a => hg k (by omega)) (fun b a => hm b (by omega)) v9
              · exact V10_cg hN (fun k a => hg k (by omega)) (fun b a => hm b (by omega)) v10
              · intro c hc
                rw [hg 17 (by omega)] at hc
                obtain ⟨q1, q2⟩ := v11 c hc
                obtain ⟨-, r2⟩ := i12 c hc
                refine ⟨?_, fun p hp => ?_⟩
                · rw [hg _ (by omega), hm _ (by omega)]
                  exact q1
                · rw [hm _ (by omega), ← q2 p hp]
                  by_cases e : p = n9
                  · rw [up_ns (by omega), zcM_in (by omega), show 867 + 5 * c + 1 + p = 868 + 5 * c + p from by omega]
                    exact ((r2 p hp).2 (by omega)).symm
                  · rw [hg _ (by omega)]
              · exact V12_cg hN (fun k a => hg k (by omega)) (fun b a => hm b (by omega)) v12
            · refine ⟨?_, ?_, ?_, ?_, ?_, ?_, ?_, ?_, ?_, ?_, ?_, ?_⟩
              · exact I1_cg hN (fun k a => hg k (by omega)) i1
              · refine ⟨?_, ?_, ?_, ?_, ?_, ?_, ?_, ?_, ?_, ?_⟩
                · rw [hg 8 (by omega)]; exact i2.1
                · rw [up_at]; exact le_lit (m := 4) (by omega) (by decide)
                · rw [hg 10 (by omega)]; exact i2.2.2.1
                · rw [hg 11 (by omega)]; exact i2.2.2.2.1
                · rw [hg 12 (by omega)]; exact i2.2.2.2.2.1
                · rw [hg 13 (by omega)]; exact i2.2.2.2.2.2.1
                · rw [hg 14 (by omega)]; exact i2.2.2.2.2.2.2.1
                · rw [hg 15 (by omega)]; exact i2.2.2.2.2.2.2.2.1
                · rw [hg 16 (by omega)]; exact i2.2.2.2.2.2.2.2.2.1
                · rw [hg 17 (by omega)]; exact i2.2.2.2.2.2.2.2.2.2
              · exact I3_cg hN (fun k a => hg k (by omega)) i3
              · intro q hq
                rw [up_at, nn_nI (by omega)] at hq
                rw [hg 8 (by omega)]
                by_cases e : q = n9
                · subst e
                  rw [show 57 + 7 * q = 56 + 7 * q + 1 from by omega, show 58 + 7 * q = 56 + 7 * q + 2 from by omega, show 59 + 7 * q = 56 + 7 * q + 3 from by omega, show 60 + 7 * q = 56 + 7 * q + 4 from by omega, show 61 + 7 * q = 56 + 7 * q + 5 from by omega, show 62 + 7 * q = 56 + 7 * q + 6 from by omega]
                  simp (disch := omega) only [up_at, up_ns, zcM_out]
                  rw [en8]
                  exact ⟨lt_of_in (by omega) c1, by decide, c2, c3, c4, Or.inl trivial, fun _ => Int32.le_trans (by decide) c4.1, by decide⟩
                · have q1 := i4 q (by omega)
                  rw [hg (56 + 7 * q) (by omega), hg (57 + 7 * q) (by omega), hg (58 + 7 * q) (by omega), hg (59 + 7 * q) (by omega), hg (60 + 7 * q) (by omega), hg (61 + 7 * q) (by omega), hg (62 + 7 * q) (by omega)]
                  exact q1
              · exact I5_cg hN (fun k a => hg k (by omega)) i5
              · intro q hq
                rw [hg 11 (by omega)] at hq
                have q1 := i6 q hq
                rw [hg 8 (by omega), up_at]
                simp only [hg (96 + 12 * q) (by omega), hg (97 + 12 * q) (by omega), hg (98 + 12 * q) (by omega), hg (99 + 12 * q) (by omega), hg (100 + 12 * q) (by omega), hg (101 + 12 * q) (by omega), hg (102 + 12 * q) (by omega), hg (103 + 12 * q) (by omega), hg (104 + 12 * q) (by omega), hg (105 + 12 * q) (by omega), hg (106 + 12 * q) (by omega), hg (107 + 12 * q) (by omega)]
                rw [en9] at q1
                exact ⟨q1.1, ⟨q1.2.1.1, lt_up (by omega) q1.2.1.2⟩, q1.2.2⟩
              · exact I7_cg hN (fun k a => hg k (by omega)) i7
              · exact I8_cg hN (fun k a => hg k (by omega)) i8
              · exact I9_cg hN (fun k a => hg k (by omega)) i9
              · exact I10_cg hN (fun k a => hg k (by omega)) i10
              · exact I11_cg hN (fun k a => hg k (by omega)) i11
              · intro c hc
                rw [hg 17 (by omega)] at hc
                rw [up_at, nn_nI (by omega)]
                obtain ⟨r1, r2⟩ := i12 c hc
                refine ⟨by rw [hg _ (by omega)]; exact r1, fun p hp => ?_⟩
                by_cases e : p = n9
                · rw [up_ns (by omega), zcM_in (by omega)]
                  exact ⟨by decide, fun _ => rfl⟩
                · rw [hg _ (by omega)]
                  exact ⟨(r2 p hp).1, fun z => (r2 p hp).2 (by omega)⟩
        · exact Ok_of (y := (-1, μ)) (by simp [f_11_pit, hasV_eq, hasP_eq, isIn_eq, rf_23_0, em8, c1, c2, c3, c4]) (Ok_of (y := (-1, ν)) (by simp [f_12_pit, is_8, is_9, within_eq, en8, c1, c2, c3, c4]) ⟨rfl, h⟩)
      · exact Ok_of (y := (-1, μ)) (by simp [f_11_pit, hasV_eq, hasP_eq, isIn_eq, rf_23_0, em8, c1, c2, c3]) (Ok_of (y := (-1, ν)) (by simp [f_12_pit, is_8, is_9, within_eq, en8, c1, c2, c3]) ⟨rfl, h⟩)
    · exact Ok_of (y := (-1, μ)) (by simp [f_11_pit, hasV_eq, hasP_eq, isIn_eq, rf_23_0, em8, c1, c2]) (Ok_of (y := (-1, ν)) (by simp [f_12_pit, is_8, is_9, within_eq, en8, c1, c2]) ⟨rfl, h⟩)
  · exact Ok_of (y := (-1, μ)) (by simp [f_11_pit, hasV_eq, hasP_eq, isIn_eq, rf_23_0, em8, c1]) (Ok_of (y := (-1, ν)) (by simp [f_12_pit, is_8, is_9, within_eq, en8, c1]) ⟨rfl, h⟩)
set_option maxHeartbeats 2000000 in
theorem T_household {μ ν : mm} (a p u t w : Int32) (h : Cp μ ν) : Ok (f_11_household 23 a p u t w μ) fun z => Ok (f_12_household 0 a p u t w ν) fun z2 => z.1 = z2.1 ∧ Cp z.2 z2.2 := by
  obtain ⟨n8, hn8, en8, nn8⟩ := cnt_of (m := 6) (by decide) h.2.1.2.1.1
  have em8 : μ 49 1 = nI n8 := (h.1.1 8 (by decide)).symm.trans en8
  obtain ⟨n9, hn9, en9, nn9⟩ := cnt_of (m := 4) (by decide) h.2.1.2.1.2.1
  have em9 : μ 49 2 = nI n9 := (h.1.1 9 (by decide)).symm.trans en9
  obtain ⟨n11, hn11, en11, nn11⟩ := cnt_of (m := 16) (by decide) h.2.1.2.1.2.2.2.1
  have em11 : μ 49 4 = nI n11 := (h.1.1 11 (by decide)).symm.trans en11
  have hN := IV_nn h.2.1
  obtain ⟨⟨v1, v2, v3, v4, v5, v6, v7, v8, v9, v10, v11, v12⟩, ⟨i1, i2, i3, i4, i5, i6, i7, i8, i9, i10, i11, i12⟩, -⟩ := id h
  by_cases c1 : 0 ≤ a ∧ a ≤ nI n8 - 1
  · by_cases c2 : 0 ≤ p ∧ p ≤ nI n9 - 1
    · by_cases c3 : 1 ≤ u ∧ u ≤ 9
      · by_cases c4 : 0 ≤ t ∧ t ≤ 9999
        · by_cases c5 : 0 ≤ w ∧ w ≤ 99
          · by_cases c6 : n11 = 16
            · subst c6
              exact Ok_of (y := (-2, μ)) (by simp [f_11_household, hasV_eq, hasP_eq, isIn_eq, rf_23_0, em8, em9, c1, c2, c3, c4, c5, em11, show ¬ nI 16 < 16 from by decide]) (Ok_of (y := (-2, ν)) (by simp [f_12_household, is_8, is_9, within_eq, rf_0_0, l_11, en8, en9, c1, c2, c3, c4, c5, en11, show nI 16 = 16 from rfl]) ⟨rfl, h⟩)
            · have c7 : n11 < 16 := by omega
              obtain ⟨m, hm9, rfl⟩ := nI_of2 (M := 9999) (n := 9999) (by decide) (Int32.not_lt.mpr c4.1) c4.2
              have hk2 : nI m / 1000 = nI (m / 1000) := pk_div (d := 1000) (by omega) (by decide) (by decide)
              have hk3 : nI m / 10 - nI m / 10 / 100 * 100 = nI (m / 10 % 100) := by
                rw [show nI m / 10 = nI (m / 10) from pk_div (d := 10) (by omega) (by decide) (by decide)]
                exact pk_rem (d := 100) (by omega) (by decide) (by decide)
              have hk : nI m / 10 - nI m / 10 / 100 * 100 = (nI m - nI m / 1000 * 1000) / 10 := by
                rw [hk3, show nI m - nI m / 1000 * 1000 = nI (m % 1000) from pk_rem (d := 1000) (by omega) (by decide) (by decide), show nI (m % 1000) / 10 = nI (m % 1000 / 10) from pk_div (d := 10) (by omega) (by decide) (by decide)]
                congr 1
                omega
              have s1 : lda 59 (nI n11) = some (109 + n11) := by rw [lda_nI (by rw [len_59]; omega) (by decide), rf_59_ n11 c7]
              have s2 : ∀ a1 a2 a3 a4 a5 a7 μ, f_12_household_l99 0 a1 a2 a3 a4 a5 a7 (nI (96 + 12 * n11)) FU 0 μ = some (flM μ 1 (96 + 12 * n11) (96 + 12 * n11 + 12) 0) := fun a1 a2 a3 a4 a5 a7 μ => hh_l (by omega) 12 0 FU μ rfl (by decide)
              refine Ok_of (y := (nI n11, up (up (up (up (up (up (up (up (up (up (up (up (up μ (109 + n11) (0) (a)) (109 + n11) (1) (p)) (109 + n11) (2) (u)) (109 + n11) (3) (nI m / 1000)) (109 + n11) (4) ((nI m - nI m / 1000 * 1000) / 10)) (109 + n11) (5) (w)) (109 + n11) (6) (0)) (109 + n11) (7) (0)) (109 + n11) (8) (0)) (109 + n11) (9) (0)) (109 + n11) (10) (0)) (109 + n11) (11) (0)) (49) (4) (nI (n11 + 1)))) (by simp (disch := omega) [f_11_household, f_1_settle, hasV_eq, hasP_eq, isIn_eq, rf_23_0, rf_49_10, pf_eq, em8, em9, c1, c2, c3, c4, c5, em11, lt_16 c7, s1, up_nc, up_at, nI_1, nI_pred]) ?_
              refine Ok_of (y := (nI n11, up (up (up (up (up (up (up (flM ν (1) (96 + 12 * n11) (96 + 12 * n11 + 12) (0)) (1) (96 + 12 * n11) (a)) (1) (96 + 12 * n11 + 1) (p)) (1) (96 + 12 * n11 + 2) (u)) (1) (96 + 12 * n11 + 3) (nI m / 1000)) (1) (96 + 12 * n11 + 4) (nI m / 10 - nI m / 10 / 100 * 100)) (1) (96 + 12 * n11 + 5) (w)) (1) (11) (nI (n11 + 1)))) (by simp (disch := omega) [f_12_household, is_8, is_9, within_eq, rf_0_0, l_11, s_11, sto1, en8, en9, c1, c2, c3, c4, c5, en11, ne_16 c7, ix_96_, nI_1, nI_p2, nI_p3, nI_p4, nI_p5, s2, up_ns, flM_out, up_at]) ?_
              dsimp only
              have hm : ∀ b, (b ≠ 49 ∧ b ≠ 109 + n11) → (up (up (up (up (up (up (up (up (up (up (up (up (up μ (109 + n11) (0) (a)) (109 + n11) (1) (p)) (109 + n11) (2) (u)) (109 + n11) (3) (nI m / 1000)) (109 + n11) (4) ((nI m - nI m / 1000 * 1000) / 10)) (109 + n11) (5) (w)) (109 + n11) (6) (0)) (109 + n11) (7) (0)) (109 + n11) (8) (0)) (109 + n11) (9) (0)) (109 + n11) (10) (0)) (109 + n11) (11) (0)) (49) (4) (nI (n11 + 1))) b = μ b := fun b q => by rw [up_ne (by omega), up_ne (by omega), up_ne (by omega), up_ne (by omega), up_ne (by omega), up_ne (by omega), up_ne (by omega), up_ne (by omega), up_ne (by omega), up_ne (by omega), up_ne (by omega), up_ne (by omega), up_ne (by omega)]
              have hg : ∀ k, (k ≠ 11 ∧ (k < 96 + 12 * n11 ∨ 108 + 12 * n11 ≤ k)) → (up (up (up (up (up (up (up (flM ν (1) (96 + 12 * n11) (96 + 12 * n11 + 12) (0)) (1) (96 + 12 * n11) (a)) (1) (96 + 12 * n11 + 1) (p)) (1) (96 + 12 * n11 + 2) (u)) (1) (96 + 12 * n11 + 3) (nI m / 1000)) (1) (96 + 12 * n11 + 4) (nI m / 10 - nI m / 10 / 100 * 100)) (1) (96 + 12 * n11 + 5) (w)) (1) (11) (nI (n11 + 1))) 1 k = ν 1 k := fun k q => by rw [up_ns (by omega), up_ns (by omega), up_ns (by omega), up_ns (by omega), up_ns (by omega), up_ns (by omega), up_ns (by omega), flM_out (by omega)]
              have hn1 : ∀ b, b ≠ 1 → (up (up (up (up (up (up (up (flM ν (1) (96 + 12 * n11) (96 + 12 * n11 + 12) (0)) (1) (96 + 12 * n11) (a)) (1) (96 + 12 * n11 + 1) (p)) (1) (96 + 12 * n11 + 2) (u)) (1) (96 + 12 * n11 + 3) (nI m / 1000)) (1) (96 + 12 * n11 + 4) (nI m / 10 - nI m / 10 / 100 * 100)) (1) (96 + 12 * n11 + 5) (w)) (1) (11) (nI (n11 + 1))) b = ν b := fun b q => by rw [up_ne q, up_ne q, up_ne q, up_ne q, up_ne q, up_ne q, up_ne q, flM_ne q]
              refine ⟨rfl, Cp_now h (fun b q => hm b (by omega)) hn1 ?_ ?_⟩
              · refine ⟨?_, ?_, ?_, ?_, ?_, ?_, ?_, ?_, ?_, ?_, ?_, ?_⟩
                · exact V1_up (k0 := 11) (c := 0) (s := 4) (by decide) rfl rfl (by simp (disch := omega) [up_at, up_ns, up_nc]) (fun k a b => hg k (by omega)) (fun b j q1 q2 => by rw [up_nx (by omega), up_nx (by omega), up_nx (by omega), up_nx (by omega), up_nx (by omega), up_nx (by omega), up_nx (by omega), up_nx (by omega), up_nx (by omega), up_nx (by omega), up_nx (by omega), up_nx (by omega), up_nx (by omega)]) v1
                · exact V2_cg hN (fun k a => hg k (by omega)) (fun b a => hm b (by omega)) v2
                · exact V3_cg hN (fun k a => hg k (by omega)) (fun b a => hm b (by omega)) v3
                · exact V4_cg hN (fun k a => hg k (by omega)) (fun b a => hm b (by omega)) v4
                · intro q f hq hf
                  rw [up_at, nn_nI (by omega)] at hq
                  by_cases e : q = n11
                  · subst e
                    have e7 : f = 0 ∨ f = 1 ∨ f = 2 ∨ f = 3 ∨ f = 4 ∨ f = 5 ∨ f = 6 ∨ f = 7 ∨ f = 8 ∨ f = 9 ∨ f = 10 ∨ f = 11 := by omega
                    rw [show 49 + 60 + q = 109 + q from by omega, up_ns (a := 1) (k := 11) (by omega), up_nc (a := 49) (by omega)]
                    rcases e7 with rfl | rfl | rfl | rfl | rfl | rfl | rfl | rfl | rfl | rfl | rfl | rfl <;> simp (disch := omega) [up_at, up_ns, flM_in, hk]
                  · have q1 := v5 q f (by omega) hf
                    rw [hg _ (by omega), hm _ (by omega)]
                    exact q1
                · exact V6_cg hN (fun k a => hg k (by omega)) (fun b a => hm b (by omega)) v6
                · exact V7_cg hN (fun k a => hg k (by omega)) (fun b a => hm b (by omega)) v7
                · exact V8_cg hN (fun k a => hg k (by omega)) (fun b a => hm b (by omega)) v8
                · exact V9_cg hN (fun k a => hg k (by omega)) (fun b a => hm b (by omega)) v9
                · exact V10_cg hN (fun k a => hg k (by omega)) (fun b a => hm b (by omega)) v10
                · exact V11_cg hN (fun k a => hg k (by omega)) (fun b a => hm b (by omega)) v11
                · exact V12_cg hN (fun k a => hg k (by omega)) (fun b a => hm b (by omega)) v12
              · refine ⟨?_, ?_, ?_, ?_, ?_, ?_, ?_, ?_, ?_, ?_, ?_, ?_⟩
                · exact I1_cg hN (fun k a => hg k (by omega)) i1
                · refine ⟨?_, ?_, ?_, ?_, ?_, ?_, ?_, ?_, ?_, ?_⟩
                  · rw [hg 8 (by omega)]; exact i2.1
                  · rw [hg 9 (by omega)]; exact i2.2.1
                  · rw [hg 10 (by omega)]; exact i2.2.2.1
                  · rw [up_at]; exact le_lit (m := 16) (by omega) (by decide)
                  · rw [hg 12 (by omega)]; exact i2.2.2.2.2.1
                  · rw [hg 13 (by omega)]; exact i2.2.2.2.2.2.1
                  · rw [hg 14 (by omega)]; exact i2.2.2.2.2.2.2.1
                  · rw [hg 15 (by omega)]; exact i2.2.2.2.2.2.2.2.1
                  · rw [hg 16 (by omega)]; exact i2.2.2.2.2.2.2.2.2.1
                  · rw [hg 17 (by omega)]; exact i2.2.2.2.2.2.2.2.2.2
                · exact I3_cg hN (fun k a => hg k (by omega)) i3
                · exact I4_cg hN (fun k a => hg k (by omega)) i4
                · exact I5_cg hN (fun k a => hg k (by omega)) i5
                · intro q hq
                  rw [up_at, nn_nI (by omega)] at hq
                  rw [hg 8 (by omega), hg 9 (by omega)]
                  by_cases e : q = n11
                  · subst e
                    rw [show 97 + 12 * q = 96 + 12 * q + 1 from by omega, show 98 + 12 * q = 96 + 12 * q + 2 from by omega, show 99 + 12 * q = 96 + 12 * q + 3 from by omega, show 100 + 12 * q = 96 + 12 * q + 4 from by omega, show 101 + 12 * q = 96 + 12 * q + 5 from by omega, show 102 + 12 * q = 96 + 12 * q + 6 from by omega, show 106 + 12 * q = 96 + 12 * q + 10 from by omega, show 107 + 12 * q = 96 + 12 * q + 11 from by omega]
                    simp (disch := omega) only [up_at, up_ns, flM_in]
                    rw [en8, en9, hk2, hk3]
                    exact ⟨lt_of_in (by omega) c1, lt_of_in (by omega) c2, c3, le_lit (m := 9) (by omega) (by decide), le_lit (m := 99) (by omega) (by decide), c5, by decide, Or.inl trivial, Or.inl trivial, fun z => absurd z (by decide)⟩
                  · have q1 := i6 q (by omega)
                    simp only [hg (96 + 12 * q) (by omega), hg (97 + 12 * q) (by omega), hg (98 + 12 * q) (by omega), hg (99 + 12 * q) (by omega), hg (100 + 12 * q) (by omega), hg (101 + 12 * q) (by omega), hg (102 + 12 * q) (by omega), hg (103 + 12 * q) (by omega), hg (104 + 12 * q) (by omega), hg (105 + 12 * q) (by omega), hg (106 + 12 * q) (by omega), hg (107 + 12 * q) (by omega)]
                    exact q1
                · exact I7_cg hN (fun k a => hg k (by omega)) i7
                · intro j hj
                  rw [hg 13 (by omega)] at hj
                  have q1 := i8 j hj
                  rw [up_at, hg _ (by omega), hg _ (by omega), hg _ (by omega)]
                  rw [en11] at q1
                  exact ⟨⟨q1.1.1, lt_up (by omega) q1.1.2⟩, q1.2⟩
                · exact I9_cg hN (fun k a => hg k (by omega)) i9
                · exact I10_cg hN (fun k a => hg k (by omega)) i10
                · exact I11_cg hN (fun k a => hg k (by omega)) i11
                · exact I12_cg hN (fun k a => hg k (by omega)) i12
          · exact Ok_of (y := (-1, μ)) (by simp [f_11_household, hasV_eq, hasP_eq, isIn_eq, rf_23_0, em8, em9, c1, c2, c3, c4, c5]) (Ok_of (y := (-1, ν)) (by simp [f_12_household, is_8, is_9, within_eq, en8, en9, c1, c2, c3, c4, c5]) ⟨rfl, h⟩)
        · exact Ok_of (y := (-1, μ)) (by simp [f_11_household, hasV_eq, hasP_eq, isIn_eq, rf_23_0, em8, em9, c1, c2, c3, c4]) (Ok_of (y := (-1, ν)) (by simp [f_12_household, is_8, is_9, within_eq, en8, en9, c1, c2, c3, c4]) ⟨rfl, h⟩)
      · exact Ok_of (y := (-1, μ)) (by simp [f_11_household, hasV_eq, hasP_eq, isIn_eq, rf_23_0, em8, em9, c1, c2, c3]) (Ok_of (y := (-1, ν)) (by simp [f_12_household, is_8, is_9, within_eq, en8, en9, c1, c2, c3]) ⟨rfl, h⟩)
    · exact Ok_of (y := (-1, μ)) (by simp [f_11_household, hasV_eq, hasP_eq, isIn_eq, rf_23_0, em8, em9, c1, c2]) (Ok_of (y := (-1, ν)) (by simp [f_12_household, is_8, is_9, within_eq, en8, en9, c1, c2]) ⟨rfl, h⟩)
  · exact Ok_of (y := (-1, μ)) (by simp [f_11_household, hasV_eq, hasP_eq, isIn_eq, rf_23_0, em8, em9, c1]) (Ok_of (y := (-1, ν)) (by simp [f_12_household, is_8, is_9, within_eq, en8, en9, c1]) ⟨rfl, h⟩)
