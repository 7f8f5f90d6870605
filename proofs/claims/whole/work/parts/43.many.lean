/-! how many; shelves -/
theorem lt_n1 {i n : Nat} (h : i < n) (hn : n < 1000) : ¬ nI n ≤ nI i := nI_ge h (by omega)
theorem back_l {v n : Nat} {μ ν : mm} (hv : isV v) (hn : n ≤ 16) (em : μ v 4 = nI n) (en : ν 1 11 = nI n) (hV : ∀ p f, p < n → f < 12 → ν 1 (96 + 12 * p + f) = μ (v + 60 + p) f) (hb : ∀ p, p < n → ν 1 (106 + 12 * p) = 0 ∨ ν 1 (106 + 12 * p) = 1) : ∀ (m i f1 f2 : Nat) (x : Int32), i + m = n → m < f1 → m < f2 → ∃ y, f_9_backCount_l4 v μ f1 x (nI i) = some y ∧ f_12_many_l160 0 ν f2 x (nI i) = some y := by
  intro m
  induction m with
  | zero =>
    intro i f1 f2 x h1 h2 h3
    obtain ⟨a, rfl⟩ : ∃ a, f1 = a + 1 := ⟨f1 - 1, by omega⟩
    obtain ⟨b, rfl⟩ : ∃ b, f2 = b + 1 := ⟨f2 - 1, by omega⟩
    obtain rfl : i = n := by omega
    have d1 : nI i ≤ nI i := Int32.le_refl _
    exact ⟨x, by unfold f_9_backCount_l4; rw [em, if_pos d1], by unfold f_12_many_l160; simp [rf_0_0, l_11, en, d1]⟩
  | succ m ih =>
    intro i f1 f2 x h1 h2 h3
    obtain ⟨a, rfl⟩ : ∃ a, f1 = a + 1 := ⟨f1 - 1, by omega⟩
    obtain ⟨b, rfl⟩ : ∃ b, f2 = b + 1 := ⟨f2 - 1, by omega⟩
    have d1 : ¬ nI n ≤ nI i := lt_n1 (by omega) (by omega)
    have f10 := hV i 10 (by omega) (by decide)
    have b10 := hb i (by omega)
    have hh : f_12_house 0 (nI i) 10 ν = some (ν 1 (106 + 12 * i)) := by rw [show 106 + 12 * i = 96 + 12 * i + 10 from by omega]; exact house1 (f := 10) (by omega)
    rw [show 96 + 12 * i + 10 = 106 + 12 * i from by omega] at f10
    rcases b10 with b10 | b10
    · obtain ⟨y, y1, y2⟩ := ih (i + 1) a b x (by omega) (by omega) (by omega)
      refine ⟨y, ?_, ?_⟩
      · unfold f_9_backCount_l4
        rw [em, if_neg d1, rV_0_10 hv, aV_10 hv (by omega)]
        simp [← f10, b10, nI_1, y1]
      · unfold f_12_many_l160
        simp [rf_0_0, l_11, en, d1, hh, b10, nI_1, y2]
    · obtain ⟨y, y1, y2⟩ := ih (i + 1) a b (x + 1) (by omega) (by omega) (by omega)
      refine ⟨y, ?_, ?_⟩
      · unfold f_9_backCount_l4
        rw [em, if_neg d1, rV_0_10 hv, aV_10 hv (by omega)]
        simp [← f10, b10, nI_1, y1]
      · unfold f_12_many_l160
        simp [rf_0_0, l_11, en, d1, hh, b10, nI_1, y2]
set_option maxHeartbeats 1000000 in
theorem T_many {μ ν : mm} (a : Int32) (h : Cp μ ν) : Ok (f_11_many 23 a μ) fun z => Ok (f_12_many 0 a ν) fun w => z = w := by
  have e := h.1.1
  obtain ⟨n11, hn11, en11, nn11⟩ := cnt_of (m := 16) (by decide) h.2.1.2.1.2.2.2.1
  have em11 : μ 49 4 = nI n11 := (h.1.1 11 (by decide)).symm.trans en11
  by_cases d0 : a = 0
  · subst d0
    exact Ok_of (y := μ 49 0) (by simp [f_11_many, rf_23_0, rf_49_13, rf_49_12, rf_49_14, rf_49_15, rf_23_4, rf_23_5]) (Ok_of (y := ν 1 0) (by simp [f_12_many, rf_0_0, l_0]) (e 0 (by decide)).symm)
  by_cases d1 : a = 1
  · subst d1
    exact Ok_of (y := μ 49 1) (by simp [f_11_many, rf_23_0, rf_49_13, rf_49_12, rf_49_14, rf_49_15, rf_23_4, rf_23_5]) (Ok_of (y := ν 1 8) (by simp [f_12_many, rf_0_0, l_8]) (e 8 (by decide)).symm)
  by_cases d2 : a = 2
  · subst d2
    exact Ok_of (y := μ 49 2) (by simp [f_11_many, rf_23_0, rf_49_13, rf_49_12, rf_49_14, rf_49_15, rf_23_4, rf_23_5]) (Ok_of (y := ν 1 9) (by simp [f_12_many, rf_0_0, l_9]) (e 9 (by decide)).symm)
  by_cases d3 : a = 3
  · subst d3
    exact Ok_of (y := μ 49 3) (by simp [f_11_many, rf_23_0, rf_49_13, rf_49_12, rf_49_14, rf_49_15, rf_23_4, rf_23_5]) (Ok_of (y := ν 1 10) (by simp [f_12_many, rf_0_0, l_10]) (e 10 (by decide)).symm)
  by_cases d4 : a = 4
  · subst d4
    exact Ok_of (y := μ 49 4) (by simp [f_11_many, rf_23_0, rf_49_13, rf_49_12, rf_49_14, rf_49_15, rf_23_4, rf_23_5]) (Ok_of (y := ν 1 11) (by simp [f_12_many, rf_0_0, l_11]) (e 11 (by decide)).symm)
  by_cases d5 : a = 5
  · subst d5
    exact Ok_of (y := μ 64 0) (by simp [f_11_many, rf_23_0, rf_49_13, rf_49_12, rf_49_14, rf_49_15, rf_23_4, rf_23_5]) (Ok_of (y := ν 1 12) (by simp [f_12_many, rf_0_0, l_12]) (e 12 (by decide)).symm)
  by_cases d6 : a = 6
  · subst d6
    exact Ok_of (y := μ 64 4) (by simp [f_11_many, rf_23_0, rf_49_13, rf_49_12, rf_49_14, rf_49_15, rf_23_4, rf_23_5]) (Ok_of (y := ν 1 13) (by simp [f_12_many, rf_0_0, l_13]) (e 13 (by decide)).symm)
  by_cases d7 : a = 7
  · subst d7
    exact Ok_of (y := μ 61 2) (by simp [f_11_many, rf_23_0, rf_49_13, rf_49_12, rf_49_14, rf_49_15, rf_23_4, rf_23_5]) (Ok_of (y := ν 1 14) (by simp [f_12_many, rf_0_0, l_14]) (e 14 (by decide)).symm)
  by_cases d8 : a = 8
  · subst d8
    exact Ok_of (y := μ 49 5) (by simp [f_11_many, rf_23_0, rf_49_13, rf_49_12, rf_49_14, rf_49_15, rf_23_4, rf_23_5]) (Ok_of (y := ν 1 1) (by simp [f_12_many, rf_0_0, l_1]) (e 1 (by decide)).symm)
  by_cases d9 : a = 9
  · subst d9
    exact Ok_of (y := μ 61 0) (by simp [f_11_many, rf_23_0, rf_49_13, rf_49_12, rf_49_14, rf_49_15, rf_23_4, rf_23_5]) (Ok_of (y := ν 1 2) (by simp [f_12_many, rf_0_0, l_2]) (e 2 (by decide)).symm)
  by_cases d10 : a = 10
  · subst d10
    exact Ok_of (y := μ 71 1) (by simp [f_11_many, rf_23_0, rf_49_13, rf_49_12, rf_49_14, rf_49_15, rf_23_4, rf_23_5]) (Ok_of (y := ν 1 15) (by simp [f_12_many, rf_0_0, l_15]) (e 15 (by decide)).symm)
  by_cases d11 : a = 11
  · subst d11
    exact Ok_of (y := μ 71 2) (by simp [f_11_many, rf_23_0, rf_49_13, rf_49_12, rf_49_14, rf_49_15, rf_23_4, rf_23_5]) (Ok_of (y := ν 1 16) (by simp [f_12_many, rf_0_0, l_16]) (e 16 (by decide)).symm)
  by_cases d13 : a = 13
  · subst d13
    exact Ok_of (y := μ 85 0) (by simp [f_11_many, rf_23_0, rf_49_13, rf_49_12, rf_49_14, rf_49_15, rf_23_4, rf_23_5]) (Ok_of (y := ν 1 17) (by simp [f_12_many, rf_0_0, l_17]) (e 17 (by decide)).symm)
  by_cases d12 : a = 12
  · subst d12
    obtain ⟨r, t, -, -, e1, e2, -⟩ := h.2.2.2.2.1
    exact Ok_of (y := nI r) (by simp [f_11_many, e1]) (Ok_of (y := nI r) (by simp [f_12_many, e2]) rfl)
  by_cases d14 : a = 14
  · subst d14
    obtain ⟨n, -, e1, e2, -⟩ := h.2.2.2.1
    exact Ok_of (y := nI n) (by simp [f_11_many, rf_23_0, rf_49_13, rf_49_12, rf_49_14, rf_49_15, rf_23_4, rf_23_5, e1]) (Ok_of (y := nI n) (by simp [f_12_many, e2]) rfl)
  by_cases d15 : a = 15
  · subst d15
    obtain ⟨n, -, e1, e2, -⟩ := h.2.2.2.2.2.2.2
    exact Ok_of (y := nI n) (by simp [f_11_many, rf_23_0, rf_49_13, rf_49_12, rf_49_14, rf_49_15, rf_23_4, rf_23_5, e1]) (Ok_of (y := nI n) (by simp [f_12_many, e2]) rfl)
  by_cases d16 : a = 16
  · subst d16
    have hV := h.1.2.2.2.2.1
    have hI := h.2.1.2.2.2.2.2.1
    rw [nn11] at hV hI
    obtain ⟨y, y1, y2⟩ := back_l (v := 49) isV_now hn11 em11 en11 hV (fun p hp => (hI p hp).2.2.2.2.2.2.2.1) n11 0 FU FU 0 (by omega) (show n11 < 2000 by omega) (show n11 < 2000 by omega)
    rw [show nI 0 = 0 from rfl] at y1 y2
    exact Ok_of (y := y) (by simp [f_11_many, f_9_backCount, rf_23_0, y1]) (Ok_of (y := y) (by simp [f_12_many, y2]) rfl)
  exact Ok_of (y := -1) (by simp [f_11_many, d0, d1, d2, d3, d4, d5, d6, d7, d8, d9, d10, d11, d12, d13, d14, d15, d16]) (Ok_of (y := -1) (by simp [f_12_many, d0, d1, d2, d3, d4, d5, d6, d7, d8, d9, d10, d11, d12, d13, d14, d15, d16]) rfl)
/-- the shelf s holds something else -/
theorem Sv_put {μ μ' ν ν' : mm} {s : Nat} (h : Sv μ ν) (hm : ∀ b j, (46 ≤ b ∧ b < 49) → j ≠ s → μ' b j = μ b j) (hn : ∀ b j, (19 ≤ b ∧ b < 22) → j ≠ s → ν' b j = ν b j) (hs : (0 ≤ μ' 46 s ∧ μ' 46 s ≤ 4) ∧ (μ' 46 s = 4 → ν' 19 s = 0) ∧ (μ' 46 s ≠ 4 → ν' 19 s = μ' 46 s + 1 ∧ ν' 20 s = μ' 47 s ∧ (0 ≤ μ' 47 s ∧ μ' 47 s ≤ 15)) ∧ (μ' 46 s = 3 → ν' 21 s = μ' 48 s ∧ μ' 47 s ≤ 4)) : Sv μ' ν' := by
  intro t ht
  by_cases e : t = s
  · subst e
    exact hs
  · rw [hm 46 t (by omega) e, hm 47 t (by omega) e, hm 48 t (by omega) e, hn 19 t (by omega) e, hn 20 t (by omega) e, hn 21 t (by omega) e]
    exact h t ht
set_option maxHeartbeats 1000000 in
theorem T_shelf {μ ν : mm} (a b n : Int32) (h : Cp μ ν) : Ok (f_11_shelf 23 a b n μ) fun z => Ok (f_12_shelf 0 a b n ν) fun w => z.1 = w.1 ∧ Cp z.2 w.2 := by
  obtain ⟨n9, hn9, en9, nn9⟩ := cnt_of (m := 4) (by decide) h.2.1.2.1.2.1
  have em9 : μ 49 2 = nI n9 := (h.1.1 9 (by decide)).symm.trans en9
  obtain ⟨n10, hn10, en10, nn10⟩ := cnt_of (m := 4) (by decide) h.2.1.2.1.2.2.1
  have em10 : μ 49 3 = nI n10 := (h.1.1 10 (by decide)).symm.trans en10
  obtain ⟨n11, hn11, en11, nn11⟩ := cnt_of (m := 16) (by decide) h.2.1.2.1.2.2.2.1
  have em11 : μ 49 4 = nI n11 := (h.1.1 11 (by decide)).symm.trans en11
  by_cases c1 : 0 ≤ a ∧ a ≤ 3
  · obtain ⟨s, hs, rfl⟩ := four_of c1
    by_cases d0 : b = 0
    · subst d0
      by_cases c2 : 0 ≤ n ∧ n ≤ nI n11 - 1
      · obtain ⟨q, hq, rfl⟩ := in_of (by omega) c2
        refine Ok_of (y := (1, up (up μ 46 s 0) 47 s (nI q))) (by simp (disch := omega) [f_11_shelf, f_11_holdThing, isShelf_eq, c1, hasH_eq, rf_23_0, em11, c2, rf_23_14, rf_23_15, stoL len_46, stoL len_47]) ?_
        refine Ok_of (y := (1, up (up (up ν 19 s 1) 20 s (nI q)) 21 s 0)) (by simp (disch := omega) [f_12_shelf, is_11, en11, c2, isFour_eq, c1, within_t (show (0 : Int32) ≤ 0 ∧ (0 : Int32) ≤ 4 from by decide), rf_0_29, rf_0_30, rf_0_31, stoL len_19, stoL len_20, stoL len_21]) ?_
        dsimp only
        refine ⟨rfl, Cp_host h (fun b q => by rw [up_ne (by omega), up_ne (by omega)]) (fun b q => by rw [up_ne (by omega), up_ne (by omega), up_ne (by omega)]) ⟨rfl, rfl, rfl, rfl⟩ (Sh_cg (fun b q => by rw [up_ne (by omega), up_ne (by omega)]) (fun b q => by rw [up_ne (by omega), up_ne (by omega), up_ne (by omega)]) h.2.2.2.2.2.1) (Sv_put (s := s) h.2.2.2.2.2.2.1 (fun b j q1 q2 => by rw [up_ns q2, up_ns q2]) (fun b j q1 q2 => by rw [up_ns q2, up_ns q2, up_ns q2]) ?_) (Tc_cg ⟨rfl, rfl⟩ ⟨rfl, rfl⟩ h.2.2.2.2.2.2.2)⟩
        simp (disch := omega) only [up_at, up_nc]
        refine ⟨by decide, fun z => absurd z (by decide), fun _ => ⟨by decide, trivial, le_lit (m := 15) (by omega) (by decide)⟩, fun z => absurd z (by decide)⟩
      · exact Ok_of (y := (-1, μ)) (by simp [f_11_shelf, f_11_holdThing, isShelf_eq, c1, hasH_eq, rf_23_0, em11, c2]) (Ok_of (y := (-1, ν)) (by simp [f_12_shelf, is_11, en11, c2, isFour_eq, c1, within_t (show (0 : Int32) ≤ 0 ∧ (0 : Int32) ≤ 4 from by decide)]) ⟨rfl, h⟩)
    by_cases d1 : b = 1
    · subst d1
      by_cases c2 : 0 ≤ n ∧ n ≤ nI n10 - 1
      · obtain ⟨q, hq, rfl⟩ := in_of (by omega) c2
        refine Ok_of (y := (1, up (up μ 46 s 1) 47 s (nI q))) (by simp (disch := omega) [f_11_shelf, f_11_holdThing, isShelf_eq, c1, hasS_eq, rf_23_0, em10, c2, rf_23_14, rf_23_15, stoL len_46, stoL len_47]) ?_
        refine Ok_of (y := (1, up (up (up ν 19 s 2) 20 s (nI q)) 21 s 0)) (by simp (disch := omega) [f_12_shelf, is_10, en10, c2, isFour_eq, c1, within_t (show (0 : Int32) ≤ 1 ∧ (1 : Int32) ≤ 4 from by decide), rf_0_29, rf_0_30, rf_0_31, stoL len_19, stoL len_20, stoL len_21]) ?_
        dsimp only
        refine ⟨rfl, Cp_host h (fun b q => by rw [up_ne (by omega), up_ne (by omega)]) (fun b q => by rw [up_ne (by omega), up_ne (by omega), up_ne (by omega)]) ⟨rfl, rfl, rfl, rfl⟩ (Sh_cg (fun b q => by rw [up_ne (by omega), up_ne (by omega)]) (fun b q => by rw [up_ne (by omega), up_ne (by omega), up_ne (by omega)]) h.2.2.2.2.2.1) (Sv_put (s := s) h.2.2.2.2.2.2.1 (fun b j q1 q2 => by rw [up_ns q2, up_ns q2]) (fun b j q1 q2 => by rw [up_ns q2, up_ns q2, up_ns q2]) ?_) (Tc_cg ⟨rfl, rfl⟩ ⟨rfl, rfl⟩ h.2.2.2.2.2.2.2)⟩
        simp (disch := omega) only [up_at, up_nc]
        refine ⟨by decide, fun z => absurd z (by decide), fun _ => ⟨by decide, trivial, le_lit (m := 15) (by omega) (by decide)⟩, fun z => absurd z (by decide)⟩
      · exact Ok_of (y := (-1, μ)) (by simp [f_11_shelf, f_11_holdThing, isShelf_eq, c1, hasS_eq, rf_23_0, em10, c2]) (Ok_of (y := (-1, ν)) (by simp [f_12_shelf, is_10, en10, c2, isFour_eq, c1, within_t (show (0 : Int32) ≤ 1 ∧ (1 : Int32) ≤ 4 from by decide)]) ⟨rfl, h⟩)
    by_cases d2 : b = 2
    · subst d2
      by_cases c2 : 0 ≤ n ∧ n ≤ nI n9 - 1
      · obtain ⟨q, hq, rfl⟩ := in_of (by omega) c2
        refine Ok_of (y := (1, up (up μ 46 s 2) 47 s (nI q))) (by simp (disch := omega) [f_11_shelf, f_11_holdThing, isShelf_eq, c1, hasP_eq, rf_23_0, em9, c2, rf_23_14, rf_23_15, stoL len_46, stoL len_47]) ?_
        refine Ok_of (y := (1, up (up (up ν 19 s 3) 20 s (nI q)) 21 s 0)) (by simp (disch := omega) [f_12_shelf, is_9, en9, c2, isFour_eq, c1, within_t (show (0 : Int32) ≤ 2 ∧ (2 : Int32) ≤ 4 from by decide), rf_0_29, rf_0_30, rf_0_31, stoL len_19, stoL len_20, stoL len_21]) ?_
        dsimp only
        refine ⟨rfl, Cp_host h (fun b q => by rw [up_ne (by omega), up_ne (by omega)]) (fun b q => by rw [up_ne (by omega), up_ne (by omega), up_ne (by omega)]) ⟨rfl, rfl, rfl, rfl⟩ (Sh_cg (fun b q => by rw [up_ne (by omega), up_ne (by omega)]) (fun b q => by rw [up_ne (by omega), up_ne (by omega), up_ne (by omega)]) h.2.2.2.2.2.1) (Sv_put (s := s) h.2.2.2.2.2.2.1 (fun b j q1 q2 => by rw [up_ns q2, up_ns q2]) (fun b j q1 q2 => by rw [up_ns q2, up_ns q2, up_ns q2]) ?_) (Tc_cg ⟨rfl, rfl⟩ ⟨rfl, rfl⟩ h.2.2.2.2.2.2.2)⟩
        simp (disch := omega) only [up_at, up_nc]
        refine ⟨by decide, fun z => absurd z (by decide), fun _ => ⟨by decide, trivial, le_lit (m := 15) (by omega) (by decide)⟩, fun z => absurd z (by decide)⟩
      · exact Ok_of (y := (-1, μ)) (by simp [f_11_shelf, f_11_holdThing, isShelf_eq, c1, hasP_eq, rf_23_0, em9, c2]) (Ok_of (y := (-1, ν)) (by simp [f_12_shelf, is_9, en9, c2, isFour_eq, c1, within_t (show (0 : Int32) ≤ 2 ∧ (2 : Int32) ≤ 4 from by decide)]) ⟨rfl, h⟩)
    by_cases d3 : b = 3
    · subst d3
      by_cases c2 : 0 ≤ n ∧ n ≤ 3
      · obtain ⟨q, hq, rfl⟩ := four_of c2
        obtain ⟨q1, q2, q3⟩ := h.2.2.2.2.2.1 q hq
        by_cases c3 : 0 ≤ ν 16 q
        · have c4 : ¬ ν 16 q = -1 := by intro e; rw [e] at c3; exact absurd c3 (by decide)
          obtain ⟨r1, r2, -⟩ := q3 c3
          refine Ok_of (y := (1, up (up (up μ 46 s 3) 47 s (ν 16 q)) 48 s (ν 17 q))) (by simp (disch := omega) [f_11_shelf, f_11_holdRow, isShelf_eq, isSheet_eq, c1, c2, rf_23_11, rf_23_12, rf_23_14, rf_23_15, rf_23_16, stoL len_46, stoL len_47, stoL len_48, ldL len_39, ldL len_40, q2, r2, c4, up_nc]) ?_
          refine Ok_of (y := (1, up (up (up ν 19 s 4) 20 s (ν 16 q)) 21 s (ν 17 q))) (by simp (disch := omega) [f_12_shelf, isFour_eq, c1, c2, c3, within_t (show (0 : Int32) ≤ 3 ∧ (3 : Int32) ≤ 4 from by decide), rf_0_26, rf_0_27, rf_0_29, rf_0_30, rf_0_31, stoL len_19, stoL len_20, stoL len_21, ldL len_16, ldL len_17, up_nc]) ?_
          dsimp only
          refine ⟨rfl, Cp_host h (fun b q => by rw [up_ne (by omega), up_ne (by omega), up_ne (by omega)]) (fun b q => by rw [up_ne (by omega), up_ne (by omega), up_ne (by omega)]) ⟨rfl, rfl, rfl, rfl⟩ (Sh_cg (fun b q => by rw [up_ne (by omega), up_ne (by omega), up_ne (by omega)]) (fun b q => by rw [up_ne (by omega), up_ne (by omega), up_ne (by omega)]) h.2.2.2.2.2.1) (Sv_put (s := s) h.2.2.2.2.2.2.1 (fun b j q1 q2 => by rw [up_ns q2, up_ns q2, up_ns q2]) (fun b j q1 q2 => by rw [up_ns q2, up_ns q2, up_ns q2]) ?_) (Tc_cg ⟨rfl, rfl⟩ ⟨rfl, rfl⟩ h.2.2.2.2.2.2.2)⟩
          simp (disch := omega) only [up_at, up_nc]
          refine ⟨by decide, fun z => absurd z (by decide), fun _ => ⟨by decide, trivial, c3, Int32.le_trans q1.2 (by decide)⟩, fun _ => ⟨trivial, q1.2⟩⟩
        · have c4 : ν 16 q = -1 := by grind
          refine Ok_of (y := (1, up (up (up μ 46 s 4) 47 s (-1)) 48 s (μ 40 q))) (by simp (disch := omega) [f_11_shelf, f_11_holdRow, isShelf_eq, isSheet_eq, c1, c2, rf_23_11, rf_23_12, rf_23_14, rf_23_15, rf_23_16, stoL len_46, stoL len_47, stoL len_48, ldL len_39, ldL len_40, q2, c4, up_nc]) ?_
          refine Ok_of (y := (1, up (up (up ν 19 s 0) 20 s 0) 21 s 0)) (by simp (disch := omega) [f_12_shelf, isFour_eq, c1, c2, c3, within_t (show (0 : Int32) ≤ 3 ∧ (3 : Int32) ≤ 4 from by decide), rf_0_26, rf_0_27, rf_0_29, rf_0_30, rf_0_31, stoL len_19, stoL len_20, stoL len_21, ldL len_16, ldL len_17, up_nc]) ?_
          dsimp only
          refine ⟨rfl, Cp_host h (fun b q => by rw [up_ne (by omega), up_ne (by omega), up_ne (by omega)]) (fun b q => by rw [up_ne (by omega), up_ne (by omega), up_ne (by omega)]) ⟨rfl, rfl, rfl, rfl⟩ (Sh_cg (fun b q => by rw [up_ne (by omega), up_ne (by omega), up_ne (by omega)]) (fun b q => by rw [up_ne (by omega), up_ne (by omega), up_ne (by omega)]) h.2.2.2.2.2.1) (Sv_put (s := s) h.2.2.2.2.2.2.1 (fun b j q1 q2 => by rw [up_ns q2, up_ns q2, up_ns q2]) (fun b j q1 q2 => by rw [up_ns q2, up_ns q2, up_ns q2]) ?_) (Tc_cg ⟨rfl, rfl⟩ ⟨rfl, rfl⟩ h.2.2.2.2.2.2.2)⟩
          simp (disch := omega) only [up_at, up_nc]
          refine ⟨by decide, fun z => by decide, fun z => absurd z (by decide), fun z => absurd z (by decide)⟩
      · exact Ok_of (y := (-1, μ)) (by simp [f_11_shelf, isShelf_eq, isSheet_eq, c1, c2]) (Ok_of (y := (-1, ν)) (by simp [f_12_shelf, isFour_eq, c1, c2, within_t (show (0 : Int32) ≤ 3 ∧ (3 : Int32) ≤ 4 from by decide)]) ⟨rfl, h⟩)
    by_cases d4 : b = 4
    · subst d4
      refine Ok_of (y := (1, up (up μ 46 s 4) 47 s 0)) (by simp (disch := omega) [f_11_shelf, f_11_holdThing, isShelf_eq, c1, rf_23_14, rf_23_15, stoL len_46, stoL len_47]) ?_
      refine Ok_of (y := (1, up (up (up ν 19 s 0) 20 s 0) 21 s 0)) (by simp (disch := omega) [f_12_shelf, isFour_eq, c1, within_t (show (0 : Int32) ≤ 4 ∧ (4 : Int32) ≤ 4 from by decide), rf_0_29, rf_0_30, rf_0_31, stoL len_19, stoL len_20, stoL len_21]) ?_
      dsimp only
      refine ⟨rfl, Cp_host h (fun b q => by rw [up_ne (by omega), up_ne (by omega)]) (fun b q => by rw [up_ne (by omega), up_ne (by omega), up_ne (by omega)]) ⟨rfl, rfl, rfl, rfl⟩ (Sh_cg (fun b q => by rw [up_ne (by omega), up_ne (by omega)]) (fun b q => by rw [up_ne (by omega), up_ne (by omega), up_ne (by omega)]) h.2.2.2.2.2.1) (Sv_put (s := s) h.2.2.2.2.2.2.1 (fun b j q1 q2 => by rw [up_ns q2, up_ns q2]) (fun b j q1 q2 => by rw [up_ns q2, up_ns q2, up_ns q2]) ?_) (Tc_cg ⟨rfl, rfl⟩ ⟨rfl, rfl⟩ h.2.2.2.2.2.2.2)⟩
      simp (disch := omega) only [up_at, up_nc]
      refine ⟨by decide, fun z => by decide, fun z => absurd z (by decide), fun z => absurd z (by decide)⟩
    have nr : ¬ (0 ≤ b ∧ b ≤ 4) := fun q => by
      obtain ⟨j, hj, rfl⟩ := nI_of2 (M := 4) (n := 4) (by decide) (Int32.not_lt.mpr q.1) q.2
      have : j = 0 ∨ j = 1 ∨ j = 2 ∨ j = 3 ∨ j = 4 := by omega
      rcases this with rfl | rfl | rfl | rfl | rfl
      · exact d0 rfl
      · exact d1 rfl
      · exact d2 rfl
      · exact d3 rfl
      · exact d4 rfl
    exact Ok_of (y := (-1, μ)) (by simp [f_11_shelf, isShelf_eq, c1, d0, d1, d2, d3, d4]) (Ok_of (y := (-1, ν)) (by simp [f_12_shelf, isFour_eq, c1, d0, d1, d2, d3, d4, within_f nr]) ⟨rfl, h⟩)
  · refine Ok_of (y := (-1, μ)) (by simp [f_11_shelf, isShelf_eq, c1]) (Ok_of (y := (-1, ν)) ?_ ⟨rfl, h⟩)
    simp only [f_12_shelf, isFour_eq, if_neg c1, is_11, is_10, is_9, Option.bind_some]
    by_cases d0 : b = 0
    · simp [d0]
    by_cases d1 : b = 1
    · simp [d1]
    by_cases d2 : b = 2
    · simp [d2]
    by_cases d3 : b = 3
    · subst d3
      by_cases c2 : 0 ≤ n ∧ n ≤ 3
      · simp [c2]
      · simp only [if_neg c2]
        simp
    simp [d0, d1, d2, d3]
