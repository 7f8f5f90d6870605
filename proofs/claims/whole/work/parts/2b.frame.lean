set_option maxRecDepth 100000 in
theorem fr_J7_fill_l5 (a0 : Nat) (a1 : Int32) (a3 : Int32) (k0 : kd a0 = 20) : ∀ (n : Nat) (v2 : Int32) (μ : mm) (z : mm), f_J7_fill_l5 a0 a1 a3 n v2 μ = some z → Fl a0 μ z
  | 0, _, _, _, h => by
    rw [f_J7_fill_l5] at h
    cases h
  | n + 1, v2, μ, z, h => by
    rw [f_J7_fill_l5] at h
    by_cases hc : a3 ≤ v2
    · rw [if_pos hc] at h
      obtain rfl := Option.some.inj h
      exact Fl_rf
    · rw [if_neg hc] at h
      obtain ⟨μ1, e2, h⟩ := bi_el h
      have t0 := Fl_sto e2
      exact (Fl_tr (t0) (fr_J7_fill_l5 a0 a1 a3 k0 n (v2 + 1) μ1 _ h))
set_option maxRecDepth 100000 in
theorem fr_J7_fill  {a0 : Nat} {a1 : Int32} {μ : mm} {r : mm} (h : f_J7_fill a0 a1 μ = some r) (k0 : kd a0 = 20) : Fl a0 μ r := by
  unfold f_J7_fill at h
  obtain ⟨z1, e2, h⟩ := bi_el h
  have t0 := fr_J7_fill_l5 a0 a1 (Int32.ofNat (len a0)) k0 FU 0 μ _ e2
  obtain rfl := Option.some.inj h
  exact (t0)
set_option maxRecDepth 100000 in
theorem fr_4_fill  {a0 : Nat} {a1 : Int32} {a2 : Int32} {μ : mm} {r : mm} (h : f_4_fill a0 a1 a2 μ = some r) (k0 : kd a0 = 4) : Fc μ r := by
  unfold f_4_fill at h
  obtain ⟨x2, e1, h⟩ := bi_el h
  by_cases hc : x2 = 0
  · rw [if_pos hc] at h
    obtain ⟨x4, e3, h⟩ := bi_el h
    obtain ⟨μ5, e6, h⟩ := bi_el h
    have t0 := Fc_pf (ow_kd_4 k0) e6
    by_cases hc : (μ5 a0 4) ≤ (μ5 a0 3)
    · rw [if_pos hc] at h
      obtain rfl := Option.some.inj h
      exact (t0)
    · rw [if_neg hc] at h
      obtain ⟨μ7, e8, h⟩ := bi_el h
      have t1 := Fc_pf (ow_kd_4 k0) e8
      obtain rfl := Option.some.inj h
      exact (Fc_tr (t0) (t1))
  · rw [if_neg hc] at h
    obtain rfl := Option.some.inj h
    exact Fc_rf
set_option maxRecDepth 100000 in
theorem fr_1_eatOwn  {a0 : Nat} {μ : mm} {r : Int32 × mm} (h : f_1_eatOwn a0 μ = some r) (k0 : kd a0 = 1) : Fc μ r.2 := by
  unfold f_1_eatOwn at h
  obtain ⟨μ1, e2, h⟩ := bi_el h
  have t0 := Fc_pf (ow_kd_1 k0) e2
  obtain rfl := Option.some.inj h
  exact (t0)
set_option maxRecDepth 100000 in
theorem fr_1_endDay  {a0 : Nat} {a1 : Int32} {a2 : Int32} {a3 : Int32} {μ : mm} {r : mm} (h : f_1_endDay a0 a1 a2 a3 μ = some r) (k0 : kd a0 = 1) : Fc μ r := by
  unfold f_1_endDay at h
  obtain ⟨z1, hz1, h⟩ := bi_el h
  obtain ⟨μ2, e3, h⟩ := bi_el h
  have t0 := Fc_pf (ow_kd_1 k0) e3
  obtain ⟨z6, hz6, h⟩ := bi_el h
  have tzz6 : Fc μ2 z6.2 := by
    clear h
    have h := hz6
    clear hz6
    by_cases hc : a1 = 0
    · rw [if_pos hc] at h
      obtain rfl := Option.some.inj h
      exact Fc_rf
    · rw [if_neg hc] at h
      obtain ⟨μ4, e5, h⟩ := bi_el h
      have t0 := Fc_pf (ow_kd_1 k0) e5
      obtain rfl := Option.some.inj h
      exact (t0)
  obtain ⟨z9, hz9, h⟩ := bi_el h
  have tzz9 : Fc z6.2 z9.2 := by
    clear h
    have h := hz9
    clear hz9
    by_cases hc : z1 = 0
    · rw [if_pos hc] at h
      obtain rfl := Option.some.inj h
      exact Fc_rf
    · rw [if_neg hc] at h
      obtain ⟨μ7, e8, h⟩ := bi_el h
      have t0 := Fc_pf (ow_kd_1 k0) e8
      obtain rfl := Option.some.inj h
      exact (t0)
  obtain ⟨z10, hz10, h⟩ := bi_el h
  obtain ⟨μ11, e12, h⟩ := bi_el h
  have t3 := Fc_pf (ow_kd_1 k0) e12
  obtain ⟨z13, hz13, h⟩ := bi_el h
  obtain ⟨_, q16, h⟩ := bi_el h
  obtain ⟨μ14, e15, h⟩ := bi_el h
  have t4 := Fc_pf (ow_kd_1 k0) e15
  obtain rfl := Option.some.inj h
  exact (Fc_tr (t0) (Fc_tr (tzz6) (Fc_tr (tzz9) (Fc_tr (t3) (t4)))))
set_option maxRecDepth 100000 in
theorem fr_6_lend  {a0 : Nat} {a1 : Int32} {μ : mm} {r : Int32 × mm} (h : f_6_lend a0 a1 μ = some r) (k0 : kd a0 = 6) : Fc μ r.2 := by
  unfold f_6_lend at h
  obtain ⟨μ1, e2, h⟩ := bi_el h
  have t0 := Fc_pf (ow_kd_6 k0) e2
  obtain rfl := Option.some.inj h
  exact (t0)
set_option maxRecDepth 100000 in
theorem fr_9_liveOn_l16 (a0 : Nat) (a1 : Nat) (a2 : Int32) (k0 : kd a0 = 9) (k1 : kd a1 = 1) : ∀ (n : Nat) (v3 : Int32) (v4 : Int32) (μ : mm) (z : Int32 × mm), f_9_liveOn_l16 a0 a1 a2 n v3 v4 μ = some z → Fc μ z.2
  | 0, _, _, _, _, h => by
    rw [f_9_liveOn_l16] at h
    cases h
  | n + 1, v3, v4, μ, z, h => by
    rw [f_9_liveOn_l16] at h
    by_cases hc : (μ a0 3) ≤ v4
    · rw [if_pos hc] at h
      obtain rfl := Option.some.inj h
      exact Fc_rf
    · rw [if_neg hc] at h
      by_cases hc : v3 ≤ 0
      · rw [if_pos hc] at h
        obtain rfl := Option.some.inj h
        exact Fc_rf
      · rw [if_neg hc] at h
        obtain ⟨r1, e2, h⟩ := bi_el h
        by_cases hc : (μ r1 0) = (μ a1 0)
        · rw [if_pos hc] at h
          obtain ⟨r3, e4, h⟩ := bi_el h
          obtain ⟨z6, e5, h⟩ := bi_el h
          have t0 := fr_6_lend e5 (tl_25 e4 (ty_9_9 k0))
          obtain ⟨μ7, e8, h⟩ := bi_el h
          have t1 := Fc_pf (ow_kd_1 k1) e8
          exact (Fc_tr (t0) (Fc_tr (t1) (fr_9_liveOn_l16 a0 a1 a2 k0 k1 n (v3 - z6.1) (v4 + 1) μ7 _ h)))
        · rw [if_neg hc] at h
          exact (fr_9_liveOn_l16 a0 a1 a2 k0 k1 n v3 (v4 + 1) μ _ h)
set_option maxRecDepth 100000 in
theorem fr_9_liveOn  {a0 : Nat} {a1 : Nat} {a2 : Int32} {μ : mm} {r : mm} (h : f_9_liveOn a0 a1 a2 μ = some r) (k0 : kd a0 = 9) (k1 : kd a1 = 1) : Fc μ r := by
  unfold f_9_liveOn at h
  by_cases hc : (μ a1 10) = 0
  · rw [if_pos hc] at h
    obtain ⟨z2, e1, h⟩ := bi_el h
    have t0 := fr_1_eatOwn e1 k1
    obtain ⟨z3, e4, h⟩ := bi_el h
    have t1 := fr_9_liveOn_l16 a0 a1 a2 k0 k1 FU z2.1 0 z2.2 _ e4
    obtain ⟨z5, hz5, h⟩ := bi_el h
    obtain ⟨μ7, e6, h⟩ := bi_el h
    have t2 := fr_1_endDay e6 k1
    obtain rfl := Option.some.inj h
    exact (Fc_tr (t0) (Fc_tr (t1) (t2)))
  · rw [if_neg hc] at h
    obtain rfl := Option.some.inj h
    exact Fc_rf
set_option maxRecDepth 100000 in
theorem fr_9_drawByRank_l61 (a0 : Nat) (a1 : Int32) (a3 : Int32) (a4 : Int32) (k0 : kd a0 = 9) : ∀ (n : Nat) (v5 : Int32) (v6 : Int32) (μ : mm) (z : Int32 × mm), f_9_drawByRank_l61 a0 a1 a3 a4 n v5 v6 μ = some z → Fc μ z.2
  | 0, _, _, _, _, h => by
    rw [f_9_drawByRank_l61] at h
    cases h
  | n + 1, v5, v6, μ, z, h => by
    rw [f_9_drawByRank_l61] at h
    by_cases hc : (μ a0 4) ≤ v6
    · rw [if_pos hc] at h
      obtain rfl := Option.some.inj h
      exact Fc_rf
    · rw [if_neg hc] at h
      obtain ⟨x1, e2, h⟩ := bi_el h
      by_cases hc : x1 = a1
      · rw [if_pos hc] at h
        obtain ⟨x3, e4, h⟩ := bi_el h
        obtain ⟨_, q5, h⟩ := bi_el h
        obtain ⟨μ6, e7, h⟩ := bi_el h
        have t0 := Fc_sto (ow_9_16 k0) e7
        obtain ⟨x8, e9, h⟩ := bi_el h
        exact (Fc_tr (t0) (fr_9_drawByRank_l61 a0 a1 a3 a4 k0 n (v5 - x8) (v6 + 1) μ6 _ h))
      · rw [if_neg hc] at h
        exact (fr_9_drawByRank_l61 a0 a1 a3 a4 k0 n v5 (v6 + 1) μ _ h)
set_option maxRecDepth 100000 in
theorem fr_9_drawByRank_l121 (a0 : Nat) (a1 : Int32) (a4 : Int32) (k0 : kd a0 = 9) : ∀ (n : Nat) (v5 : Int32) (v6 : Int32) (μ : mm) (z : mm), f_9_drawByRank_l121 a0 a1 a4 n v5 v6 μ = some z → Fc μ z
  | 0, _, _, _, _, h => by
    rw [f_9_drawByRank_l121] at h
    cases h
  | n + 1, v5, v6, μ, z, h => by
    rw [f_9_drawByRank_l121] at h
    by_cases hc : (μ a0 4) ≤ v6
    · rw [if_pos hc] at h
      obtain rfl := Option.some.inj h
      exact Fc_rf
    · rw [if_neg hc] at h
      by_cases hc : v5 ≤ 0
      · rw [if_pos hc] at h
        obtain rfl := Option.some.inj h
        exact Fc_rf
      · rw [if_neg hc] at h
        obtain ⟨x1, e2, h⟩ := bi_el h
        by_cases hc : x1 = a1
        · rw [if_pos hc] at h
          obtain ⟨x3, e4, h⟩ := bi_el h
          obtain ⟨x5, e6, h⟩ := bi_el h
          by_cases hc : x5 ≤ x3
          · rw [if_pos hc] at h
            exact (fr_9_drawByRank_l121 a0 a1 a4 k0 n v5 (v6 + 1) μ _ h)
          · rw [if_neg hc] at h
            obtain ⟨x7, e8, h⟩ := bi_el h
            obtain ⟨μ9, e10, h⟩ := bi_el h
            have t0 := Fc_sto (ow_9_16 k0) e10
            exact (Fc_tr (t0) (fr_9_drawByRank_l121 a0 a1 a4 k0 n (v5 + (-1)) (v6 + 1) μ9 _ h))
        · rw [if_neg hc] at h
          exact (fr_9_drawByRank_l121 a0 a1 a4 k0 n v5 (v6 + 1) μ _ h)
set_option maxRecDepth 100000 in
theorem fr_9_drawByRank  {a0 : Nat} {a1 : Int32} {a2 : Int32} {μ : mm} {r : Int32 × mm} (h : f_9_drawByRank a0 a1 a2 μ = some r) (k0 : kd a0 = 9) : Fc μ r.2 := by
  unfold f_9_drawByRank at h
  obtain ⟨z1, e2, h⟩ := bi_el h
  by_cases hc : z1 = 0
  · rw [if_pos hc] at h
    obtain rfl := Option.some.inj h
    exact Fc_rf
  · rw [if_neg hc] at h
    obtain ⟨z3, e4, h⟩ := bi_el h
    have t0 := fr_9_drawByRank_l61 a0 a1 z1 (mn z1 a2) k0 FU (mn z1 a2) 0 μ _ e4
    obtain ⟨z5, e6, h⟩ := bi_el h
    have t1 := fr_9_drawByRank_l121 a0 a1 (mn z1 a2) k0 FU z3.1 0 z3.2 _ e6
    obtain rfl := Option.some.inj h
    exact (Fc_tr (t0) (t1))
set_option maxRecDepth 100000 in
theorem fr_9_reckonShares_l2 (a0 : Nat) (k0 : kd a0 = 9) : ∀ (n : Nat) (v1 : Int32) (μ : mm) (z : mm), f_9_reckonShares_l2 a0 n v1 μ = some z → Fc μ z
  | 0, _, _, _, h => by
    rw [f_9_reckonShares_l2] at h
    cases h
  | n + 1, v1, μ, z, h => by
    rw [f_9_reckonShares_l2] at h
    by_cases hc : (μ a0 4) ≤ v1
    · rw [if_pos hc] at h
      obtain rfl := Option.some.inj h
      exact Fc_rf
    · rw [if_neg hc] at h
      obtain ⟨r1, e2, h⟩ := bi_el h
      obtain ⟨z7, hz7, h⟩ := bi_el h
      obtain ⟨μ8, e9, h⟩ := bi_el h
      have t0 := Fc_sto (ow_9_17 k0) e9
      obtain ⟨r10, e11, h⟩ := bi_el h
      obtain ⟨x13, e12, h⟩ := bi_el h
      obtain ⟨μ14, e15, h⟩ := bi_el h
      have t1 := Fc_sto (ow_9_18 k0) e15
      obtain ⟨μ16, e17, h⟩ := bi_el h
      have t2 := Fc_sto (ow_9_16 k0) e17
      exact (Fc_tr (t0) (Fc_tr (t1) (Fc_tr (t2) (fr_9_reckonShares_l2 a0 k0 n (v1 + 1) μ16 _ h))))
set_option maxRecDepth 100000 in
theorem fr_9_reckonShares_l85 (a0 : Nat) (k0 : kd a0 = 9) : ∀ (n : Nat) (v1 : Int32) (v2 : Int32) (μ : mm) (z : Int32 × mm), f_9_reckonShares_l85 a0 n v1 v2 μ = some z → Fc μ z.2
  | 0, _, _, _, _, h => by
    rw [f_9_reckonShares_l85] at h
    cases h
  | n + 1, v1, v2, μ, z, h => by
    rw [f_9_reckonShares_l85] at h
    by_cases hc : 9 < v2
    · rw [if_pos hc] at h
      obtain rfl := Option.some.inj h
      exact Fc_rf
    · rw [if_neg hc] at h
      obtain ⟨z2, e1, h⟩ := bi_el h
      have t0 := fr_9_drawByRank e1 k0
      exact (Fc_tr (t0) (fr_9_reckonShares_l85 a0 k0 n (v1 - z2.1) (v2 + 1) z2.2 _ h))
set_option maxRecDepth 100000 in
theorem fr_9_reckonShares  {a0 : Nat} {μ : mm} {r : Int32 × mm} (h : f_9_reckonShares a0 μ = some r) (k0 : kd a0 = 9) : Fc μ r.2 := by
  unfold f_9_reckonShares at h
  obtain ⟨z1, e2, h⟩ := bi_el h
  have t0 := fr_9_reckonShares_l2 a0 k0 FU 0 μ _ e2
  obtain ⟨z3, e4, h⟩ := bi_el h
  have t1 := fr_9_reckonShares_l85 a0 k0 FU (z1 a0 5) 0 z1 _ e4
  obtain rfl := Option.some.inj h
  exact (Fc_tr (t0) (t1))
set_option maxRecDepth 100000 in
theorem fr_9_shareIfDue_l26 (a0 : Nat) (k0 : kd a0 = 9) : ∀ (n : Nat) (v1 : Int32) (μ : mm) (z : mm), f_9_shareIfDue_l26 a0 n v1 μ = some z → Fc μ z
  | 0, _, _, _, h => by
    rw [f_9_shareIfDue_l26] at h
    cases h
  | n + 1, v1, μ, z, h => by
    rw [f_9_shareIfDue_l26] at h
    by_cases hc : (μ a0 4) ≤ v1
    · rw [if_pos hc] at h
      obtain rfl := Option.some.inj h
      exact Fc_rf
    · rw [if_neg hc] at h
      obtain ⟨r1, e2, h⟩ := bi_el h
      by_cases hc : (μ r1 10) = 0
      · rw [if_pos hc] at h
        obtain ⟨x3, e4, h⟩ := bi_el h
        obtain ⟨x6, e5, h⟩ := bi_el h
        obtain ⟨μ7, e8, h⟩ := bi_el h
        have t0 := Fc_pf (ow_kd_1 (tl_26 e2 (ty_9_10 k0))) e8
        exact (Fc_tr (t0) (fr_9_shareIfDue_l26 a0 k0 n (v1 + 1) μ7 _ h))
      · rw [if_neg hc] at h
        exact (fr_9_shareIfDue_l26 a0 k0 n (v1 + 1) μ _ h)
set_option maxRecDepth 100000 in
theorem fr_9_shareIfDue  {a0 : Nat} {μ : mm} {r : mm} (h : f_9_shareIfDue a0 μ = some r) (k0 : kd a0 = 9) : Fc μ r := by
  unfold f_9_shareIfDue at h
  by_cases hc : ((μ a0 0) - (μ a0 0) / 7 * 7) = 0
  · rw [if_pos hc] at h
    obtain ⟨z2, e1, h⟩ := bi_el h
    have t0 := fr_9_reckonShares e1 k0
    obtain ⟨μ3, e4, h⟩ := bi_el h
    have t1 := Fc_pf (ow_kd_9 k0) e4
    obtain ⟨z5, e6, h⟩ := bi_el h
    have t2 := fr_9_shareIfDue_l26 a0 k0 FU 0 μ3 _ e6
    obtain rfl := Option.some.inj h
    exact (Fc_tr (t0) (Fc_tr (t1) (t2)))
  · rw [if_neg hc] at h
    obtain rfl := Option.some.inj h
    exact Fc_rf
set_option maxRecDepth 100000 in
theorem fr_10_goOn_l18 (a0 : Nat) (a1 : Int32) (k0 : kd a0 = 10) : ∀ (n : Nat) (v2 : Int32) (v3 : Int32) (μ : mm) (z : Int32 × mm), f_10_goOn_l18 a0 a1 n v2 v3 μ = some z → Fc μ z.2
  | 0, _, _, _, _, h => by
    rw [f_10_goOn_l18] at h
    cases h
  | n + 1, v2, v3, μ, z, h => by
    rw [f_10_goOn_l18] at h
    by_cases hc : (μ a0 2) ≤ v3
    · rw [if_pos hc] at h
      obtain rfl := Option.some.inj h
      exact Fc_rf
    · rw [if_neg hc] at h
      obtain ⟨x1, e2, h⟩ := bi_el h
      by_cases hc : x1 = a1
      · rw [if_pos hc] at h
        exact (fr_10_goOn_l18 a0 a1 k0 n v2 (v3 + 1) μ _ h)
      · rw [if_neg hc] at h
        obtain ⟨x3, e4, h⟩ := bi_el h
        obtain ⟨μ5, e6, h⟩ := bi_el h
        have t0 := Fc_sto (ow_10_3 k0) e6
        obtain ⟨x7, e8, h⟩ := bi_el h
        obtain ⟨μ9, e10, h⟩ := bi_el h
        have t1 := Fc_sto (ow_10_4 k0) e10
        exact (Fc_tr (t0) (Fc_tr (t1) (fr_10_goOn_l18 a0 a1 k0 n (v2 + 1) (v3 + 1) μ9 _ h)))
set_option maxRecDepth 100000 in
theorem fr_10_goOn  {a0 : Nat} {a1 : Int32} {μ : mm} {r : mm} (h : f_10_goOn a0 a1 μ = some r) (k0 : kd a0 = 10) : Fc μ r := by
  unfold f_10_goOn at h
  obtain ⟨x2, e1, h⟩ := bi_el h
  obtain ⟨μ3, e4, h⟩ := bi_el h
  have t0 := Fc_pf (ow_kd_10 k0) e4
  obtain ⟨z5, e6, h⟩ := bi_el h
  have t1 := fr_10_goOn_l18 a0 a1 k0 FU 0 0 μ3 _ e6
  obtain ⟨μ7, e8, h⟩ := bi_el h
  have t2 := Fc_pf (ow_kd_10 k0) e8
  obtain rfl := Option.some.inj h
  exact (Fc_tr (t0) (Fc_tr (t1) (t2)))
set_option maxRecDepth 100000 in
theorem fr_9_goOn_l17 (a0 : Nat) (a1 : Int32) (k0 : kd a0 = 9) : ∀ (n : Nat) (v2 : Int32) (μ : mm) (z : mm), f_9_goOn_l17 a0 a1 n v2 μ = some z → Fc μ z
  | 0, _, _, _, h => by
    rw [f_9_goOn_l17] at h
    cases h
  | n + 1, v2, μ, z, h => by
    rw [f_9_goOn_l17] at h
    by_cases hc : (μ a0 2) ≤ v2
    · rw [if_pos hc] at h
      obtain rfl := Option.some.inj h
      exact Fc_rf
    · rw [if_neg hc] at h
      obtain ⟨r1, e2, h⟩ := bi_el h
      obtain ⟨μ4, e3, h⟩ := bi_el h
      have t0 := fr_4_fill e3 (tl_24 e2 (ty_9_8 k0))
      exact (Fc_tr (t0) (fr_9_goOn_l17 a0 a1 k0 n (v2 + 1) μ4 _ h))
set_option maxRecDepth 100000 in
theorem fr_9_goOn_l51 (a0 : Nat) (k0 : kd a0 = 9) : ∀ (n : Nat) (v2 : Int32) (μ : mm) (z : mm), f_9_goOn_l51 a0 n v2 μ = some z → Fc μ z
  | 0, _, _, _, h => by
    rw [f_9_goOn_l51] at h
    cases h
  | n + 1, v2, μ, z, h => by
    rw [f_9_goOn_l51] at h
    by_cases hc : (μ a0 4) ≤ v2
    · rw [if_pos hc] at h
      obtain rfl := Option.some.inj h
      exact Fc_rf
    · rw [if_neg hc] at h
      obtain ⟨r1, e2, h⟩ := bi_el h
      obtain ⟨r3, e4, h⟩ := bi_el h
      obtain ⟨x6, e5, h⟩ := bi_el h
      obtain ⟨μ8, e7, h⟩ := bi_el h
      have t0 := fr_9_liveOn e7 k0 (tl_26 e2 (ty_9_10 k0))
      exact (Fc_tr (t0) (fr_9_goOn_l51 a0 k0 n (v2 + 1) μ8 _ h))
set_option maxRecDepth 100000 in
theorem fr_9_goOn  {a0 : Nat} {μ : mm} {r : mm} (h : f_9_goOn a0 μ = some r) (k0 : kd a0 = 9) : Fc μ r := by
  unfold f_9_goOn at h
  obtain ⟨μ1, e2, h⟩ := bi_el h
  have t0 := Fc_pf (ow_kd_9 k0) e2
  obtain ⟨x4, e3, h⟩ := bi_el h
  obtain ⟨z5, e6, h⟩ := bi_el h
  have t1 := fr_9_goOn_l17 a0 x4 k0 FU 0 μ1 _ e6
  obtain ⟨μ8, e7, h⟩ := bi_el h
  have t2 := fr_9_shareIfDue e7 k0
  obtain ⟨z9, e10, h⟩ := bi_el h
  have t3 := fr_9_goOn_l51 a0 k0 FU 0 μ8 _ e10
  obtain ⟨μ12, e11, h⟩ := bi_el h
  have t4 := fr_10_goOn e11 (ty_9_12 k0)
  obtain rfl := Option.some.inj h
  exact (Fc_tr (t0) (Fc_tr (t1) (Fc_tr (t2) (Fc_tr (t3) (t4)))))
set_option maxRecDepth 100000 in
theorem fr_11_days_l32 (a0 : Nat) (a1 : Int32) (k0 : kd a0 = 11) : ∀ (n : Nat) (v2 : Int32) (μ : mm) (z : mm), f_11_days_l32 a0 a1 n v2 μ = some z → Fc μ z
  | 0, _, _, _, h => by
    rw [f_11_days_l32] at h
    cases h
  | n + 1, v2, μ, z, h => by
    rw [f_11_days_l32] at h
    by_cases hc : a1 ≤ v2
    · rw [if_pos hc] at h
      obtain rfl := Option.some.inj h
      exact Fc_rf
    · rw [if_neg hc] at h
      obtain ⟨μ2, e1, h⟩ := bi_el h
      have t0 := fr_9_goOn e1 (ty_11_0 k0)
      exact (Fc_tr (t0) (fr_11_days_l32 a0 a1 k0 n (v2 + 1) μ2 _ h))
set_option maxRecDepth 100000 in
theorem fr_11_days  {a0 : Nat} {a1 : Int32} {μ : mm} {r : Int32 × mm} (h : f_11_days a0 a1 μ = some r) (k0 : kd a0 = 11) : Fc μ r.2 := by
  unfold f_11_days at h
  obtain ⟨x2, e1, h⟩ := bi_el h
  by_cases hc : x2 = 0
  · rw [if_pos hc] at h
    obtain rfl := Option.some.inj h
    exact Fc_rf
  · rw [if_neg hc] at h
    by_cases hc : ((μ (rf a0 0) 0) + a1) ≤ 999
    · rw [if_pos hc] at h
      obtain ⟨z3, e4, h⟩ := bi_el h
      have t0 := fr_11_days_l32 a0 a1 k0 FU 0 μ _ e4
      obtain rfl := Option.some.inj h
      exact (t0)
    · rw [if_neg hc] at h
      obtain rfl := Option.some.inj h
      exact Fc_rf
set_option maxRecDepth 100000 in
theorem fr_11_village  {a0 : Nat} {μ : mm} {r : Int32 × mm} (h : f_11_village a0 μ = some r) (k0 : kd a0 = 11) : Fc μ r.2 := by
  unfold f_11_village at h
  by_cases hc : (μ (rf a0 0) 1) < 6
  · rw [if_pos hc] at h
    obtain ⟨μ1, e2, h⟩ := bi_el h
    have t0 := Fc_pf (ow_kd_9 (ty_11_0 k0)) e2
    obtain rfl := Option.some.inj h
    exact (t0)
  · rw [if_neg hc] at h
    obtain rfl := Option.some.inj h
    exact Fc_rf
set_option maxRecDepth 100000 in
theorem fr_11_road  {a0 : Nat} {a1 : Int32} {a2 : Int32} {a3 : Int32} {μ : mm} {r : Int32 × mm} (h : f_11_road a0 a1 a2 a3 μ = some r) (k0 : kd a0 = 11) : Fc μ r.2 := by
  unfold f_11_road at h
  obtain ⟨x2, e1, h⟩ := bi_el h
  by_cases hc : x2 = 0
  · rw [if_pos hc] at h
    obtain rfl := Option.some.inj h
    exact Fc_rf
  · rw [if_neg hc] at h
    obtain ⟨x4, e3, h⟩ := bi_el h
    by_cases hc : x4 = 0
    · rw [if_pos hc] at h
      obtain rfl := Option.some.inj h
      exact Fc_rf
    · rw [if_neg hc] at h
      by_cases hc : a1 = a2
      · rw [if_pos hc] at h
        obtain rfl := Option.some.inj h
        exact Fc_rf
      · rw [if_neg hc] at h
        obtain ⟨x6, e5, h⟩ := bi_el h
        by_cases hc : x6 = 0
        · rw [if_pos hc] at h
          obtain rfl := Option.some.inj h
          exact Fc_rf
        · rw [if_neg hc] at h
          obtain ⟨r7, e8, h⟩ := bi_el h
          obtain ⟨x9, e10, h⟩ := bi_el h
          obtain ⟨r11, e12, h⟩ := bi_el h
          obtain ⟨μ13, e14, h⟩ := bi_el h
          have t0 := Fc_sto (ow_l e12 (ty_9_7 (ty_11_0 k0))) e14
          obtain ⟨r15, e16, h⟩ := bi_el h
          obtain ⟨μ17, e18, h⟩ := bi_el h
          have t1 := Fc_sto (ow_l e16 (ty_9_7 (ty_11_0 k0))) e18
          obtain rfl := Option.some.inj h
          exact (Fc_tr (t0) (t1))
set_option maxRecDepth 100000 in
theorem fr_4_dig  {a0 : Nat} {a1 : Int32} {a2 : Int32} {a3 : Int32} {a4 : Int32} {μ : mm} {r : mm} (h : f_4_dig a0 a1 a2 a3 a4 μ = some r) (k0 : kd a0 = 4) : Fc μ r := by
  unfold f_4_dig at h
  obtain ⟨μ1, e2, h⟩ := bi_el h
  have t0 := Fc_pf (ow_kd_4 k0) e2
  obtain ⟨μ3, e4, h⟩ := bi_el h
  have t1 := Fc_pf (ow_kd_4 k0) e4
  obtain ⟨μ5, e6, h⟩ := bi_el h
  have t2 := Fc_pf (ow_kd_4 k0) e6
  obtain ⟨μ7, e8, h⟩ := bi_el h
  have t3 := Fc_pf (ow_kd_4 k0) e8
  obtain ⟨μ9, e10, h⟩ := bi_el h
  have t4 := Fc_pf (ow_kd_4 k0) e10
  obtain ⟨μ11, e12, h⟩ := bi_el h
  have t5 := Fc_pf (ow_kd_4 k0) e12
  obtain ⟨μ13, e14, h⟩ := bi_el h
  have t6 := Fc_pf (ow_kd_4 k0) e14
  obtain rfl := Option.some.inj h
  exact (Fc_tr (t0) (Fc_tr (t1) (Fc_tr (t2) (Fc_tr (t3) (Fc_tr (t4) (Fc_tr (t5) (t6)))))))
set_option maxRecDepth 100000 in
theorem fr_11_pit  {a0 : Nat} {a1 : Int32} {a2 : Int32} {a3 : Int32} {a4 : Int32} {μ : mm} {r : Int32 × mm} (h : f_11_pit a0 a1 a2 a3 a4 μ = some r) (k0 : kd a0 = 11) : Fc μ r.2 := by
  unfold f_11_pit at h
  obtain ⟨x2, e1, h⟩ := bi_el h
  by_cases hc : x2 = 0
  · rw [if_pos hc] at h
    obtain rfl := Option.some.inj h
    exact Fc_rf
  · rw [if_neg hc] at h
    obtain ⟨x4, e3, h⟩ := bi_el h
    by_cases hc : x4 = 0
    · rw [if_pos hc] at h
      obtain rfl := Option.some.inj h
      exact Fc_rf
    · rw [if_neg hc] at h
      obtain ⟨x6, e5, h⟩ := bi_el h
      by_cases hc : x6 = 0
      · rw [if_pos hc] at h
        obtain rfl := Option.some.inj h
        exact Fc_rf
      · rw [if_neg hc] at h
        obtain ⟨x8, e7, h⟩ := bi_el h
        by_cases hc : x8 = 0
        · rw [if_pos hc] at h
          obtain rfl := Option.some.inj h
          exact Fc_rf
        · rw [if_neg hc] at h
          by_cases hc : (μ (rf a0 0) 2) < 4
          · rw [if_pos hc] at h
            obtain ⟨r9, e10, h⟩ := bi_el h
            obtain ⟨μ12, e11, h⟩ := bi_el h
            have t0 := fr_4_dig e11 (tl_24 e10 (ty_9_8 (ty_11_0 k0)))
            obtain ⟨μ13, e14, h⟩ := bi_el h
            have t1 := Fc_pf (ow_kd_9 (ty_11_0 k0)) e14
            obtain rfl := Option.some.inj h
            exact (Fc_tr (t0) (t1))
          · rw [if_neg hc] at h
            obtain rfl := Option.some.inj h
            exact Fc_rf
set_option maxRecDepth 100000 in
theorem fr_6_open  {a0 : Nat} {a1 : Int32} {a2 : Int32} {μ : mm} {r : mm} (h : f_6_open a0 a1 a2 μ = some r) (k0 : kd a0 = 6) : Fc μ r := by
  unfold f_6_open at h
  obtain ⟨μ1, e2, h⟩ := bi_el h
  have t0 := Fc_pf (ow_kd_6 k0) e2
  obtain ⟨μ3, e4, h⟩ := bi_el h
  have t1 := Fc_pf (ow_kd_6 k0) e4
  obtain ⟨μ5, e6, h⟩ := bi_el h
  have t2 := Fc_pf (ow_kd_6 k0) e6
  obtain rfl := Option.some.inj h
  exact (Fc_tr (t0) (Fc_tr (t1) (t2)))
set_option maxRecDepth 100000 in
theorem fr_11_shop  {a0 : Nat} {a1 : Int32} {a2 : Int32} {μ : mm} {r : Int32 × mm} (h : f_11_shop a0 a1 a2 μ = some r) (k0 : kd a0 = 11) : Fc μ r.2 := by
  unfold f_11_shop at h
  obtain ⟨x2, e1, h⟩ := bi_el h
  by_cases hc : x2 = 0
  · rw [if_pos hc] at h
    obtain rfl := Option.some.inj h
    exact Fc_rf
  · rw [if_neg hc] at h
    obtain ⟨x4, e3, h⟩ := bi_el h
    by_cases hc : x4 = 0
    · rw [if_pos hc] at h
      obtain rfl := Option.some.inj h
      exact Fc_rf
    · rw [if_neg hc] at h
      by_cases hc : (μ (rf a0 0) 3) < 4
      · rw [if_pos hc] at h
        obtain ⟨r5, e6, h⟩ := bi_el h
        obtain ⟨μ8, e7, h⟩ := bi_el h
        have t0 := fr_6_open e7 (tl_25 e6 (ty_9_9 (ty_11_0 k0)))
        obtain ⟨μ9, e10, h⟩ := bi_el h
        have t1 := Fc_pf (ow_kd_9 (ty_11_0 k0)) e10
        obtain rfl := Option.some.inj h
        exact (Fc_tr (t0) (t1))
      · rw [if_neg hc] at h
        obtain rfl := Option.some.inj h
        exact Fc_rf
set_option maxRecDepth 100000 in
theorem fr_1_settle  {a0 : Nat} {a1 : Int32} {a2 : Int32} {a3 : Int32} {a4 : Int32} {a5 : Int32} {μ : mm} {r : mm} (h : f_1_settle a0 a1 a2 a3 a4 a5 μ = some r) (k0 : kd a0 = 1) : Fc μ r := by
  unfold f_1_settle at h
  obtain ⟨μ1, e2, h⟩ := bi_el h
  have t0 := Fc_pf (ow_kd_1 k0) e2
  obtain ⟨μ3, e4, h⟩ := bi_el h
  have t1 := Fc_pf (ow_kd_1 k0) e4
  obtain ⟨μ5, e6, h⟩ := bi_el h
  have t2 := Fc_pf (ow_kd_1 k0) e6
  obtain ⟨μ7, e8, h⟩ := bi_el h
  have t3 := Fc_pf (ow_kd_1 k0) e8
  obtain ⟨μ9, e10, h⟩ := bi_el h
  have t4 := Fc_pf (ow_kd_1 k0) e10
  obtain ⟨μ11, e12, h⟩ := bi_el h
  have t5 := Fc_pf (ow_kd_1 k0) e12
  obtain ⟨μ13, e14, h⟩ := bi_el h
  have t6 := Fc_pf (ow_kd_1 k0) e14
  obtain ⟨μ15, e16, h⟩ := bi_el h
  have t7 := Fc_pf (ow_kd_1 k0) e16
  obtain ⟨μ17, e18, h⟩ := bi_el h
  have t8 := Fc_pf (ow_kd_1 k0) e18
  obtain ⟨μ19, e20, h⟩ := bi_el h
  have t9 := Fc_pf (ow_kd_1 k0) e20
  obtain ⟨μ21, e22, h⟩ := bi_el h
  have t10 := Fc_pf (ow_kd_1 k0) e22
  obtain ⟨μ23, e24, h⟩ := bi_el h
  have t11 := Fc_pf (ow_kd_1 k0) e24
  obtain rfl := Option.some.inj h
  exact (Fc_tr (t0) (Fc_tr (t1) (Fc_tr (t2) (Fc_tr (t3) (Fc_tr (t4) (Fc_tr (t5) (Fc_tr (t6) (Fc_tr (t7) (Fc_tr (t8) (Fc_tr (t9) (Fc_tr (t10) (t11))))))))))))
set_option maxRecDepth 100000 in
theorem fr_11_household  {a0 : Nat} {a1 : Int32} {a2 : Int32} {a3 : Int32} {a4 : Int32} {a5 : Int32} {μ : mm} {r : Int32 × mm} (h : f_11_household a0 a1 a2 a3 a4 a5 μ = some r) (k0 : kd a0 = 11) : Fc μ r.2 := by
  unfold f_11_household at h
  obtain ⟨x2, e1, h⟩ := bi_el h
  by_cases hc : x2 = 0
  · rw [if_pos hc] at h
    obtain rfl := Option.some.inj h
    exact Fc_rf
  · rw [if_neg hc] at h
    obtain ⟨x4, e3, h⟩ := bi_el h
    by_cases hc : x4 = 0
    · rw [if_pos hc] at h
      obtain rfl := Option.some.inj h
      exact Fc_rf
    · rw [if_neg hc] at h
      obtain ⟨x6, e5, h⟩ := bi_el h
      by_cases hc : x6 = 0
      · rw [if_pos hc] at h
        obtain rfl := Option.some.inj h
        exact Fc_rf
      · rw [if_neg hc] at h
        obtain ⟨x8, e7, h⟩ := bi_el h
        by_cases hc : x8 = 0
        · rw [if_pos hc] at h
          obtain rfl := Option.some.inj h
          exact Fc_rf
        · rw [if_neg hc] at h
          obtain ⟨x10, e9, h⟩ := bi_el h
          by_cases hc : x10 = 0
          · rw [if_pos hc] at h
            obtain rfl := Option.some.inj h
            exact Fc_rf
          · rw [if_neg hc] at h
            by_cases hc : (μ (rf a0 0) 4) < 16
            · rw [if_pos hc] at h
              obtain ⟨r11, e12, h⟩ := bi_el h
              obtain ⟨μ14, e13, h⟩ := bi_el h
              have t0 := fr_1_settle e13 (tl_26 e12 (ty_9_10 (ty_11_0 k0)))
              obtain ⟨μ15, e16, h⟩ := bi_el h
              have t1 := Fc_pf (ow_kd_9 (ty_11_0 k0)) e16
              obtain rfl := Option.some.inj h
              exact (Fc_tr (t0) (t1))
            · rw [if_neg hc] at h
              obtain rfl := Option.some.inj h
              exact Fc_rf
set_option maxRecDepth 100000 in
theorem fr_11_chooseBurn  {a0 : Nat} {a1 : Int32} {μ : mm} {r : Int32 × mm} (h : f_11_chooseBurn a0 a1 μ = some r) (k0 : kd a0 = 11) : Fc μ r.2 := by
  unfold f_11_chooseBurn at h
  obtain ⟨x2, e1, h⟩ := bi_el h
  by_cases hc : x2 = 0
  · rw [if_pos hc] at h
    obtain rfl := Option.some.inj h
    exact Fc_rf
  · rw [if_neg hc] at h
    obtain ⟨μ3, e4, h⟩ := bi_el h
    have t0 := Fc_pf (ow_kd_10 (ty_9_12 (ty_11_0 k0))) e4
    obtain rfl := Option.some.inj h
    exact (t0)
set_option maxRecDepth 100000 in
theorem fr_11_chooseCold  {a0 : Nat} {a1 : Int32} {μ : mm} {r : Int32 × mm} (h : f_11_chooseCold a0 a1 μ = some r) (k0 : kd a0 = 11) : Fc μ r.2 := by
  unfold f_11_chooseCold at h
  obtain ⟨x2, e1, h⟩ := bi_el h
  by_cases hc : x2 = 0
  · rw [if_pos hc] at h
    obtain rfl := Option.some.inj h
    exact Fc_rf
  · rw [if_neg hc] at h
    obtain ⟨x4, e3, h⟩ := bi_el h
    obtain ⟨z5, hz5, h⟩ := bi_el h
    obtain ⟨_, q8, h⟩ := bi_el h
    obtain ⟨μ6, e7, h⟩ := bi_el h
    have t0 := Fc_pf (ow_kd_9 (ty_11_0 k0)) e7
    obtain rfl := Option.some.inj h
    exact (t0)
set_option maxRecDepth 100000 in
theorem fr_11_chooseMiles  {a0 : Nat} {a1 : Int32} {μ : mm} {r : Int32 × mm} (h : f_11_chooseMiles a0 a1 μ = some r) (k0 : kd a0 = 11) : Fc μ r.2 := by
  unfold f_11_chooseMiles at h
  obtain ⟨x2, e1, h⟩ := bi_el h
  by_cases hc : x2 = 0
  · rw [if_pos hc] at h
    obtain rfl := Option.some.inj h
    exact Fc_rf
  · rw [if_neg hc] at h
    obtain ⟨μ3, e4, h⟩ := bi_el h
    have t0 := Fc_pf (ow_kd_3 (ty_9_14 (ty_11_0 k0))) e4
    obtain rfl := Option.some.inj h
    exact (t0)
set_option maxRecDepth 100000 in
theorem fr_11_chooseWant  {a0 : Nat} {a1 : Int32} {a2 : Int32} {μ : mm} {r : Int32 × mm} (h : f_11_chooseWant a0 a1 a2 μ = some r) (k0 : kd a0 = 11) : Fc μ r.2 := by
  unfold f_11_chooseWant at h
  obtain ⟨x2, e1, h⟩ := bi_el h
  by_cases hc : x2 = 0
  · rw [if_pos hc] at h
    obtain rfl := Option.some.inj h
    exact Fc_rf
  · rw [if_neg hc] at h
    obtain ⟨x4, e3, h⟩ := bi_el h
    by_cases hc : x4 = 0
    · rw [if_pos hc] at h
      obtain rfl := Option.some.inj h
      exact Fc_rf
    · rw [if_neg hc] at h
      obtain ⟨x6, e5, h⟩ := bi_el h
      by_cases hc : x6 = 0
      · rw [if_pos hc] at h
        obtain rfl := Option.some.inj h
        exact Fc_rf
      · rw [if_neg hc] at h
        obtain ⟨r7, e8, h⟩ := bi_el h
        obtain ⟨μ9, e10, h⟩ := bi_el h
        have t0 := Fc_pf (ow_kd_4 (tl_24 e8 (ty_9_8 (ty_11_0 k0)))) e10
        obtain rfl := Option.some.inj h
        exact (t0)
set_option maxRecDepth 100000 in
theorem fr_11_set  {a0 : Nat} {a1 : Int32} {a2 : Int32} {μ : mm} {r : Int32 × mm} (h : f_11_set a0 a1 a2 μ = some r) (k0 : kd a0 = 11) : Fc μ r.2 := by
  unfold f_11_set at h
  by_cases hs0 : a1 = 0
  · rw [if_pos hs0] at h
    obtain ⟨z2, e1, h⟩ := bi_el h
    have t0 := fr_11_chooseCold e1 k0
    obtain rfl := Option.some.inj h
    exact (t0)
  rw [if_neg hs0] at h
  by_cases hs1 : a1 = 1
  · rw [if_pos hs1] at h
    obtain ⟨z4, e3, h⟩ := bi_el h
    have t0 := fr_11_chooseBurn e3 k0
    obtain rfl := Option.some.inj h
    exact (t0)
  rw [if_neg hs1] at h
  by_cases hs2 : a1 = 2
  · rw [if_pos hs2] at h
    obtain ⟨z6, e5, h⟩ := bi_el h
    have t0 := fr_11_chooseMiles e5 k0
    obtain rfl := Option.some.inj h
    exact (t0)
  rw [if_neg hs2] at h
  obtain ⟨z8, e7, h⟩ := bi_el h
  have t0 := fr_11_chooseWant e7 k0
  obtain rfl := Option.some.inj h
  exact (t0)
set_option maxRecDepth 100000 in
theorem fr_10_bring  {a0 : Nat} {a1 : Int32} {μ : mm} {r : mm} (h : f_10_bring a0 a1 μ = some r) (k0 : kd a0 = 10) : Fc μ r := by
  unfold f_10_bring at h
  obtain ⟨μ1, e2, h⟩ := bi_el h
  have t0 := Fc_pf (ow_kd_10 k0) e2
  obtain rfl := Option.some.inj h
  exact (t0)
set_option maxRecDepth 100000 in
theorem fr_11_gift  {a0 : Nat} {a1 : Int32} {a2 : Int32} {μ : mm} {r : Int32 × mm} (h : f_11_gift a0 a1 a2 μ = some r) (k0 : kd a0 = 11) : Fc μ r.2 := by
  unfold f_11_gift at h
  obtain ⟨x2, e1, h⟩ := bi_el h
  by_cases hc : x2 = 0
  · rw [if_pos hc] at h
    obtain rfl := Option.some.inj h
    exact Fc_rf
  · rw [if_neg hc] at h
    by_cases hc : a1 = 0
    · rw [if_pos hc] at h
      obtain ⟨μ4, e3, h⟩ := bi_el h
      have t0 := fr_10_bring e3 (ty_9_12 (ty_11_0 k0))
      obtain rfl := Option.some.inj h
      exact (t0)
    · rw [if_neg hc] at h
      obtain ⟨μ5, e6, h⟩ := bi_el h
      have t0 := Fc_pf (ow_kd_9 (ty_11_0 k0)) e6
      obtain rfl := Option.some.inj h
      exact (t0)
set_option maxRecDepth 100000 in
theorem fr_10_expect  {a0 : Nat} {a1 : Int32} {a2 : Int32} {μ : mm} {r : mm} (h : f_10_expect a0 a1 a2 μ = some r) (k0 : kd a0 = 10) : Fc μ r := by
  unfold f_10_expect at h
  obtain ⟨μ1, e2, h⟩ := bi_el h
  have t0 := Fc_sto (ow_10_3 k0) e2
  obtain ⟨μ3, e4, h⟩ := bi_el h
  have t1 := Fc_sto (ow_10_4 k0) e4
  obtain ⟨μ5, e6, h⟩ := bi_el h
  have t2 := Fc_pf (ow_kd_10 k0) e6
  obtain rfl := Option.some.inj h
  exact (Fc_tr (t0) (Fc_tr (t1) (t2)))
set_option maxRecDepth 100000 in
theorem fr_11_ship  {a0 : Nat} {a1 : Int32} {a2 : Int32} {μ : mm} {r : Int32 × mm} (h : f_11_ship a0 a1 a2 μ = some r) (k0 : kd a0 = 11) : Fc μ r.2 := by
  unfold f_11_ship at h
  obtain ⟨x2, e1, h⟩ := bi_el h
  by_cases hc : x2 = 0
  · rw [if_pos hc] at h
    obtain rfl := Option.some.inj h
    exact Fc_rf
  · rw [if_neg hc] at h
    by_cases hc : a1 ≤ (μ (rf a0 0) 0)
    · rw [if_pos hc] at h
      obtain rfl := Option.some.inj h
      exact Fc_rf
    · rw [if_neg hc] at h
      by_cases hc : a1 ≤ 999
      · rw [if_pos hc] at h
        by_cases hc : (μ (rf (rf a0 0) 12) 2) < 6
        · rw [if_pos hc] at h
          obtain ⟨μ4, e3, h⟩ := bi_el h
          have t0 := fr_10_expect e3 (ty_9_12 (ty_11_0 k0))
          obtain rfl := Option.some.inj h
          exact (t0)
        · rw [if_neg hc] at h
          obtain rfl := Option.some.inj h
          exact Fc_rf
      · rw [if_neg hc] at h
        obtain rfl := Option.some.inj h
        exact Fc_rf
set_option maxRecDepth 100000 in
theorem fr_8_take  {a0 : Nat} {a1 : Int32} {μ : mm} {r : mm} (h : f_8_take a0 a1 μ = some r) (k0 : kd a0 = 8) : Fc μ r := by
  unfold f_8_take at h
  by_cases hc : 300 ≤ (μ a0 1)
  · rw [if_pos hc] at h
    obtain rfl := Option.some.inj h
    exact Fc_rf
  · rw [if_neg hc] at h
    obtain ⟨μ1, e2, h⟩ := bi_el h
    have t0 := Fc_sto (ow_8_0 k0) e2
    obtain ⟨μ3, e4, h⟩ := bi_el h
    have t1 := Fc_pf (ow_kd_8 k0) e4
    obtain rfl := Option.some.inj h
    exact (Fc_tr (t0) (t1))
set_option maxRecDepth 100000 in
theorem fr_11_feed_l33 (a0 : Nat) (a1 : Int64) (a3 : Int32) (k0 : kd a0 = 11) : ∀ (n : Nat) (v4 : Int32) (μ : mm) (z : mm), f_11_feed_l33 a0 a1 a3 n v4 μ = some z → Fc μ z
  | 0, _, _, _, h => by
    rw [f_11_feed_l33] at h
    cases h
  | n + 1, v4, μ, z, h => by
    rw [f_11_feed_l33] at h
    by_cases hc : a3 ≤ v4
    · rw [if_pos hc] at h
      obtain rfl := Option.some.inj h
      exact Fc_rf
    · rw [if_neg hc] at h
      obtain ⟨μ2, e1, h⟩ := bi_el h
      have t0 := fr_8_take e1 (ty_11_4 k0)
      exact (Fc_tr (t0) (fr_11_feed_l33 a0 a1 a3 k0 n (v4 + 1) μ2 _ h))
set_option maxRecDepth 100000 in
theorem fr_11_feed  {a0 : Nat} {a1 : Int64} {a3 : Int32} {μ : mm} {r : Int32 × mm} (h : f_11_feed a0 a1 a3 μ = some r) (k0 : kd a0 = 11) : Fc μ r.2 := by
  unfold f_11_feed at h
  obtain ⟨x2, e1, h⟩ := bi_el h
  by_cases hc : x2 = 0
  · rw [if_pos hc] at h
    obtain rfl := Option.some.inj h
    exact Fc_rf
  · rw [if_neg hc] at h
    by_cases hc : ((μ (rf a0 4) 1) + a3) ≤ 300
    · rw [if_pos hc] at h
      obtain ⟨z3, e4, h⟩ := bi_el h
      have t0 := fr_11_feed_l33 a0 a1 a3 k0 FU 0 μ _ e4
      obtain rfl := Option.some.inj h
      exact (t0)
    · rw [if_neg hc] at h
      obtain rfl := Option.some.inj h
      exact Fc_rf
set_option maxRecDepth 100000 in
theorem fr_5_takeFrom  {a0 : Nat} {a1 : Nat} {μ : mm} {r : mm} (h : f_5_takeFrom a0 a1 μ = some r) (k0 : kd a0 = 5) (k1 : kd a1 = 5) : Fc μ r := by
  unfold f_5_takeFrom at h
  obtain ⟨μ1, e2, h⟩ := bi_el h
  have t0 := Fc_pf (ow_kd_5 k0) e2
  obtain ⟨μ3, e4, h⟩ := bi_el h
  have t1 := Fc_pf (ow_kd_5 k0) e4
  obtain ⟨μ5, e6, h⟩ := bi_el h
  have t2 := Fc_cpo (ow_5_1 k0) e6
  obtain ⟨μ7, e8, h⟩ := bi_el h
  have t3 := Fc_cpo (ow_5_2 k0) e8
  obtain ⟨μ9, e10, h⟩ := bi_el h
  have t4 := Fc_cpo (ow_5_3 k0) e10
  obtain ⟨μ11, e12, h⟩ := bi_el h
  have t5 := Fc_cpo (ow_5_4 k0) e12
  obtain ⟨μ13, e14, h⟩ := bi_el h
  have t6 := Fc_cpo (ow_5_6 k0) e14
  obtain rfl := Option.some.inj h
  exact (Fc_tr (t0) (Fc_tr (t1) (Fc_tr (t2) (Fc_tr (t3) (Fc_tr (t4) (Fc_tr (t5) (t6)))))))
set_option maxRecDepth 100000 in
theorem fr_5_clear  {a0 : Nat} {μ : mm} {r : mm} (h : f_5_clear a0 μ = some r) (k0 : kd a0 = 5) : Fc μ r := by
  unfold f_5_clear at h
  obtain ⟨μ1, e2, h⟩ := bi_el h
  have t0 := Fc_pf (ow_kd_5 k0) e2
  obtain ⟨μ3, e4, h⟩ := bi_el h
  have t1 := Fc_pf (ow_kd_5 k0) e4
  obtain rfl := Option.some.inj h
  exact (Fc_tr (t0) (t1))
set_option maxRecDepth 100000 in
theorem fr_5_addLine  {a0 : Nat} {a1 : Int32} {a2 : Int32} {a3 : Int32} {μ : mm} {r : mm} (h : f_5_addLine a0 a1 a2 a3 μ = some r) (k0 : kd a0 = 5) : Fc μ r := by
  unfold f_5_addLine at h
  by_cases hc : 10 ≤ (μ a0 0)
  · rw [if_pos hc] at h
    obtain rfl := Option.some.inj h
    exact Fc_rf
  · rw [if_neg hc] at h
    obtain ⟨μ1, e2, h⟩ := bi_el h
    have t0 := Fc_sto (ow_5_1 k0) e2
    obtain ⟨μ3, e4, h⟩ := bi_el h
    have t1 := Fc_sto (ow_5_2 k0) e4
    obtain ⟨μ5, e6, h⟩ := bi_el h
    have t2 := Fc_sto (ow_5_3 k0) e6
    obtain ⟨μ7, e8, h⟩ := bi_el h
    have t3 := Fc_sto (ow_5_4 k0) e8
    obtain ⟨μ9, e10, h⟩ := bi_el h
    have t4 := Fc_pf (ow_kd_5 k0) e10
    obtain rfl := Option.some.inj h
    exact (Fc_tr (t0) (Fc_tr (t1) (Fc_tr (t2) (Fc_tr (t3) (t4)))))
set_option maxRecDepth 100000 in
theorem fr_5_addCode  {a0 : Nat} {a1 : Int32} {μ : mm} {r : mm} (h : f_5_addCode a0 a1 μ = some r) (k0 : kd a0 = 5) : Fc μ r := by
  unfold f_5_addCode at h
  by_cases hc : (Int32.ofNat (len (rf a0 6))) ≤ (μ a0 5)
  · rw [if_pos hc] at h
    obtain rfl := Option.some.inj h
    exact Fc_rf
  · rw [if_neg hc] at h
    obtain ⟨μ1, e2, h⟩ := bi_el h
    have t0 := Fc_sto (ow_5_6 k0) e2
    obtain ⟨μ3, e4, h⟩ := bi_el h
    have t1 := Fc_pf (ow_kd_5 k0) e4
    obtain rfl := Option.some.inj h
    exact (Fc_tr (t0) (t1))
set_option maxRecDepth 100000 in
theorem fr_8_step  {a0 : Nat} {μ : mm} {r : mm} (h : f_8_step a0 μ = some r) (k0 : kd a0 = 8) : Fc μ r := by
  unfold f_8_step at h
  by_cases hc : (μ a0 7) = (-1)
  · rw [if_pos hc] at h
    obtain rfl := Option.some.inj h
    exact Fc_rf
  · rw [if_neg hc] at h
    obtain ⟨μ1, e2, h⟩ := bi_el h
    have t0 := Fc_pf (ow_kd_8 k0) e2
    obtain ⟨x3, e4, h⟩ := bi_el h
    obtain ⟨μ5, e6, h⟩ := bi_el h
    have t1 := Fc_pf (ow_kd_8 k0) e6
    obtain rfl := Option.some.inj h
    exact (Fc_tr (t0) (t1))
set_option maxRecDepth 100000 in
theorem fr_8_readTest  {a0 : Nat} {μ : mm} {r : Int32 × mm} (h : f_8_readTest a0 μ = some r) (k0 : kd a0 = 8) : Fc μ r.2 := by
  unfold f_8_readTest at h
  obtain ⟨x2, e1, h⟩ := bi_el h
  by_cases hc : x2 = 0
  · rw [if_pos hc] at h
    obtain rfl := Option.some.inj h
    exact Fc_rf
  · rw [if_neg hc] at h
    obtain ⟨μ4, e3, h⟩ := bi_el h
    have t0 := fr_8_step e3 k0
    obtain ⟨x6, e5, h⟩ := bi_el h
    by_cases hc : x6 = 0
    · rw [if_pos hc] at h
      obtain rfl := Option.some.inj h
      exact (t0)
    · rw [if_neg hc] at h
      obtain ⟨μ8, e7, h⟩ := bi_el h
      have t1 := fr_8_step e7 k0
      obtain ⟨x10, e9, h⟩ := bi_el h
      by_cases hc : x10 = 0
      · rw [if_pos hc] at h
        obtain rfl := Option.some.inj h
        exact (Fc_tr (t0) (t1))
      · rw [if_neg hc] at h
        obtain ⟨x11, e12, h⟩ := bi_el h
        obtain ⟨x14, e13, h⟩ := bi_el h
        obtain ⟨μ16, e15, h⟩ := bi_el h
        have t2 := fr_5_addCode e15 (ty_8_2 k0)
        obtain ⟨μ18, e17, h⟩ := bi_el h
        have t3 := fr_8_step e17 k0
        obtain rfl := Option.some.inj h
        exact (Fc_tr (t0) (Fc_tr (t1) (Fc_tr (t2) (t3))))
set_option maxRecDepth 100000 in
theorem fr_8_readCond_l8 (rc : Nat → Nat → Int32 → mm → Option (Int32 × mm)) (hrc0 : ∀ {b0 : Nat} {x0 : Int32} {μ : mm} {r : Int32 × mm}, rc 0 b0 x0 μ = some r → kd b0 = 8 → Fc μ r.2) (hrc1 : ∀ {b0 : Nat} {x0 : Int32} {μ : mm} {r : Int32 × mm}, rc 1 b0 x0 μ = some r → kd b0 = 8 → Fc μ r.2) (hrc2 : ∀ {b0 : Nat} {x0 : Int32} {μ : mm} {r : Int32 × mm}, rc 2 b0 x0 μ = some r → kd b0 = 8 → Fc μ r.2) (hrc3 : ∀ {b0 : Nat} {x0 : Int32} {μ : mm} {r : Int32 × mm}, rc 3 b0 x0 μ = some r → kd b0 = 8 → Fc μ r.2) (a0 : Nat) (a1 : Int32) (k0 : kd a0 = 8) : ∀ (n : Nat) (v2 : Int32) (v3 : Int32) (μ : mm) (z : Int32 × mm), f_8_readCond_l8 rc a0 a1 n v2 v3 μ = some z → Fc μ z.2
  | 0, _, _, _, _, h => by
    rw [f_8_readCond_l8] at h
    cases h
  | n + 1, v2, v3, μ, z, h => by
    rw [f_8_readCond_l8] at h
    by_cases hc : 300 ≤ v3
    · rw [if_pos hc] at h
      obtain rfl := Option.some.inj h
      exact Fc_rf
    · rw [if_neg hc] at h
      by_cases hc : v2 = 0
      · rw [if_pos hc] at h
        obtain rfl := Option.some.inj h
        exact Fc_rf
      · rw [if_neg hc] at h
        by_cases hc : (μ a0 7) = 9
        · rw [if_pos hc] at h
          obtain ⟨μ2, e1, h⟩ := bi_el h
          have t0 := fr_8_step e1 k0
          obtain ⟨z4, e3, h⟩ := bi_el h
          have t1 := hrc1 e3 k0
          obtain ⟨μ6, e5, h⟩ := bi_el h
          have t2 := fr_5_addCode e5 (ty_8_2 k0)
          exact (Fc_tr (t0) (Fc_tr (t1) (Fc_tr (t2) (fr_8_readCond_l8 rc hrc0 hrc1 hrc2 hrc3 a0 a1 k0 n z4.1 (v3 + 1) μ6 _ h))))
        · rw [if_neg hc] at h
          obtain rfl := Option.some.inj h
          exact Fc_rf
set_option maxRecDepth 100000 in
theorem fr_8_readCond_b (rc : Nat → Nat → Int32 → mm → Option (Int32 × mm)) (hrc0 : ∀ {b0 : Nat} {x0 : Int32} {μ : mm} {r : Int32 × mm}, rc 0 b0 x0 μ = some r → kd b0 = 8 → Fc μ r.2) (hrc1 : ∀ {b0 : Nat} {x0 : Int32} {μ : mm} {r : Int32 × mm}, rc 1 b0 x0 μ = some r → kd b0 = 8 → Fc μ r.2) (hrc2 : ∀ {b0 : Nat} {x0 : Int32} {μ : mm} {r : Int32 × mm}, rc 2 b0 x0 μ = some r → kd b0 = 8 → Fc μ r.2) (hrc3 : ∀ {b0 : Nat} {x0 : Int32} {μ : mm} {r : Int32 × mm}, rc 3 b0 x0 μ = some r → kd b0 = 8 → Fc μ r.2)  {a0 : Nat} {a1 : Int32} {μ : mm} {r : Int32 × mm} (h : f_8_readCond_b rc a0 a1 μ = some r) (k0 : kd a0 = 8) : Fc μ r.2 := by
  unfold f_8_readCond_b at h
  obtain ⟨z2, e1, h⟩ := bi_el h
  have t0 := hrc1 e1 k0
  obtain ⟨z3, e4, h⟩ := bi_el h
  have t1 := fr_8_readCond_l8 rc hrc0 hrc1 hrc2 hrc3 a0 a1 k0 FU z2.1 0 z2.2 _ e4
  obtain ⟨_, q5, h⟩ := bi_el h
  obtain rfl := Option.some.inj h
  exact (Fc_tr (t0) (t1))
set_option maxRecDepth 100000 in
theorem fr_8_readAll_l8 (rc : Nat → Nat → Int32 → mm → Option (Int32 × mm)) (hrc0 : ∀ {b0 : Nat} {x0 : Int32} {μ : mm} {r : Int32 × mm}, rc 0 b0 x0 μ = some r → kd b0 = 8 → Fc μ r.2) (hrc1 : ∀ {b0 : Nat} {x0 : Int32} {μ : mm} {r : Int32 × mm}, rc 1 b0 x0 μ = some r → kd b0 = 8 → Fc μ r.2) (hrc2 : ∀ {b0 : Nat} {x0 : Int32} {μ : mm} {r : Int32 × mm}, rc 2 b0 x0 μ = some r → kd b0 = 8 → Fc μ r.2) (hrc3 : ∀ {b0 : Nat} {x0 : Int32} {μ : mm} {r : Int32 × mm}, rc 3 b0 x0 μ = some r → kd b0 = 8 → Fc μ r.2) (a0 : Nat) (a1 : Int32) (k0 : kd a0 = 8) : ∀ (n : Nat) (v2 : Int32) (v3 : Int32) (μ : mm) (z : Int32 × mm), f_8_readAll_l8 rc a0 a1 n v2 v3 μ = some z → Fc μ z.2
  | 0, _, _, _, _, h => by
    rw [f_8_readAll_l8] at h
    cases h
  | n + 1, v2, v3, μ, z, h => by
    rw [f_8_readAll_l8] at h
    by_cases hc : 300 ≤ v3
    · rw [if_pos hc] at h
      obtain rfl := Option.some.inj h
      exact Fc_rf
    · rw [if_neg hc] at h
      by_cases hc : v2 = 0
      · rw [if_pos hc] at h
        obtain rfl := Option.some.inj h
        exact Fc_rf
      · rw [if_neg hc] at h
        by_cases hc : (μ a0 7) = 8
        · rw [if_pos hc] at h
          obtain ⟨μ2, e1, h⟩ := bi_el h
          have t0 := fr_8_step e1 k0
          obtain ⟨z4, e3, h⟩ := bi_el h
          have t1 := hrc2 e3 k0
          obtain ⟨μ6, e5, h⟩ := bi_el h
          have t2 := fr_5_addCode e5 (ty_8_2 k0)
          exact (Fc_tr (t0) (Fc_tr (t1) (Fc_tr (t2) (fr_8_readAll_l8 rc hrc0 hrc1 hrc2 hrc3 a0 a1 k0 n z4.1 (v3 + 1) μ6 _ h))))
        · rw [if_neg hc] at h
          obtain rfl := Option.some.inj h
          exact Fc_rf
set_option maxRecDepth 100000 in
theorem fr_8_readAll_b (rc : Nat → Nat → Int32 → mm → Option (Int32 × mm)) (hrc0 : ∀ {b0 : Nat} {x0 : Int32} {μ : mm} {r : Int32 × mm}, rc 0 b0 x0 μ = some r → kd b0 = 8 → Fc μ r.2) (hrc1 : ∀ {b0 : Nat} {x0 : Int32} {μ : mm} {r : Int32 × mm}, rc 1 b0 x0 μ = some r → kd b0 = 8 → Fc μ r.2) (hrc2 : ∀ {b0 : Nat} {x0 : Int32} {μ : mm} {r : Int32 × mm}, rc 2 b0 x0 μ = some r → kd b0 = 8 → Fc μ r.2) (hrc3 : ∀ {b0 : Nat} {x0 : Int32} {μ : mm} {r : Int32 × mm}, rc 3 b0 x0 μ = some r → kd b0 = 8 → Fc μ r.2)  {a0 : Nat} {a1 : Int32} {μ : mm} {r : Int32 × mm} (h : f_8_readAll_b rc a0 a1 μ = some r) (k0 : kd a0 = 8) : Fc μ r.2 := by
  unfold f_8_readAll_b at h
  obtain ⟨z2, e1, h⟩ := bi_el h
  have t0 := hrc2 e1 k0
  obtain ⟨z3, e4, h⟩ := bi_el h
  have t1 := fr_8_readAll_l8 rc hrc0 hrc1 hrc2 hrc3 a0 a1 k0 FU z2.1 0 z2.2 _ e4
  obtain ⟨_, q5, h⟩ := bi_el h
  obtain rfl := Option.some.inj h
  exact (Fc_tr (t0) (t1))
set_option maxRecDepth 100000 in
theorem fr_8_readOne_l4 (rc : Nat → Nat → Int32 → mm → Option (Int32 × mm)) (hrc0 : ∀ {b0 : Nat} {x0 : Int32} {μ : mm} {r : Int32 × mm}, rc 0 b0 x0 μ = some r → kd b0 = 8 → Fc μ r.2) (hrc1 : ∀ {b0 : Nat} {x0 : Int32} {μ : mm} {r : Int32 × mm}, rc 1 b0 x0 μ = some r → kd b0 = 8 → Fc μ r.2) (hrc2 : ∀ {b0 : Nat} {x0 : Int32} {μ : mm} {r : Int32 × mm}, rc 2 b0 x0 μ = some r → kd b0 = 8 → Fc μ r.2) (hrc3 : ∀ {b0 : Nat} {x0 : Int32} {μ : mm} {r : Int32 × mm}, rc 3 b0 x0 μ = some r → kd b0 = 8 → Fc μ r.2) (a0 : Nat) (a1 : Int32) (k0 : kd a0 = 8) : ∀ (n : Nat) (v2 : Int32) (v3 : Int32) (μ : mm) (z : Int32 × mm), f_8_readOne_l4 rc a0 a1 n v2 v3 μ = some z → Fc μ z.2
  | 0, _, _, _, _, h => by
    rw [f_8_readOne_l4] at h
    cases h
  | n + 1, v2, v3, μ, z, h => by
    rw [f_8_readOne_l4] at h
    by_cases hc : 300 ≤ v3
    · rw [if_pos hc] at h
      obtain rfl := Option.some.inj h
      exact Fc_rf
    · rw [if_neg hc] at h
      by_cases hc : (μ a0 7) = 10
      · rw [if_pos hc] at h
        obtain ⟨μ2, e1, h⟩ := bi_el h
        have t0 := fr_8_step e1 k0
        by_cases hc : v2 = 0
        · rw [if_pos hc] at h
          exact (Fc_tr (t0) (fr_8_readOne_l4 rc hrc0 hrc1 hrc2 hrc3 a0 a1 k0 n 1 (v3 + 1) μ2 _ h))
        · rw [if_neg hc] at h
          exact (Fc_tr (t0) (fr_8_readOne_l4 rc hrc0 hrc1 hrc2 hrc3 a0 a1 k0 n 0 (v3 + 1) μ2 _ h))
      · rw [if_neg hc] at h
        obtain rfl := Option.some.inj h
        exact Fc_rf
set_option maxRecDepth 100000 in
theorem fr_8_readOne_b (rc : Nat → Nat → Int32 → mm → Option (Int32 × mm)) (hrc0 : ∀ {b0 : Nat} {x0 : Int32} {μ : mm} {r : Int32 × mm}, rc 0 b0 x0 μ = some r → kd b0 = 8 → Fc μ r.2) (hrc1 : ∀ {b0 : Nat} {x0 : Int32} {μ : mm} {r : Int32 × mm}, rc 1 b0 x0 μ = some r → kd b0 = 8 → Fc μ r.2) (hrc2 : ∀ {b0 : Nat} {x0 : Int32} {μ : mm} {r : Int32 × mm}, rc 2 b0 x0 μ = some r → kd b0 = 8 → Fc μ r.2) (hrc3 : ∀ {b0 : Nat} {x0 : Int32} {μ : mm} {r : Int32 × mm}, rc 3 b0 x0 μ = some r → kd b0 = 8 → Fc μ r.2)  {a0 : Nat} {a1 : Int32} {μ : mm} {r : Int32 × mm} (h : f_8_readOne_b rc a0 a1 μ = some r) (k0 : kd a0 = 8) : Fc μ r.2 := by
  unfold f_8_readOne_b at h
  obtain ⟨z1, e2, h⟩ := bi_el h
  have t0 := fr_8_readOne_l4 rc hrc0 hrc1 hrc2 hrc3 a0 a1 k0 FU 0 0 μ _ e2
  obtain ⟨z7, hz7, h⟩ := bi_el h
  have tzz7 : Fc z1.2 z7.2 := by
    clear h
    have h := hz7
    clear hz7
    by_cases hc : (z1.2 a0 7) = 40
    · rw [if_pos hc] at h
      obtain ⟨z6, e5, h⟩ := bi_el h
      have t0 := hrc3 e5 k0
      obtain rfl := Option.some.inj h
      exact (t0)
    · rw [if_neg hc] at h
      obtain ⟨z4, e3, h⟩ := bi_el h
      have t0 := fr_8_readTest e3 k0
      obtain rfl := Option.some.inj h
      exact (t0)
  by_cases hc : z7.1 = 0
  · rw [if_pos hc] at h
    obtain ⟨_, q8, h⟩ := bi_el h
    obtain rfl := Option.some.inj h
    exact (Fc_tr (t0) (tzz7))
  · rw [if_neg hc] at h
    by_cases hc : z1.1 = 0
    · rw [if_pos hc] at h
      obtain ⟨_, q9, h⟩ := bi_el h
      obtain rfl := Option.some.inj h
      exact (Fc_tr (t0) (tzz7))
    · rw [if_neg hc] at h
      obtain ⟨μ11, e10, h⟩ := bi_el h
      have t2 := fr_5_addCode e10 (ty_8_2 k0)
      obtain ⟨_, q12, h⟩ := bi_el h
      obtain rfl := Option.some.inj h
      exact (Fc_tr (t0) (Fc_tr (tzz7) (t2)))
set_option maxRecDepth 100000 in
theorem fr_8_readBrackets_b (rc : Nat → Nat → Int32 → mm → Option (Int32 × mm)) (hrc0 : ∀ {b0 : Nat} {x0 : Int32} {μ : mm} {r : Int32 × mm}, rc 0 b0 x0 μ = some r → kd b0 = 8 → Fc μ r.2) (hrc1 : ∀ {b0 : Nat} {x0 : Int32} {μ : mm} {r : Int32 × mm}, rc 1 b0 x0 μ = some r → kd b0 = 8 → Fc μ r.2) (hrc2 : ∀ {b0 : Nat} {x0 : Int32} {μ : mm} {r : Int32 × mm}, rc 2 b0 x0 μ = some r → kd b0 = 8 → Fc μ r.2) (hrc3 : ∀ {b0 : Nat} {x0 : Int32} {μ : mm} {r : Int32 × mm}, rc 3 b0 x0 μ = some r → kd b0 = 8 → Fc μ r.2)  {a0 : Nat} {a1 : Int32} {μ : mm} {r : Int32 × mm} (h : f_8_readBrackets_b rc a0 a1 μ = some r) (k0 : kd a0 = 8) : Fc μ r.2 := by
  unfold f_8_readBrackets_b at h
  by_cases hc : a1 < 4
  · rw [if_pos hc] at h
    obtain ⟨μ2, e1, h⟩ := bi_el h
    have t0 := fr_8_step e1 k0
    obtain ⟨z4, e3, h⟩ := bi_el h
    have t1 := hrc0 e3 k0
    by_cases hc : z4.1 = 0
    · rw [if_pos hc] at h
      obtain rfl := Option.some.inj h
      exact (Fc_tr (t0) (t1))
    · rw [if_neg hc] at h
      by_cases hc : (z4.2 a0 7) = 41
      · rw [if_pos hc] at h
        obtain ⟨μ6, e5, h⟩ := bi_el h
        have t2 := fr_8_step e5 k0
        obtain rfl := Option.some.inj h
        exact (Fc_tr (t0) (Fc_tr (t1) (t2)))
      · rw [if_neg hc] at h
        obtain rfl := Option.some.inj h
        exact (Fc_tr (t0) (t1))
  · rw [if_neg hc] at h
    obtain rfl := Option.some.inj h
    exact Fc_rf
set_option maxRecDepth 100000 in
theorem fr_8_readCond_G : ∀ n : Nat, (∀ {b0 : Nat} {x0 : Int32} {μ : mm} {r : Int32 × mm}, f_8_readCond_G n 0 b0 x0 μ = some r → kd b0 = 8 → Fc μ r.2) ∧ (∀ {b0 : Nat} {x0 : Int32} {μ : mm} {r : Int32 × mm}, f_8_readCond_G n 1 b0 x0 μ = some r → kd b0 = 8 → Fc μ r.2) ∧ (∀ {b0 : Nat} {x0 : Int32} {μ : mm} {r : Int32 × mm}, f_8_readCond_G n 2 b0 x0 μ = some r → kd b0 = 8 → Fc μ r.2) ∧ (∀ {b0 : Nat} {x0 : Int32} {μ : mm} {r : Int32 × mm}, f_8_readCond_G n 3 b0 x0 μ = some r → kd b0 = 8 → Fc μ r.2) ∧ True
  | 0 => by
    refine ⟨?_, ?_, ?_, ?_, trivial⟩
    · intro b0 x0 μ r h kb
      rw [f_8_readCond_G] at h
      cases h
    · intro b0 x0 μ r h kb
      rw [f_8_readCond_G] at h
      cases h
    · intro b0 x0 μ r h kb
      rw [f_8_readCond_G] at h
      cases h
    · intro b0 x0 μ r h kb
      rw [f_8_readCond_G] at h
      cases h
  | n + 1 => by
    obtain ⟨i0, i1, i2, i3, -⟩ := fr_8_readCond_G n
    refine ⟨?_, ?_, ?_, ?_, trivial⟩
    · intro b0 x0 μ r h kb
      simp only [f_8_readCond_G, if_pos] at h
      exact fr_8_readCond_b (rc := f_8_readCond_G n) (fun h k => i0 h k) (fun h k => i1 h k) (fun h k => i2 h k) (fun h k => i3 h k) h kb
    · intro b0 x0 μ r h kb
      simp only [f_8_readCond_G, if_pos] at h
      exact fr_8_readAll_b (rc := f_8_readCond_G n) (fun h k => i0 h k) (fun h k => i1 h k) (fun h k => i2 h k) (fun h k => i3 h k) h kb
    · intro b0 x0 μ r h kb
      simp only [f_8_readCond_G, if_pos] at h
      exact fr_8_readOne_b (rc := f_8_readCond_G n) (fun h k => i0 h k) (fun h k => i1 h k) (fun h k => i2 h k) (fun h k => i3 h k) h kb
    · intro b0 x0 μ r h kb
      simp only [f_8_readCond_G, if_pos] at h
      exact fr_8_readBrackets_b (rc := f_8_readCond_G n) (fun h k => i0 h k) (fun h k => i1 h k) (fun h k => i2 h k) (fun h k => i3 h k) h kb
set_option maxRecDepth 100000 in
theorem fr_8_readCond_G_0 (n : Nat) {b0 : Nat} {x0 : Int32} {μ : mm} {r : Int32 × mm} (h : f_8_readCond_G n 0 b0 x0 μ = some r) (kb : kd b0 = 8) : Fc μ r.2 := (fr_8_readCond_G n).1 h kb
set_option maxRecDepth 100000 in
theorem fr_8_readCond_G_1 (n : Nat) {b0 : Nat} {x0 : Int32} {μ : mm} {r : Int32 × mm} (h : f_8_readCond_G n 1 b0 x0 μ = some r) (kb : kd b0 = 8) : Fc μ r.2 := (fr_8_readCond_G n).2.1 h kb
set_option maxRecDepth 100000 in
theorem fr_8_readCond_G_2 (n : Nat) {b0 : Nat} {x0 : Int32} {μ : mm} {r : Int32 × mm} (h : f_8_readCond_G n 2 b0 x0 μ = some r) (kb : kd b0 = 8) : Fc μ r.2 := (fr_8_readCond_G n).2.2.1 h kb
set_option maxRecDepth 100000 in
theorem fr_8_readCond_G_3 (n : Nat) {b0 : Nat} {x0 : Int32} {μ : mm} {r : Int32 × mm} (h : f_8_readCond_G n 3 b0 x0 μ = some r) (kb : kd b0 = 8) : Fc μ r.2 := (fr_8_readCond_G n).2.2.2.1 h kb
set_option maxRecDepth 100000 in
theorem fr_8_readLine_b102  {a0 : Nat} {a1 : Int32} {a2 : Int32} {a3 : Int32} {μ : mm} {r : Int32 × mm} (h : f_8_readLine_b102 a0 a1 a2 a3 μ = some r) (k0 : kd a0 = 8) : Fc μ r.2 := by
  unfold f_8_readLine_b102 at h
  obtain ⟨μ2, e1, h⟩ := bi_el h
  have t0 := fr_5_addLine e1 (ty_8_2 k0)
  by_cases hc : (μ2 a0 7) = 59
  · rw [if_pos hc] at h
    obtain ⟨μ4, e3, h⟩ := bi_el h
    have t1 := fr_8_step e3 k0
    obtain rfl := Option.some.inj h
    exact (Fc_tr (t0) (t1))
  · rw [if_neg hc] at h
    obtain rfl := Option.some.inj h
    exact (t0)
set_option maxRecDepth 100000 in
theorem fr_8_readLine_b64  {a0 : Nat} {a1 : Int32} {a2 : Int32} {μ : mm} {r : Int32 × mm} (h : f_8_readLine_b64 a0 a1 a2 μ = some r) (k0 : kd a0 = 8) : Fc μ r.2 := by
  unfold f_8_readLine_b64 at h
  obtain ⟨x2, e1, h⟩ := bi_el h
  by_cases hc : (μ a0 7) = 7
  · rw [if_pos hc] at h
    obtain ⟨x4, e3, h⟩ := bi_el h
    by_cases hc : x4 = 0
    · rw [if_pos hc] at h
      exact (fr_8_readLine_b102  h k0)
    · rw [if_neg hc] at h
      obtain ⟨μ6, e5, h⟩ := bi_el h
      have t0 := fr_8_step e5 k0
      obtain ⟨z8, e7, h⟩ := bi_el h
      have t1 := fr_8_readCond_G_0 _ e7 k0
      by_cases hc : z8.1 = 0
      · rw [if_pos hc] at h
        obtain rfl := Option.some.inj h
        exact (Fc_tr (t0) (t1))
      · rw [if_neg hc] at h
        exact (Fc_tr (t0) (Fc_tr (t1) (fr_8_readLine_b102  h k0)))
  · rw [if_neg hc] at h
    exact (fr_8_readLine_b102  h k0)
set_option maxRecDepth 100000 in
theorem fr_8_readLine  {a0 : Nat} {μ : mm} {r : Int32 × mm} (h : f_8_readLine a0 μ = some r) (k0 : kd a0 = 8) : Fc μ r.2 := by
  unfold f_8_readLine at h
  obtain ⟨x2, e1, h⟩ := bi_el h
  by_cases hc : x2 = 0
  · rw [if_pos hc] at h
    obtain rfl := Option.some.inj h
    exact Fc_rf
  · rw [if_neg hc] at h
    obtain ⟨μ4, e3, h⟩ := bi_el h
    have t0 := fr_8_step e3 k0
    by_cases hc : (μ a0 7) = 5
    · rw [if_pos hc] at h
      exact (Fc_tr (t0) (fr_8_readLine_b64  h k0))
    · rw [if_neg hc] at h
      obtain ⟨z5, hz5, h⟩ := bi_el h
      obtain ⟨x7, e6, h⟩ := bi_el h
      by_cases hc : x7 = 0
      · rw [if_pos hc] at h
        obtain rfl := Option.some.inj h
        exact (t0)
      · rw [if_neg hc] at h
        obtain ⟨x8, e9, h⟩ := bi_el h
        obtain ⟨μ11, e10, h⟩ := bi_el h
        have t1 := fr_8_step e10 k0
        exact (Fc_tr (t0) (Fc_tr (t1) (fr_8_readLine_b64  h k0)))
set_option maxRecDepth 100000 in
theorem fr_8_splitTape_l12 (a0 : Nat) (k0 : kd a0 = 8) : ∀ (n : Nat) (v1 : Int32) (v2 : Int32) (μ : mm) (z : Int32 × mm), f_8_splitTape_l12 a0 n v1 v2 μ = some z → Fc μ z.2
  | 0, _, _, _, _, h => by
    rw [f_8_splitTape_l12] at h
    cases h
  | n + 1, v1, v2, μ, z, h => by
    rw [f_8_splitTape_l12] at h
    by_cases hc : 300 ≤ v1
    · rw [if_pos hc] at h
      obtain rfl := Option.some.inj h
      exact Fc_rf
    · rw [if_neg hc] at h
      by_cases hc : (μ a0 1) ≤ v2
      · rw [if_pos hc] at h
        obtain rfl := Option.some.inj h
        exact Fc_rf
      · rw [if_neg hc] at h
        obtain ⟨x1, e2, h⟩ := bi_el h
        obtain ⟨μ3, e4, h⟩ := bi_el h
        have t0 := Fc_sto (ow_8_4 k0) e4
        obtain ⟨x6, e5, h⟩ := bi_el h
        obtain ⟨z28, hz28, h⟩ := bi_el h
        have tzz28 : Fc μ3 z28.2 := by
          clear h
          have h := hz28
          clear hz28
          by_cases hc : x6 = 0
          · rw [if_pos hc] at h
            obtain ⟨x8, e7, h⟩ := bi_el h
            by_cases hc : x8 = 0
            · rw [if_pos hc] at h
              obtain ⟨x10, e9, h⟩ := bi_el h
              obtain ⟨z11, hz11, h⟩ := bi_el h
              obtain ⟨μ12, e13, h⟩ := bi_el h
              have t0 := Fc_sto (ow_8_3 k0) e13
              obtain rfl := Option.some.inj h
              exact (t0)
            · rw [if_neg hc] at h
              obtain ⟨x15, e14, h⟩ := bi_el h
              obtain ⟨μ16, e17, h⟩ := bi_el h
              have t0 := Fc_sto (ow_8_3 k0) e17
              obtain ⟨x19, e18, h⟩ := bi_el h
              obtain ⟨μ20, e21, h⟩ := bi_el h
              have t1 := Fc_sto (ow_8_5 k0) e21
              obtain rfl := Option.some.inj h
              exact (Fc_tr (t0) (t1))
          · rw [if_neg hc] at h
            obtain ⟨x23, e22, h⟩ := bi_el h
            obtain ⟨x25, e24, h⟩ := bi_el h
            obtain ⟨μ26, e27, h⟩ := bi_el h
            have t0 := Fc_sto (ow_8_3 k0) e27
            obtain rfl := Option.some.inj h
            exact (t0)
        obtain ⟨x30, e29, h⟩ := bi_el h
        exact (Fc_tr (t0) (Fc_tr (tzz28) (fr_8_splitTape_l12 a0 k0 n (v1 + 1) x30 z28.2 _ h)))
set_option maxRecDepth 100000 in
theorem fr_8_splitTape  {a0 : Nat} {μ : mm} {r : mm} (h : f_8_splitTape a0 μ = some r) (k0 : kd a0 = 8) : Fc μ r := by
  unfold f_8_splitTape at h
  obtain ⟨x2, e1, h⟩ := bi_el h
  obtain ⟨z3, e4, h⟩ := bi_el h
  have t0 := fr_8_splitTape_l12 a0 k0 FU 0 x2 μ _ e4
  obtain ⟨μ5, e6, h⟩ := bi_el h
  have t1 := Fc_sto (ow_8_4 k0) e6
  obtain ⟨μ7, e8, h⟩ := bi_el h
  have t2 := Fc_sto (ow_8_3 k0) e8
  obtain rfl := Option.some.inj h
  exact (Fc_tr (t0) (Fc_tr (t1) (t2)))
set_option maxRecDepth 100000 in
theorem fr_8_useUp_l35 (a0 : Nat) (k0 : kd a0 = 8) : ∀ (n : Nat) (v1 : Int32) (v2 : Int32) (μ : mm) (z : Int32 × mm), f_8_useUp_l35 a0 n v1 v2 μ = some z → Fc μ z.2
  | 0, _, _, _, _, h => by
    rw [f_8_useUp_l35] at h
    cases h
  | n + 1, v1, v2, μ, z, h => by
    rw [f_8_useUp_l35] at h
    by_cases hc : 10 ≤ v2
    · rw [if_pos hc] at h
      obtain rfl := Option.some.inj h
      exact Fc_rf
    · rw [if_neg hc] at h
      by_cases hc : v1 = 0
      · rw [if_pos hc] at h
        obtain rfl := Option.some.inj h
        exact Fc_rf
      · rw [if_neg hc] at h
        by_cases hc : (μ a0 7) = (-1)
        · rw [if_pos hc] at h
          obtain rfl := Option.some.inj h
          exact Fc_rf
        · rw [if_neg hc] at h
          obtain ⟨z2, e1, h⟩ := bi_el h
          have t0 := fr_8_readLine e1 k0
          exact (Fc_tr (t0) (fr_8_useUp_l35 a0 k0 n z2.1 (v2 + 1) z2.2 _ h))
set_option maxRecDepth 100000 in
theorem fr_8_useUp  {a0 : Nat} {μ : mm} {r : Int32 × mm} (h : f_8_useUp a0 μ = some r) (k0 : kd a0 = 8) : Fc μ r.2 := by
  unfold f_8_useUp at h
  obtain ⟨μ2, e1, h⟩ := bi_el h
  have t0 := fr_8_splitTape e1 k0
  obtain ⟨μ3, e4, h⟩ := bi_el h
  have t1 := Fc_pf (ow_kd_8 k0) e4
  obtain ⟨μ6, e5, h⟩ := bi_el h
  have t2 := fr_5_clear e5 (ty_8_2 k0)
  obtain ⟨μ7, e8, h⟩ := bi_el h
  have t3 := Fc_pf (ow_kd_8 k0) e8
  obtain ⟨x9, e10, h⟩ := bi_el h
  obtain ⟨μ11, e12, h⟩ := bi_el h
  have t4 := Fc_pf (ow_kd_8 k0) e12
  obtain ⟨z13, e14, h⟩ := bi_el h
  have t5 := fr_8_useUp_l35 a0 k0 FU 1 0 μ11 _ e14
  by_cases hc : z13.1 = 0
  · rw [if_pos hc] at h
    obtain ⟨x15, e16, h⟩ := bi_el h
    obtain rfl := Option.some.inj h
    exact (Fc_tr (t0) (Fc_tr (t1) (Fc_tr (t2) (Fc_tr (t3) (Fc_tr (t4) (t5))))))
  · rw [if_neg hc] at h
    by_cases hc : (z13.2 a0 7) = (-1)
    · rw [if_pos hc] at h
      obtain rfl := Option.some.inj h
      exact (Fc_tr (t0) (Fc_tr (t1) (Fc_tr (t2) (Fc_tr (t3) (Fc_tr (t4) (t5))))))
    · rw [if_neg hc] at h
      obtain ⟨x17, e18, h⟩ := bi_el h
      obtain rfl := Option.some.inj h
      exact (Fc_tr (t0) (Fc_tr (t1) (Fc_tr (t2) (Fc_tr (t3) (Fc_tr (t4) (t5))))))
set_option maxRecDepth 100000 in
theorem fr_11_read  {a0 : Nat} {a1 : Int32} {μ : mm} {r : Int32 × mm} (h : f_11_read a0 a1 μ = some r) (k0 : kd a0 = 11) : Fc μ r.2 := by
  unfold f_11_read at h
  obtain ⟨z2, e1, h⟩ := bi_el h
  have t0 := fr_8_useUp e1 (ty_11_4 k0)
  obtain ⟨x4, e3, h⟩ := bi_el h
  by_cases hc : x4 = 0
  · rw [if_pos hc] at h
    obtain rfl := Option.some.inj h
    exact (t0)
  · rw [if_neg hc] at h
    by_cases hc : z2.1 = (-1)
    · rw [if_pos hc] at h
      obtain ⟨r5, e6, h⟩ := bi_el h
      obtain ⟨μ8, e7, h⟩ := bi_el h
      have t1 := fr_5_takeFrom e7 (tl_27 e6 (ty_9_11 (ty_11_0 k0))) (ty_8_2 (ty_11_4 k0))
      obtain ⟨r9, e10, h⟩ := bi_el h
      obtain rfl := Option.some.inj h
      exact (Fc_tr (t0) (t1))
    · rw [if_neg hc] at h
      obtain rfl := Option.some.inj h
      exact (t0)
set_option maxRecDepth 100000 in
theorem fr_7_tell  {a0 : Nat} {a1 : Int32} {a2 : Int32} {a3 : Int32} {μ : mm} {r : Int32 × mm} (h : f_7_tell a0 a1 a2 a3 μ = some r) (k0 : kd a0 = 7) : Fc μ r.2 := by
  unfold f_7_tell at h
  obtain ⟨μ1, e2, h⟩ := bi_el h
  have t0 := Fc_sto (ow_7_1 k0) e2
  obtain ⟨μ3, e4, h⟩ := bi_el h
  have t1 := Fc_sto (ow_7_2 k0) e4
  obtain ⟨μ5, e6, h⟩ := bi_el h
  have t2 := Fc_sto (ow_7_3 k0) e6
  obtain ⟨μ7, e8, h⟩ := bi_el h
  have t3 := Fc_pf (ow_kd_7 k0) e8
  obtain rfl := Option.some.inj h
  exact (Fc_tr (t0) (Fc_tr (t1) (Fc_tr (t2) (t3))))
set_option maxRecDepth 100000 in
theorem fr_11_news  {a0 : Nat} {a1 : Int32} {a2 : Int32} {μ : mm} {r : Int32 × mm} (h : f_11_news a0 a1 a2 μ = some r) (k0 : kd a0 = 11) : Fc μ r.2 := by
  unfold f_11_news at h
  obtain ⟨x2, e1, h⟩ := bi_el h
  by_cases hc : x2 = 0
  · rw [if_pos hc] at h
    obtain rfl := Option.some.inj h
    exact Fc_rf
  · rw [if_neg hc] at h
    obtain ⟨x4, e3, h⟩ := bi_el h
    by_cases hc : x4 = 0
    · rw [if_pos hc] at h
      obtain rfl := Option.some.inj h
      exact Fc_rf
    · rw [if_neg hc] at h
      by_cases hc : (μ (rf (rf a0 0) 13) 0) < 12
      · rw [if_pos hc] at h
        obtain ⟨z6, e5, h⟩ := bi_el h
        have t0 := fr_7_tell e5 (ty_9_13 (ty_11_0 k0))
        obtain rfl := Option.some.inj h
        exact (t0)
      · rw [if_neg hc] at h
        obtain rfl := Option.some.inj h
        exact Fc_rf
set_option maxRecDepth 100000 in
theorem fr_11_press  {a0 : Nat} {a1 : Int32} {μ : mm} {r : Int32 × mm} (h : f_11_press a0 a1 μ = some r) (k0 : kd a0 = 11) : Fc μ r.2 := by
  unfold f_11_press at h
  by_cases hc : a1 = 0
  · rw [if_pos hc] at h
    obtain ⟨μ1, e2, h⟩ := bi_el h
    have t0 := Fc_pf (ow_kd_7 (ty_9_13 (ty_11_0 k0))) e2
    obtain rfl := Option.some.inj h
    exact (t0)
  · rw [if_neg hc] at h
    obtain ⟨μ3, e4, h⟩ := bi_el h
    have t0 := Fc_pf (ow_kd_7 (ty_9_13 (ty_11_0 k0))) e4
    obtain rfl := Option.some.inj h
    exact (t0)
set_option maxRecDepth 100000 in
theorem fr_7_writePaper  {a0 : Nat} {a1 : Int32} {a2 : Int32} {μ : mm} {r : Int32 × mm} (h : f_7_writePaper a0 a1 a2 μ = some r) (k0 : kd a0 = 7) : Fc μ r.2 := by
  unfold f_7_writePaper at h
  obtain ⟨μ1, e2, h⟩ := bi_el h
  have t0 := Fc_sto (ow_7_5 k0) e2
  obtain ⟨μ3, e4, h⟩ := bi_el h
  have t1 := Fc_sto (ow_7_6 k0) e4
  obtain ⟨μ5, e6, h⟩ := bi_el h
  have t2 := Fc_sto (ow_7_7 k0) e6
  obtain ⟨μ7, e8, h⟩ := bi_el h
  have t3 := Fc_pf (ow_kd_7 k0) e8
  obtain rfl := Option.some.inj h
  exact (Fc_tr (t0) (Fc_tr (t1) (Fc_tr (t2) (t3))))
set_option maxRecDepth 100000 in
theorem fr_11_paper  {a0 : Nat} {a1 : Int32} {μ : mm} {r : Int32 × mm} (h : f_11_paper a0 a1 μ = some r) (k0 : kd a0 = 11) : Fc μ r.2 := by
  unfold f_11_paper at h
  obtain ⟨x2, e1, h⟩ := bi_el h
  by_cases hc : x2 = 0
  · rw [if_pos hc] at h
    obtain rfl := Option.some.inj h
    exact Fc_rf
  · rw [if_neg hc] at h
    obtain ⟨r3, e4, h⟩ := bi_el h
    by_cases hc : (μ r3 11) = 0
    · rw [if_pos hc] at h
      obtain ⟨r5, e6, h⟩ := bi_el h
      by_cases hc : (μ r5 10) = 0
      · rw [if_pos hc] at h
        by_cases hc : (μ (rf (rf a0 0) 13) 4) < 12
        · rw [if_pos hc] at h
          obtain ⟨z8, e7, h⟩ := bi_el h
          have t0 := fr_7_writePaper e7 (ty_9_13 (ty_11_0 k0))
          obtain rfl := Option.some.inj h
          exact (t0)
        · rw [if_neg hc] at h
          obtain rfl := Option.some.inj h
          exact Fc_rf
      · rw [if_neg hc] at h
        obtain rfl := Option.some.inj h
        exact Fc_rf
    · rw [if_neg hc] at h
      obtain rfl := Option.some.inj h
      exact Fc_rf
set_option maxRecDepth 100000 in
theorem fr_1_leaveHome  {a0 : Nat} {μ : mm} {r : mm} (h : f_1_leaveHome a0 μ = some r) (k0 : kd a0 = 1) : Fc μ r := by
  unfold f_1_leaveHome at h
  obtain ⟨μ1, e2, h⟩ := bi_el h
  have t0 := Fc_pf (ow_kd_1 k0) e2
  obtain ⟨μ3, e4, h⟩ := bi_el h
  have t1 := Fc_pf (ow_kd_1 k0) e4
  obtain rfl := Option.some.inj h
  exact (Fc_tr (t0) (t1))
set_option maxRecDepth 100000 in
theorem fr_7_findPaper  {a0 : Nat} {a1 : Int32} {a2 : Int32} {a3 : Int32} {μ : mm} {r : Int32 × mm} (h : f_7_findPaper a0 a1 a2 a3 μ = some r) (k0 : kd a0 = 7) : Fc μ r.2 := by
  unfold f_7_findPaper at h
  obtain ⟨x1, e2, h⟩ := bi_el h
  obtain ⟨z5, hz5, h⟩ := bi_el h
  have tzz5 : Fc μ z5 := by
    clear h
    have h := hz5
    clear hz5
    by_cases hc : a2 ≤ (x1 + (7 * a3))
    · rw [if_pos hc] at h
      obtain rfl := Option.some.inj h
      exact Fc_rf
    · rw [if_neg hc] at h
      obtain ⟨μ3, e4, h⟩ := bi_el h
      have t0 := Fc_sto (ow_7_7 k0) e4
      obtain rfl := Option.some.inj h
      exact (t0)
  obtain ⟨x6, e7, h⟩ := bi_el h
  by_cases hc : x6 = 0
  · rw [if_pos hc] at h
    by_cases hc : a2 = (x1 + (7 * a3))
    · rw [if_pos hc] at h
      obtain rfl := Option.some.inj h
      exact (tzz5)
    · rw [if_neg hc] at h
      obtain rfl := Option.some.inj h
      exact (tzz5)
  · rw [if_neg hc] at h
    obtain rfl := Option.some.inj h
    exact (tzz5)
set_option maxRecDepth 100000 in
theorem fr_11_evict  {a0 : Nat} {a1 : Int32} {μ : mm} {r : Int32 × mm} (h : f_11_evict a0 a1 μ = some r) (k0 : kd a0 = 11) : Fc μ r.2 := by
  unfold f_11_evict at h
  obtain ⟨x2, e1, h⟩ := bi_el h
  by_cases hc : x2 = 0
  · rw [if_pos hc] at h
    obtain rfl := Option.some.inj h
    exact Fc_rf
  · rw [if_neg hc] at h
    obtain ⟨x3, e4, h⟩ := bi_el h
    obtain ⟨r5, e6, h⟩ := bi_el h
    by_cases hc : (μ r5 11) = 0
    · rw [if_pos hc] at h
      by_cases hc : (μ r5 10) = 0
      · rw [if_pos hc] at h
        obtain ⟨x8, e7, h⟩ := bi_el h
        obtain ⟨z10, e9, h⟩ := bi_el h
        have t0 := fr_7_findPaper e9 (ty_9_13 (ty_11_0 k0))
        by_cases hc : z10.1 = 1
        · rw [if_pos hc] at h
          obtain ⟨μ12, e11, h⟩ := bi_el h
          have t1 := fr_1_leaveHome e11 (tl_26 e6 (ty_9_10 (ty_11_0 k0)))
          obtain rfl := Option.some.inj h
          exact (Fc_tr (t0) (t1))
        · rw [if_neg hc] at h
          obtain rfl := Option.some.inj h
          exact (t0)
      · rw [if_neg hc] at h
        obtain rfl := Option.some.inj h
        exact Fc_rf
    · rw [if_neg hc] at h
      obtain rfl := Option.some.inj h
      exact Fc_rf
set_option maxRecDepth 100000 in
theorem fr_11_draws  {a0 : Nat} {a1 : Int32} {μ : mm} {r : Int32 × mm} (h : f_11_draws a0 a1 μ = some r) (k0 : kd a0 = 11) : Fc μ r.2 := by
  unfold f_11_draws at h
  obtain ⟨x2, e1, h⟩ := bi_el h
  by_cases hc : x2 = 0
  · rw [if_pos hc] at h
    obtain rfl := Option.some.inj h
    exact Fc_rf
  · rw [if_neg hc] at h
    obtain ⟨z4, e3, h⟩ := bi_el h
    have t0 := fr_9_reckonShares e3 (ty_11_0 k0)
    obtain ⟨x5, e6, h⟩ := bi_el h
    obtain rfl := Option.some.inj h
    exact (t0)
set_option maxRecDepth 100000 in
theorem fr_9_holdOut_l49 (a0 : Nat) (a2 : Int32) (k0 : kd a0 = 9) : ∀ (n : Nat) (v3 : Int32) (μ : mm) (z : mm), f_9_holdOut_l49 a0 a2 n v3 μ = some z → Fc μ z
  | 0, _, _, _, h => by
    rw [f_9_holdOut_l49] at h
    cases h
  | n + 1, v3, μ, z, h => by
    rw [f_9_holdOut_l49] at h
    by_cases hc : (μ a0 4) ≤ v3
    · rw [if_pos hc] at h
      obtain rfl := Option.some.inj h
      exact Fc_rf
    · rw [if_neg hc] at h
      obtain ⟨r1, e2, h⟩ := bi_el h
      obtain ⟨μ4, e3, h⟩ := bi_el h
      have t0 := fr_9_liveOn e3 k0 (tl_26 e2 (ty_9_10 k0))
      exact (Fc_tr (t0) (fr_9_holdOut_l49 a0 a2 k0 n (v3 + 1) μ4 _ h))
set_option maxRecDepth 100000 in
theorem fr_9_holdOut_l7 (a0 : Nat) (k0 : kd a0 = 9) : ∀ (n : Nat) (v2 : Int32) (μ : mm) (r : Int32 × mm), f_9_holdOut_l7 a0 n v2 μ = some r → Fc μ r.2
  | 0, _, _, _, h => by
    rw [f_9_holdOut_l7] at h
    cases h
  | n + 1, v2, μ, r, h => by
    rw [f_9_holdOut_l7] at h
    by_cases hc : 120 ≤ v2
    · rw [if_pos hc] at h
      obtain rfl := Option.some.inj h
      exact Fc_rf
    · rw [if_neg hc] at h
      obtain ⟨x2, e1, h⟩ := bi_el h
      by_cases hc : (μ a0 4) ≤ (2 * ((μ a0 4) - x2))
      · rw [if_pos hc] at h
        obtain ⟨μ3, e4, h⟩ := bi_el h
        have t0 := Fc_pf (ow_kd_9 k0) e4
        obtain ⟨μ6, e5, h⟩ := bi_el h
        have t1 := fr_9_shareIfDue e5 k0
        obtain ⟨z7, e8, h⟩ := bi_el h
        have t2 := fr_9_holdOut_l49 a0 v2 k0 FU 0 μ6 _ e8
        exact (Fc_tr (t0) (Fc_tr (t1) (Fc_tr (t2) (fr_9_holdOut_l7 a0 k0 n (v2 + 1) z7 _ h))))
      · rw [if_neg hc] at h
        obtain rfl := Option.some.inj h
        exact Fc_rf
set_option maxRecDepth 100000 in
theorem fr_9_holdOut  {a0 : Nat} {a1 : Int32} {μ : mm} {r : Int32 × mm} (h : f_9_holdOut a0 a1 μ = some r) (k0 : kd a0 = 9) : Fc μ r.2 := by
  unfold f_9_holdOut at h
  obtain ⟨μ1, e2, h⟩ := bi_el h
  have t0 := Fc_pf (ow_kd_9 k0) e2
  exact (Fc_tr (t0) (fr_9_holdOut_l7 a0 k0 FU 0 μ1 _ h))
set_option maxRecDepth 100000 in
theorem fr_1_takeFrom  {a0 : Nat} {a1 : Nat} {μ : mm} {r : mm} (h : f_1_takeFrom a0 a1 μ = some r) (k0 : kd a0 = 1) (k1 : kd a1 = 1) : Fc μ r := by
  unfold f_1_takeFrom at h
  obtain ⟨μ1, e2, h⟩ := bi_el h
  have t0 := Fc_pf (ow_kd_1 k0) e2
  obtain ⟨μ3, e4, h⟩ := bi_el h
  have t1 := Fc_pf (ow_kd_1 k0) e4
  obtain ⟨μ5, e6, h⟩ := bi_el h
  have t2 := Fc_pf (ow_kd_1 k0) e6
  obtain ⟨μ7, e8, h⟩ := bi_el h
  have t3 := Fc_pf (ow_kd_1 k0) e8
  obtain ⟨μ9, e10, h⟩ := bi_el h
  have t4 := Fc_pf (ow_kd_1 k0) e10
  obtain ⟨μ11, e12, h⟩ := bi_el h
  have t5 := Fc_pf (ow_kd_1 k0) e12
  obtain ⟨μ13, e14, h⟩ := bi_el h
  have t6 := Fc_pf (ow_kd_1 k0) e14
  obtain ⟨μ15, e16, h⟩ := bi_el h
  have t7 := Fc_pf (ow_kd_1 k0) e16
  obtain ⟨μ17, e18, h⟩ := bi_el h
  have t8 := Fc_pf (ow_kd_1 k0) e18
  obtain ⟨μ19, e20, h⟩ := bi_el h
  have t9 := Fc_pf (ow_kd_1 k0) e20
  obtain ⟨_, q23, h⟩ := bi_el h
  obtain ⟨μ21, e22, h⟩ := bi_el h
  have t10 := Fc_pf (ow_kd_1 k0) e22
  obtain ⟨_, q26, h⟩ := bi_el h
  obtain ⟨μ24, e25, h⟩ := bi_el h
  have t11 := Fc_pf (ow_kd_1 k0) e25
  obtain rfl := Option.some.inj h
  exact (Fc_tr (t0) (Fc_tr (t1) (Fc_tr (t2) (Fc_tr (t3) (Fc_tr (t4) (Fc_tr (t5) (Fc_tr (t6) (Fc_tr (t7) (Fc_tr (t8) (Fc_tr (t9) (Fc_tr (t10) (t11))))))))))))
set_option maxRecDepth 100000 in
theorem fr_2_takeFrom_l25 (a0 : Nat) (a1 : Nat) (k0 : kd a0 = 2) (k1 : kd a1 = 2) : ∀ (n : Nat) (v2 : Int32) (μ : mm) (z : mm), f_2_takeFrom_l25 a0 a1 n v2 μ = some z → Fc μ z
  | 0, _, _, _, h => by
    rw [f_2_takeFrom_l25] at h
    cases h
  | n + 1, v2, μ, z, h => by
    rw [f_2_takeFrom_l25] at h
    by_cases hc : 9 ≤ v2
    · rw [if_pos hc] at h
      obtain rfl := Option.some.inj h
      exact Fc_rf
    · rw [if_neg hc] at h
      obtain ⟨r1, e2, h⟩ := bi_el h
      obtain ⟨r3, e4, h⟩ := bi_el h
      obtain ⟨μ5, e6, h⟩ := bi_el h
      have t0 := Fc_cpo (ow_l e4 (ty_2_2 k0)) e6
      exact (Fc_tr (t0) (fr_2_takeFrom_l25 a0 a1 k0 k1 n (v2 + 1) μ5 _ h))
set_option maxRecDepth 100000 in
theorem fr_2_takeFrom  {a0 : Nat} {a1 : Nat} {μ : mm} {r : mm} (h : f_2_takeFrom a0 a1 μ = some r) (k0 : kd a0 = 2) (k1 : kd a1 = 2) : Fc μ r := by
  unfold f_2_takeFrom at h
  obtain ⟨μ1, e2, h⟩ := bi_el h
  have t0 := Fc_pf (ow_kd_2 k0) e2
  obtain ⟨μ3, e4, h⟩ := bi_el h
  have t1 := Fc_cpo (ow_2_1 k0) e4
  obtain ⟨z5, e6, h⟩ := bi_el h
  have t2 := fr_2_takeFrom_l25 a0 a1 k0 k1 FU 0 μ3 _ e6
  obtain rfl := Option.some.inj h
  exact (Fc_tr (t0) (Fc_tr (t1) (t2)))
set_option maxRecDepth 100000 in
theorem fr_3_takeFrom  {a0 : Nat} {a1 : Nat} {μ : mm} {r : mm} (h : f_3_takeFrom a0 a1 μ = some r) (k0 : kd a0 = 3) (k1 : kd a1 = 3) : Fc μ r := by
  unfold f_3_takeFrom at h
  obtain ⟨μ1, e2, h⟩ := bi_el h
  have t0 := Fc_pf (ow_kd_3 k0) e2
  obtain ⟨μ3, e4, h⟩ := bi_el h
  have t1 := Fc_pf (ow_kd_3 k0) e4
  obtain ⟨μ5, e6, h⟩ := bi_el h
  have t2 := Fc_pf (ow_kd_3 k0) e6
  obtain ⟨μ7, e8, h⟩ := bi_el h
  have t3 := Fc_cpo (ow_3_3 k0) e8
  obtain ⟨μ9, e10, h⟩ := bi_el h
  have t4 := Fc_cpo (ow_3_4 k0) e10
  obtain rfl := Option.some.inj h
  exact (Fc_tr (t0) (Fc_tr (t1) (Fc_tr (t2) (Fc_tr (t3) (t4)))))
set_option maxRecDepth 100000 in
theorem fr_4_takeFrom  {a0 : Nat} {a1 : Nat} {μ : mm} {r : mm} (h : f_4_takeFrom a0 a1 μ = some r) (k0 : kd a0 = 4) (k1 : kd a1 = 4) : Fc μ r := by
  unfold f_4_takeFrom at h
  obtain ⟨μ1, e2, h⟩ := bi_el h
  have t0 := Fc_pf (ow_kd_4 k0) e2
  obtain ⟨μ3, e4, h⟩ := bi_el h
  have t1 := Fc_pf (ow_kd_4 k0) e4
  obtain ⟨μ5, e6, h⟩ := bi_el h
  have t2 := Fc_pf (ow_kd_4 k0) e6
  obtain ⟨μ7, e8, h⟩ := bi_el h
  have t3 := Fc_pf (ow_kd_4 k0) e8
  obtain ⟨μ9, e10, h⟩ := bi_el h
  have t4 := Fc_pf (ow_kd_4 k0) e10
  obtain ⟨μ11, e12, h⟩ := bi_el h
  have t5 := Fc_pf (ow_kd_4 k0) e12
  obtain ⟨μ13, e14, h⟩ := bi_el h
  have t6 := Fc_pf (ow_kd_4 k0) e14
  obtain rfl := Option.some.inj h
  exact (Fc_tr (t0) (Fc_tr (t1) (Fc_tr (t2) (Fc_tr (t3) (Fc_tr (t4) (Fc_tr (t5) (t6)))))))
set_option maxRecDepth 100000 in
theorem fr_6_takeFrom  {a0 : Nat} {a1 : Nat} {μ : mm} {r : mm} (h : f_6_takeFrom a0 a1 μ = some r) (k0 : kd a0 = 6) (k1 : kd a1 = 6) : Fc μ r := by
  unfold f_6_takeFrom at h
  obtain ⟨μ1, e2, h⟩ := bi_el h
  have t0 := Fc_pf (ow_kd_6 k0) e2
  obtain ⟨μ3, e4, h⟩ := bi_el h
  have t1 := Fc_pf (ow_kd_6 k0) e4
  obtain ⟨μ5, e6, h⟩ := bi_el h
  have t2 := Fc_pf (ow_kd_6 k0) e6
  obtain rfl := Option.some.inj h
  exact (Fc_tr (t0) (Fc_tr (t1) (t2)))
set_option maxRecDepth 100000 in
theorem fr_7_takeFrom  {a0 : Nat} {a1 : Nat} {μ : mm} {r : mm} (h : f_7_takeFrom a0 a1 μ = some r) (k0 : kd a0 = 7) (k1 : kd a1 = 7) : Fc μ r := by
  unfold f_7_takeFrom at h
  obtain ⟨μ1, e2, h⟩ := bi_el h
  have t0 := Fc_pf (ow_kd_7 k0) e2
  obtain ⟨μ3, e4, h⟩ := bi_el h
  have t1 := Fc_cpo (ow_7_1 k0) e4
  obtain ⟨μ5, e6, h⟩ := bi_el h
  have t2 := Fc_cpo (ow_7_2 k0) e6
  obtain ⟨μ7, e8, h⟩ := bi_el h
  have t3 := Fc_cpo (ow_7_3 k0) e8
  obtain ⟨μ9, e10, h⟩ := bi_el h
  have t4 := Fc_pf (ow_kd_7 k0) e10
  obtain ⟨μ11, e12, h⟩ := bi_el h
  have t5 := Fc_cpo (ow_7_5 k0) e12
  obtain ⟨μ13, e14, h⟩ := bi_el h
  have t6 := Fc_cpo (ow_7_6 k0) e14
  obtain ⟨μ15, e16, h⟩ := bi_el h
  have t7 := Fc_cpz (ow_7_7 k0) e16
  obtain ⟨μ17, e18, h⟩ := bi_el h
  have t8 := Fc_pf (ow_kd_7 k0) e18
  obtain ⟨μ19, e20, h⟩ := bi_el h
  have t9 := Fc_pf (ow_kd_7 k0) e20
  obtain rfl := Option.some.inj h
  exact (Fc_tr (t0) (Fc_tr (t1) (Fc_tr (t2) (Fc_tr (t3) (Fc_tr (t4) (Fc_tr (t5) (Fc_tr (t6) (Fc_tr (t7) (Fc_tr (t8) (t9))))))))))
set_option maxRecDepth 100000 in
theorem fr_10_takeFrom  {a0 : Nat} {a1 : Nat} {μ : mm} {r : mm} (h : f_10_takeFrom a0 a1 μ = some r) (k0 : kd a0 = 10) (k1 : kd a1 = 10) : Fc μ r := by
  unfold f_10_takeFrom at h
  obtain ⟨μ1, e2, h⟩ := bi_el h
  have t0 := Fc_pf (ow_kd_10 k0) e2
  obtain ⟨μ3, e4, h⟩ := bi_el h
  have t1 := Fc_pf (ow_kd_10 k0) e4
  obtain ⟨μ5, e6, h⟩ := bi_el h
  have t2 := Fc_pf (ow_kd_10 k0) e6
  obtain ⟨μ7, e8, h⟩ := bi_el h
  have t3 := Fc_cpo (ow_10_3 k0) e8
  obtain ⟨μ9, e10, h⟩ := bi_el h
  have t4 := Fc_cpo (ow_10_4 k0) e10
  obtain rfl := Option.some.inj h
  exact (Fc_tr (t0) (Fc_tr (t1) (Fc_tr (t2) (Fc_tr (t3) (t4)))))
set_option maxRecDepth 100000 in
theorem fr_9_takeFrom_l58 (a0 : Nat) (a1 : Nat) (k0 : kd a0 = 9) (k1 : kd a1 = 9) : ∀ (n : Nat) (v2 : Int32) (μ : mm) (z : mm), f_9_takeFrom_l58 a0 a1 n v2 μ = some z → Fc μ z
  | 0, _, _, _, h => by
    rw [f_9_takeFrom_l58] at h
    cases h
  | n + 1, v2, μ, z, h => by
    rw [f_9_takeFrom_l58] at h
    by_cases hc : 6 ≤ v2
    · rw [if_pos hc] at h
      obtain rfl := Option.some.inj h
      exact Fc_rf
    · rw [if_neg hc] at h
      obtain ⟨r1, e2, h⟩ := bi_el h
      obtain ⟨r3, e4, h⟩ := bi_el h
      obtain ⟨μ5, e6, h⟩ := bi_el h
      have t0 := Fc_cpo (ow_l e4 (ty_9_7 k0)) e6
      exact (Fc_tr (t0) (fr_9_takeFrom_l58 a0 a1 k0 k1 n (v2 + 1) μ5 _ h))
set_option maxRecDepth 100000 in
theorem fr_9_takeFrom_l91 (a0 : Nat) (a1 : Nat) (k0 : kd a0 = 9) (k1 : kd a1 = 9) : ∀ (n : Nat) (v2 : Int32) (μ : mm) (z : mm), f_9_takeFrom_l91 a0 a1 n v2 μ = some z → Fc μ z
  | 0, _, _, _, h => by
    rw [f_9_takeFrom_l91] at h
    cases h
  | n + 1, v2, μ, z, h => by
    rw [f_9_takeFrom_l91] at h
    by_cases hc : (μ a0 2) ≤ v2
    · rw [if_pos hc] at h
      obtain rfl := Option.some.inj h
      exact Fc_rf
    · rw [if_neg hc] at h
      obtain ⟨r1, e2, h⟩ := bi_el h
      obtain ⟨r3, e4, h⟩ := bi_el h
      obtain ⟨μ6, e5, h⟩ := bi_el h
      have t0 := fr_4_takeFrom e5 (tl_24 e2 (ty_9_8 k0)) (tl_24 e4 (ty_9_8 k1))
      exact (Fc_tr (t0) (fr_9_takeFrom_l91 a0 a1 k0 k1 n (v2 + 1) μ6 _ h))
set_option maxRecDepth 100000 in
theorem fr_9_takeFrom_l122 (a0 : Nat) (a1 : Nat) (k0 : kd a0 = 9) (k1 : kd a1 = 9) : ∀ (n : Nat) (v2 : Int32) (μ : mm) (z : mm), f_9_takeFrom_l122 a0 a1 n v2 μ = some z → Fc μ z
  | 0, _, _, _, h => by
    rw [f_9_takeFrom_l122] at h
    cases h
  | n + 1, v2, μ, z, h => by
    rw [f_9_takeFrom_l122] at h
    by_cases hc : (μ a0 3) ≤ v2
    · rw [if_pos hc] at h
      obtain rfl := Option.some.inj h
      exact Fc_rf
    · rw [if_neg hc] at h
      obtain ⟨r1, e2, h⟩ := bi_el h
      obtain ⟨r3, e4, h⟩ := bi_el h
      obtain ⟨μ6, e5, h⟩ := bi_el h
      have t0 := fr_6_takeFrom e5 (tl_25 e2 (ty_9_9 k0)) (tl_25 e4 (ty_9_9 k1))
      exact (Fc_tr (t0) (fr_9_takeFrom_l122 a0 a1 k0 k1 n (v2 + 1) μ6 _ h))
set_option maxRecDepth 100000 in
theorem fr_9_takeFrom_l153 (a0 : Nat) (a1 : Nat) (k0 : kd a0 = 9) (k1 : kd a1 = 9) : ∀ (n : Nat) (v2 : Int32) (μ : mm) (z : mm), f_9_takeFrom_l153 a0 a1 n v2 μ = some z → Fc μ z
  | 0, _, _, _, h => by
    rw [f_9_takeFrom_l153] at h
    cases h
  | n + 1, v2, μ, z, h => by
    rw [f_9_takeFrom_l153] at h
    by_cases hc : (μ a0 4) ≤ v2
    · rw [if_pos hc] at h
      obtain rfl := Option.some.inj h
      exact Fc_rf
    · rw [if_neg hc] at h
      obtain ⟨r1, e2, h⟩ := bi_el h
      obtain ⟨r3, e4, h⟩ := bi_el h
      obtain ⟨μ6, e5, h⟩ := bi_el h
      have t0 := fr_1_takeFrom e5 (tl_26 e2 (ty_9_10 k0)) (tl_26 e4 (ty_9_10 k1))
      exact (Fc_tr (t0) (fr_9_takeFrom_l153 a0 a1 k0 k1 n (v2 + 1) μ6 _ h))
set_option maxRecDepth 100000 in
theorem fr_9_takeFrom_l184 (a0 : Nat) (a1 : Nat) (k0 : kd a0 = 9) (k1 : kd a1 = 9) : ∀ (n : Nat) (v2 : Int32) (μ : mm) (z : mm), f_9_takeFrom_l184 a0 a1 n v2 μ = some z → Fc μ z
  | 0, _, _, _, h => by
    rw [f_9_takeFrom_l184] at h
    cases h
  | n + 1, v2, μ, z, h => by
    rw [f_9_takeFrom_l184] at h
    by_cases hc : 3 ≤ v2
    · rw [if_pos hc] at h
      obtain rfl := Option.some.inj h
      exact Fc_rf
    · rw [if_neg hc] at h
      obtain ⟨r1, e2, h⟩ := bi_el h
      obtain ⟨r3, e4, h⟩ := bi_el h
      obtain ⟨μ6, e5, h⟩ := bi_el h
      have t0 := fr_5_takeFrom e5 (tl_27 e2 (ty_9_11 k0)) (tl_27 e4 (ty_9_11 k1))
      exact (Fc_tr (t0) (fr_9_takeFrom_l184 a0 a1 k0 k1 n (v2 + 1) μ6 _ h))
set_option maxRecDepth 100000 in
theorem fr_9_takeFrom  {a0 : Nat} {a1 : Nat} {μ : mm} {r : mm} (h : f_9_takeFrom a0 a1 μ = some r) (k0 : kd a0 = 9) (k1 : kd a1 = 9) : Fc μ r := by
  unfold f_9_takeFrom at h
  obtain ⟨μ1, e2, h⟩ := bi_el h
  have t0 := Fc_pf (ow_kd_9 k0) e2
  obtain ⟨μ3, e4, h⟩ := bi_el h
  have t1 := Fc_pf (ow_kd_9 k0) e4
  obtain ⟨μ5, e6, h⟩ := bi_el h
  have t2 := Fc_pf (ow_kd_9 k0) e6
  obtain ⟨μ7, e8, h⟩ := bi_el h
  have t3 := Fc_pf (ow_kd_9 k0) e8
  obtain ⟨μ9, e10, h⟩ := bi_el h
  have t4 := Fc_pf (ow_kd_9 k0) e10
  obtain ⟨μ11, e12, h⟩ := bi_el h
  have t5 := Fc_pf (ow_kd_9 k0) e12
  obtain ⟨_, q15, h⟩ := bi_el h
  obtain ⟨μ13, e14, h⟩ := bi_el h
  have t6 := Fc_pf (ow_kd_9 k0) e14
  obtain ⟨z16, e17, h⟩ := bi_el h
  have t7 := fr_9_takeFrom_l58 a0 a1 k0 k1 FU 0 μ13 _ e17
  obtain ⟨z18, e19, h⟩ := bi_el h
  have t8 := fr_9_takeFrom_l91 a0 a1 k0 k1 FU 0 z16 _ e19
  obtain ⟨z20, e21, h⟩ := bi_el h
  have t9 := fr_9_takeFrom_l122 a0 a1 k0 k1 FU 0 z18 _ e21
  obtain ⟨z22, e23, h⟩ := bi_el h
  have t10 := fr_9_takeFrom_l153 a0 a1 k0 k1 FU 0 z20 _ e23
  obtain ⟨z24, e25, h⟩ := bi_el h
  have t11 := fr_9_takeFrom_l184 a0 a1 k0 k1 FU 0 z22 _ e25
  obtain ⟨μ27, e26, h⟩ := bi_el h
  have t12 := fr_10_takeFrom e26 (ty_9_12 k0) (ty_9_12 k1)
  obtain ⟨μ29, e28, h⟩ := bi_el h
  have t13 := fr_7_takeFrom e28 (ty_9_13 k0) (ty_9_13 k1)
  obtain ⟨μ31, e30, h⟩ := bi_el h
  have t14 := fr_3_takeFrom e30 (ty_9_14 k0) (ty_9_14 k1)
  obtain ⟨μ33, e32, h⟩ := bi_el h
  have t15 := fr_2_takeFrom e32 (ty_9_15 k0) (ty_9_15 k1)
  obtain rfl := Option.some.inj h
  exact (Fc_tr (t0) (Fc_tr (t1) (Fc_tr (t2) (Fc_tr (t3) (Fc_tr (t4) (Fc_tr (t5) (Fc_tr (t6) (Fc_tr (t7) (Fc_tr (t8) (Fc_tr (t9) (Fc_tr (t10) (Fc_tr (t11) (Fc_tr (t12) (Fc_tr (t13) (Fc_tr (t14) (t15))))))))))))))))
set_option maxRecDepth 100000 in
theorem fr_11_last  {a0 : Nat} {a1 : Int32} {μ : mm} {r : Int32 × mm} (h : f_11_last a0 a1 μ = some r) (k0 : kd a0 = 11) : Fc μ r.2 := by
  unfold f_11_last at h
  by_cases hs0 : a1 = 0
  · rw [if_pos hs0] at h
    obtain ⟨μ2, e1, h⟩ := bi_el h
    have t0 := fr_9_takeFrom e1 (ty_11_2 k0) (ty_11_0 k0)
    obtain ⟨z4, e3, h⟩ := bi_el h
    have t1 := fr_9_holdOut e3 (ty_11_2 k0)
    obtain rfl := Option.some.inj h
    exact (Fc_tr (t0) (t1))
  rw [if_neg hs0] at h
  by_cases hs1 : a1 = 1
  · rw [if_pos hs1] at h
    obtain ⟨x6, e5, h⟩ := bi_el h
    obtain rfl := Option.some.inj h
    exact Fc_rf
  rw [if_neg hs1] at h
  by_cases hs2 : a1 = 2
  · rw [if_pos hs2] at h
    obtain ⟨μ8, e7, h⟩ := bi_el h
    have t0 := fr_9_takeFrom e7 (ty_11_2 k0) (ty_11_0 k0)
    obtain ⟨z10, e9, h⟩ := bi_el h
    have t1 := fr_9_holdOut e9 (ty_11_2 k0)
    obtain rfl := Option.some.inj h
    exact (Fc_tr (t0) (t1))
  rw [if_neg hs2] at h
  by_cases hs3 : a1 = 3
  · rw [if_pos hs3] at h
    obtain ⟨x12, e11, h⟩ := bi_el h
    obtain rfl := Option.some.inj h
    exact Fc_rf
  rw [if_neg hs3] at h
  obtain rfl := Option.some.inj h
  exact Fc_rf
set_option maxRecDepth 100000 in
theorem fr_3_addGate  {a0 : Nat} {a1 : Int32} {μ : mm} {r : Int32 × mm} (h : f_3_addGate a0 a1 μ = some r) (k0 : kd a0 = 3) : Fc μ r.2 := by
  unfold f_3_addGate at h
  obtain ⟨μ1, e2, h⟩ := bi_el h
  have t0 := Fc_sto (ow_3_3 k0) e2
  obtain ⟨μ3, e4, h⟩ := bi_el h
  have t1 := Fc_pf (ow_kd_3 k0) e4
  obtain rfl := Option.some.inj h
  exact (Fc_tr (t0) (t1))
set_option maxRecDepth 100000 in
theorem fr_3_addMan  {a0 : Nat} {a1 : Int32} {μ : mm} {r : Int32 × mm} (h : f_3_addMan a0 a1 μ = some r) (k0 : kd a0 = 3) : Fc μ r.2 := by
  unfold f_3_addMan at h
  obtain ⟨μ1, e2, h⟩ := bi_el h
  have t0 := Fc_sto (ow_3_4 k0) e2
  obtain ⟨μ3, e4, h⟩ := bi_el h
  have t1 := Fc_pf (ow_kd_3 k0) e4
  obtain rfl := Option.some.inj h
  exact (Fc_tr (t0) (t1))
set_option maxRecDepth 100000 in
theorem fr_11_post  {a0 : Nat} {a1 : Int32} {a2 : Int32} {μ : mm} {r : Int32 × mm} (h : f_11_post a0 a1 a2 μ = some r) (k0 : kd a0 = 11) : Fc μ r.2 := by
  unfold f_11_post at h
  obtain ⟨x2, e1, h⟩ := bi_el h
  by_cases hc : x2 = 0
  · rw [if_pos hc] at h
    obtain rfl := Option.some.inj h
    exact Fc_rf
  · rw [if_neg hc] at h
    by_cases hc : a1 = 0
    · rw [if_pos hc] at h
      by_cases hc : 4 ≤ (μ (rf (rf a0 0) 14) 1)
      · rw [if_pos hc] at h
        obtain rfl := Option.some.inj h
        exact Fc_rf
      · rw [if_neg hc] at h
        obtain ⟨z4, e3, h⟩ := bi_el h
        have t0 := fr_3_addGate e3 (ty_9_14 (ty_11_0 k0))
        obtain rfl := Option.some.inj h
        exact (t0)
    · rw [if_neg hc] at h
      by_cases hc : 8 ≤ (μ (rf (rf a0 0) 14) 2)
      · rw [if_pos hc] at h
        obtain rfl := Option.some.inj h
        exact Fc_rf
      · rw [if_neg hc] at h
        obtain ⟨z6, e5, h⟩ := bi_el h
        have t0 := fr_3_addMan e5 (ty_9_14 (ty_11_0 k0))
        obtain rfl := Option.some.inj h
        exact (t0)
set_option maxRecDepth 100000 in
theorem fr_11_tellRows_l4 (a0 : Nat) (k0 : kd a0 = 11) : ∀ (n : Nat) (v1 : Int32) (v2 : Int32) (μ : mm) (z : Int32 × mm), f_11_tellRows_l4 a0 n v1 v2 μ = some z → Fc μ z.2
  | 0, _, _, _, _, h => by
    rw [f_11_tellRows_l4] at h
    cases h
  | n + 1, v1, v2, μ, z, h => by
    rw [f_11_tellRows_l4] at h
    by_cases hc : (μ (rf (rf a0 0) 14) 2) ≤ v2
    · rw [if_pos hc] at h
      obtain rfl := Option.some.inj h
      exact Fc_rf
    · rw [if_neg hc] at h
      by_cases hc : 4 ≤ v1
      · rw [if_pos hc] at h
        obtain rfl := Option.some.inj h
        exact Fc_rf
      · rw [if_neg hc] at h
        obtain ⟨x1, e2, h⟩ := bi_el h
        by_cases hc : x1 = (-1)
        · rw [if_pos hc] at h
          exact (fr_11_tellRows_l4 a0 k0 n v1 (v2 + 1) μ _ h)
        · rw [if_neg hc] at h
          obtain ⟨μ3, e4, h⟩ := bi_el h
          have t0 := Fc_sto (ow_11_7 k0) e4
          obtain ⟨x5, e6, h⟩ := bi_el h
          obtain ⟨μ7, e8, h⟩ := bi_el h
          have t1 := Fc_sto (ow_11_7 k0) e8
          exact (Fc_tr (t0) (Fc_tr (t1) (fr_11_tellRows_l4 a0 k0 n (v1 + 1) (v2 + 1) μ7 _ h)))
set_option maxRecDepth 100000 in
theorem fr_11_tellRows  {a0 : Nat} {μ : mm} {r : mm} (h : f_11_tellRows a0 μ = some r) (k0 : kd a0 = 11) : Fc μ r := by
  unfold f_11_tellRows at h
  obtain ⟨z1, e2, h⟩ := bi_el h
  have t0 := fr_11_tellRows_l4 a0 k0 FU 0 0 μ _ e2
  obtain ⟨μ3, e4, h⟩ := bi_el h
  have t1 := Fc_cpo (ow_11_6 k0) e4
  obtain ⟨μ5, e6, h⟩ := bi_el h
  have t2 := Fc_pf (ow_kd_11 k0) e6
  obtain ⟨μ7, e8, h⟩ := bi_el h
  have t3 := Fc_pf (ow_kd_11 k0) e8
  obtain ⟨μ9, e10, h⟩ := bi_el h
  have t4 := Fc_pf (ow_kd_11 k0) e10
  obtain rfl := Option.some.inj h
  exact (Fc_tr (t0) (Fc_tr (t1) (Fc_tr (t2) (Fc_tr (t3) (t4)))))
set_option maxRecDepth 100000 in
theorem fr_3_sendMen_l29 (a0 : Nat) (a1 : Nat) (a3 : Int32) (k0 : kd a0 = 3) (k1 : kd a1 = 23) : ∀ (n : Nat) (v2 : Int32) (v4 : Int32) (μ : mm) (z : Int32 × mm), f_3_sendMen_l29 a0 a1 a3 n v2 v4 μ = some z → Fc μ z.2
  | 0, _, _, _, _, h => by
    rw [f_3_sendMen_l29] at h
    cases h
  | n + 1, v2, v4, μ, z, h => by
    rw [f_3_sendMen_l29] at h
    by_cases hc : (μ a0 1) ≤ v4
    · rw [if_pos hc] at h
      obtain rfl := Option.some.inj h
      exact Fc_rf
    · rw [if_neg hc] at h
      obtain ⟨x1, e2, h⟩ := bi_el h
      by_cases hc : x1 = (-1)
      · rw [if_pos hc] at h
        obtain ⟨x4, e3, h⟩ := bi_el h
        obtain ⟨r5, e6, h⟩ := bi_el h
        obtain ⟨x7, e8, h⟩ := bi_el h
        by_cases hc : x4 = x7
        · rw [if_pos hc] at h
          obtain ⟨μ9, e10, h⟩ := bi_el h
          have t0 := Fc_sto (ow_3_5 k0) e10
          exact (Fc_tr (t0) (fr_3_sendMen_l29 a0 a1 a3 k0 k1 n (v2 &&& ((1 <<< (v4 &&& 31)) ^^^ (-1))) (v4 + 1) μ9 _ h))
        · rw [if_neg hc] at h
          exact (fr_3_sendMen_l29 a0 a1 a3 k0 k1 n v2 (v4 + 1) μ _ h)
      · rw [if_neg hc] at h
        obtain rfl := Option.some.inj h
        exact Fc_rf
set_option maxRecDepth 100000 in
theorem fr_3_sendMen_l11 (a0 : Nat) (a1 : Nat) (k0 : kd a0 = 3) (k1 : kd a1 = 23) : ∀ (n : Nat) (v2 : Int32) (v3 : Int32) (μ : mm) (z : mm), f_3_sendMen_l11 a0 a1 n v2 v3 μ = some z → Fc μ z
  | 0, _, _, _, _, h => by
    rw [f_3_sendMen_l11] at h
    cases h
  | n + 1, v2, v3, μ, z, h => by
    rw [f_3_sendMen_l11] at h
    by_cases hc : (μ a0 2) ≤ v3
    · rw [if_pos hc] at h
      obtain rfl := Option.some.inj h
      exact Fc_rf
    · rw [if_neg hc] at h
      obtain ⟨μ1, e2, h⟩ := bi_el h
      have t0 := Fc_sto (ow_3_5 k0) e2
      obtain ⟨z3, e4, h⟩ := bi_el h
      have t1 := fr_3_sendMen_l29 a0 a1 v3 k0 k1 FU v2 0 μ1 _ e4
      exact (Fc_tr (t0) (Fc_tr (t1) (fr_3_sendMen_l11 a0 a1 k0 k1 n z3.1 (v3 + 1) z3.2 _ h)))
set_option maxRecDepth 100000 in
theorem fr_3_sendMen  {a0 : Nat} {a1 : Nat} {μ : mm} {r : mm} (h : f_3_sendMen a0 a1 μ = some r) (k0 : kd a0 = 3) (k1 : kd a1 = 23) : Fc μ r := by
  unfold f_3_sendMen at h
  obtain ⟨z1, e2, h⟩ := bi_el h
  have t0 := fr_3_sendMen_l11 a0 a1 k0 k1 FU ((1 <<< ((μ a0 1) &&& 31)) - 1) 0 μ _ e2
  obtain rfl := Option.some.inj h
  exact (t0)
set_option maxRecDepth 100000 in
theorem fr_3_plan_l39 (a0 : Nat) (a1 : Nat) (a2 : Int32) (k0 : kd a0 = 3) (k1 : kd a1 = 23) : ∀ (n : Nat) (v3 : Int32) (μ : mm) (z : mm), f_3_plan_l39 a0 a1 a2 n v3 μ = some z → Fc μ z
  | 0, _, _, _, h => by
    rw [f_3_plan_l39] at h
    cases h
  | n + 1, v3, μ, z, h => by
    rw [f_3_plan_l39] at h
    by_cases hc : (1 <<< ((μ a0 1) &&& 31)) ≤ v3
    · rw [if_pos hc] at h
      obtain rfl := Option.some.inj h
      exact Fc_rf
    · rw [if_neg hc] at h
      obtain ⟨r1, e2, h⟩ := bi_el h
      obtain ⟨x4, e3, h⟩ := bi_el h
      obtain ⟨μ5, e6, h⟩ := bi_el h
      have t0 := Fc_sto (ow_l e2 (ty_3_6 k0)) e6
      exact (Fc_tr (t0) (fr_3_plan_l39 a0 a1 a2 k0 k1 n (v3 + 1) μ5 _ h))
set_option maxRecDepth 100000 in
theorem fr_3_plan_l33 (a0 : Nat) (a1 : Nat) (k0 : kd a0 = 3) (k1 : kd a1 = 23) : ∀ (n : Nat) (v2 : Int32) (μ : mm) (z : mm), f_3_plan_l33 a0 a1 n v2 μ = some z → Fc μ z
  | 0, _, _, _, h => by
    rw [f_3_plan_l33] at h
    cases h
  | n + 1, v2, μ, z, h => by
    rw [f_3_plan_l33] at h
    by_cases hc : v2 < 0
    · rw [if_pos hc] at h
      obtain rfl := Option.some.inj h
      exact Fc_rf
    · rw [if_neg hc] at h
      obtain ⟨z1, e2, h⟩ := bi_el h
      have t0 := fr_3_plan_l39 a0 a1 v2 k0 k1 FU 0 μ _ e2
      exact (Fc_tr (t0) (fr_3_plan_l33 a0 a1 k0 k1 n (v2 + (-1)) z1 _ h))
set_option maxRecDepth 100000 in
theorem fr_3_plan  {a0 : Nat} {a1 : Nat} {μ : mm} {r : Int32 × mm} (h : f_3_plan a0 a1 μ = some r) (k0 : kd a0 = 3) (k1 : kd a1 = 23) : Fc μ r.2 := by
  unfold f_3_plan at h
  obtain ⟨r1, e2, h⟩ := bi_el h
  obtain ⟨μ4, e3, h⟩ := bi_el h
  have t0 := Fc_of_l (ow_l e2 (ty_3_6 k0)) (fr_J7_fill e3 (tl_23 e2 (ty_3_6 k0)))
  obtain ⟨r5, e6, h⟩ := bi_el h
  obtain ⟨μ7, e8, h⟩ := bi_el h
  have t1 := Fc_sto (ow_l e6 (ty_3_6 k0)) e8
  obtain ⟨z9, e10, h⟩ := bi_el h
  have t2 := fr_3_plan_l33 a0 a1 k0 k1 FU ((μ7 a0 2) - 1) μ7 _ e10
  obtain ⟨x12, e11, h⟩ := bi_el h
  by_cases hc : x12 < 1000000
  · rw [if_pos hc] at h
    obtain ⟨μ14, e13, h⟩ := bi_el h
    have t3 := fr_3_sendMen e13 k0 k1
    obtain rfl := Option.some.inj h
    exact (Fc_tr (t0) (Fc_tr (t1) (Fc_tr (t2) (t3))))
  · rw [if_neg hc] at h
    obtain rfl := Option.some.inj h
    exact (Fc_tr (t0) (Fc_tr (t1) (t2)))
set_option maxRecDepth 100000 in
theorem fr_11_watch_b37  {a0 : Nat} {a1 : Int32} {a2 : Int32} {μ : mm} {r : Int32 × mm} (h : f_11_watch_b37 a0 a1 a2 μ = some r) (k0 : kd a0 = 11) : Fc μ r.2 := by
  unfold f_11_watch_b37 at h
  obtain ⟨z2, e1, h⟩ := bi_el h
  have t0 := fr_3_plan e1 (ty_9_14 (ty_11_0 k0)) (ty_9_7 (ty_11_0 k0))
  by_cases hc : z2.1 = 0
  · rw [if_pos hc] at h
    obtain rfl := Option.some.inj h
    exact (t0)
  · rw [if_neg hc] at h
    obtain ⟨μ4, e3, h⟩ := bi_el h
    have t1 := fr_11_tellRows e3 k0
    by_cases hc : a2 = 0
    · rw [if_pos hc] at h
      by_cases hc : a1 = 0
      · rw [if_pos hc] at h
        obtain rfl := Option.some.inj h
        exact (Fc_tr (t0) (t1))
      · rw [if_neg hc] at h
        obtain ⟨x6, e5, h⟩ := bi_el h
        obtain rfl := Option.some.inj h
        exact (Fc_tr (t0) (t1))
    · rw [if_neg hc] at h
      obtain ⟨x7, e8, h⟩ := bi_el h
      by_cases hc : x7 = (-1)
      · rw [if_pos hc] at h
        obtain rfl := Option.some.inj h
        exact (Fc_tr (t0) (t1))
      · rw [if_neg hc] at h
        obtain rfl := Option.some.inj h
        exact (Fc_tr (t0) (t1))
set_option maxRecDepth 100000 in
theorem fr_11_watch  {a0 : Nat} {a1 : Int32} {μ : mm} {r : Int32 × mm} (h : f_11_watch a0 a1 μ = some r) (k0 : kd a0 = 11) : Fc μ r.2 := by
  unfold f_11_watch at h
  obtain ⟨x2, e1, h⟩ := bi_el h
  by_cases hc : a1 = 0
  · rw [if_pos hc] at h
    exact (fr_11_watch_b37  h k0)
  · rw [if_neg hc] at h
    by_cases hc : a1 = 1
    · rw [if_pos hc] at h
      exact (fr_11_watch_b37  h k0)
    · rw [if_neg hc] at h
      by_cases hc : x2 = 0
      · rw [if_pos hc] at h
        obtain rfl := Option.some.inj h
        exact Fc_rf
      · rw [if_neg hc] at h
        exact (fr_11_watch_b37  h k0)
set_option maxRecDepth 100000 in
theorem fr_11_alterRow  {a0 : Nat} {a1 : Int32} {a2 : Int32} {a3 : Int32} {μ : mm} {r : Int32 × mm} (h : f_11_alterRow a0 a1 a2 a3 μ = some r) (k0 : kd a0 = 11) : Fc μ r.2 := by
  unfold f_11_alterRow at h
  obtain ⟨x2, e1, h⟩ := bi_el h
  by_cases hc : x2 = 0
  · rw [if_pos hc] at h
    obtain rfl := Option.some.inj h
    exact Fc_rf
  · rw [if_neg hc] at h
    obtain ⟨x3, e4, h⟩ := bi_el h
    obtain ⟨μ5, e6, h⟩ := bi_el h
    have t0 := Fc_sto (ow_11_6 k0) e6
    obtain rfl := Option.some.inj h
    exact (t0)
set_option maxRecDepth 100000 in
theorem fr_11_dropRow  {a0 : Nat} {μ : mm} {r : Int32 × mm} (h : f_11_dropRow a0 μ = some r) (k0 : kd a0 = 11) : Fc μ r.2 := by
  unfold f_11_dropRow at h
  by_cases hc : (μ a0 8) = 0
  · rw [if_pos hc] at h
    obtain rfl := Option.some.inj h
    exact Fc_rf
  · rw [if_neg hc] at h
    obtain ⟨μ1, e2, h⟩ := bi_el h
    have t0 := Fc_pf (ow_kd_11 k0) e2
    obtain rfl := Option.some.inj h
    exact (t0)
set_option maxRecDepth 100000 in
theorem fr_2_addClause  {a0 : Nat} {a1 : Int32} {μ : mm} {r : Int32 × mm} (h : f_2_addClause a0 a1 μ = some r) (k0 : kd a0 = 2) : Fc μ r.2 := by
  unfold f_2_addClause at h
  obtain ⟨μ1, e2, h⟩ := bi_el h
  have t0 := Fc_sto (ow_2_1 k0) e2
  obtain ⟨r3, e4, h⟩ := bi_el h
  obtain ⟨μ6, e5, h⟩ := bi_el h
  have t1 := Fc_of_l (ow_l e4 (ty_2_2 k0)) (fr_J7_fill e5 (tl_23 e4 (ty_2_2 k0)))
  obtain ⟨μ7, e8, h⟩ := bi_el h
  have t2 := Fc_pf (ow_kd_2 k0) e8
  obtain rfl := Option.some.inj h
  exact (Fc_tr (t0) (Fc_tr (t1) (t2)))
set_option maxRecDepth 100000 in
theorem fr_11_clause  {a0 : Nat} {a1 : Int32} {μ : mm} {r : Int32 × mm} (h : f_11_clause a0 a1 μ = some r) (k0 : kd a0 = 11) : Fc μ r.2 := by
  unfold f_11_clause at h
  obtain ⟨x2, e1, h⟩ := bi_el h
  by_cases hc : x2 = 0
  · rw [if_pos hc] at h
    obtain rfl := Option.some.inj h
    exact Fc_rf
  · rw [if_neg hc] at h
    by_cases hc : 9 ≤ (μ (rf (rf a0 0) 15) 0)
    · rw [if_pos hc] at h
      obtain rfl := Option.some.inj h
      exact Fc_rf
    · rw [if_neg hc] at h
      obtain ⟨z4, e3, h⟩ := bi_el h
      have t0 := fr_2_addClause e3 (ty_9_15 (ty_11_0 k0))
      obtain rfl := Option.some.inj h
      exact (t0)
set_option maxRecDepth 100000 in
theorem fr_11_worth  {a0 : Nat} {a1 : Int32} {a2 : Int32} {a3 : Int32} {μ : mm} {r : Int32 × mm} (h : f_11_worth a0 a1 a2 a3 μ = some r) (k0 : kd a0 = 11) : Fc μ r.2 := by
  unfold f_11_worth at h
  obtain ⟨x2, e1, h⟩ := bi_el h
  by_cases hc : x2 = 0
  · rw [if_pos hc] at h
    obtain rfl := Option.some.inj h
    exact Fc_rf
  · rw [if_neg hc] at h
    obtain ⟨x4, e3, h⟩ := bi_el h
    by_cases hc : x4 = 0
    · rw [if_pos hc] at h
      obtain rfl := Option.some.inj h
      exact Fc_rf
    · rw [if_neg hc] at h
      obtain ⟨x6, e5, h⟩ := bi_el h
      by_cases hc : x6 = 0
      · rw [if_pos hc] at h
        obtain rfl := Option.some.inj h
        exact Fc_rf
      · rw [if_neg hc] at h
        obtain ⟨r7, e8, h⟩ := bi_el h
        obtain ⟨x9, e10, h⟩ := bi_el h
        obtain ⟨r11, e12, h⟩ := bi_el h
        obtain ⟨μ13, e14, h⟩ := bi_el h
        have t0 := Fc_sto (ow_l e12 (ty_2_2 (ty_9_15 (ty_11_0 k0)))) e14
        obtain rfl := Option.some.inj h
        exact (t0)
set_option maxRecDepth 100000 in
theorem fr_2_callVoters_l20 (a0 : Nat) (a1 : Nat) (k0 : kd a0 = 2) (k1 : kd a1 = 9) : ∀ (n : Nat) (v2 : Int32) (μ : mm) (z : mm), f_2_callVoters_l20 a0 a1 n v2 μ = some z → Fc μ z
  | 0, _, _, _, h => by
    rw [f_2_callVoters_l20] at h
    cases h
  | n + 1, v2, μ, z, h => by
    rw [f_2_callVoters_l20] at h
    by_cases hc : (μ a1 4) ≤ v2
    · rw [if_pos hc] at h
      obtain rfl := Option.some.inj h
      exact Fc_rf
    · rw [if_neg hc] at h
      obtain ⟨r1, e2, h⟩ := bi_el h
      by_cases hc : (μ r1 10) = 0
      · rw [if_pos hc] at h
        obtain ⟨x4, e3, h⟩ := bi_el h
        by_cases hc : x4 = 0
        · rw [if_pos hc] at h
          exact (fr_2_callVoters_l20 a0 a1 k0 k1 n (v2 + 1) μ _ h)
        · rw [if_neg hc] at h
          by_cases hc : 10 ≤ (μ r1 5)
          · rw [if_pos hc] at h
            by_cases hc : (μ r1 5) ≤ 90
            · rw [if_pos hc] at h
              obtain ⟨x5, e6, h⟩ := bi_el h
              obtain ⟨μ7, e8, h⟩ := bi_el h
              have t0 := Fc_sto (ow_2_5 k0) e8
              exact (Fc_tr (t0) (fr_2_callVoters_l20 a0 a1 k0 k1 n (v2 + 1) μ7 _ h))
            · rw [if_neg hc] at h
              obtain ⟨μ9, e10, h⟩ := bi_el h
              have t0 := Fc_pf (ow_kd_2 k0) e10
              exact (Fc_tr (t0) (fr_2_callVoters_l20 a0 a1 k0 k1 n (v2 + 1) μ9 _ h))
          · rw [if_neg hc] at h
            obtain ⟨μ11, e12, h⟩ := bi_el h
            have t0 := Fc_pf (ow_kd_2 k0) e12
            exact (Fc_tr (t0) (fr_2_callVoters_l20 a0 a1 k0 k1 n (v2 + 1) μ11 _ h))
      · rw [if_neg hc] at h
        exact (fr_2_callVoters_l20 a0 a1 k0 k1 n (v2 + 1) μ _ h)
set_option maxRecDepth 100000 in
theorem fr_2_callVoters  {a0 : Nat} {a1 : Nat} {μ : mm} {r : mm} (h : f_2_callVoters a0 a1 μ = some r) (k0 : kd a0 = 2) (k1 : kd a1 = 9) : Fc μ r := by
  unfold f_2_callVoters at h
  obtain ⟨μ1, e2, h⟩ := bi_el h
  have t0 := Fc_pf (ow_kd_2 k0) e2
  obtain ⟨μ3, e4, h⟩ := bi_el h
  have t1 := Fc_pf (ow_kd_2 k0) e4
  obtain ⟨μ6, e5, h⟩ := bi_el h
  have t2 := Fc_of_l (ow_2_5 k0) (fr_J7_fill e5 (ty_2_5 k0))
  obtain ⟨z7, e8, h⟩ := bi_el h
  have t3 := fr_2_callVoters_l20 a0 a1 k0 k1 FU 0 μ6 _ e8
  obtain rfl := Option.some.inj h
  exact (Fc_tr (t0) (Fc_tr (t1) (Fc_tr (t2) (t3))))
set_option maxRecDepth 100000 in
theorem fr_11_ballot  {a0 : Nat} {a1 : Int32} {a2 : Int32} {μ : mm} {r : Int32 × mm} (h : f_11_ballot a0 a1 a2 μ = some r) (k0 : kd a0 = 11) : Fc μ r.2 := by
  unfold f_11_ballot at h
  obtain ⟨x2, e1, h⟩ := bi_el h
  obtain ⟨x4, e3, h⟩ := bi_el h
  by_cases hc : x4 = 0
  · rw [if_pos hc] at h
    obtain rfl := Option.some.inj h
    exact Fc_rf
  · rw [if_neg hc] at h
    obtain ⟨x6, e5, h⟩ := bi_el h
    by_cases hc : x6 = 0
    · rw [if_pos hc] at h
      obtain rfl := Option.some.inj h
      exact Fc_rf
    · rw [if_neg hc] at h
      obtain ⟨μ8, e7, h⟩ := bi_el h
      have t0 := fr_2_callVoters e7 (ty_9_15 (ty_11_0 k0)) (ty_11_0 k0)
      obtain ⟨x10, e9, h⟩ := bi_el h
      by_cases hs0 : a2 = 0
      · rw [if_pos hs0] at h
        obtain ⟨x12, e11, h⟩ := bi_el h
        obtain rfl := Option.some.inj h
        exact (t0)
      rw [if_neg hs0] at h
      by_cases hs1 : a2 = 1
      · rw [if_pos hs1] at h
        obtain ⟨x14, e13, h⟩ := bi_el h
        obtain ⟨x16, e15, h⟩ := bi_el h
        obtain rfl := Option.some.inj h
        exact (t0)
      rw [if_neg hs1] at h
      by_cases hs2 : a2 = 2
      · rw [if_pos hs2] at h
        obtain ⟨x18, e17, h⟩ := bi_el h
        obtain ⟨x20, e19, h⟩ := bi_el h
        obtain rfl := Option.some.inj h
        exact (t0)
      rw [if_neg hs2] at h
      by_cases hs3 : a2 = 3
      · rw [if_pos hs3] at h
        obtain rfl := Option.some.inj h
        exact (t0)
      rw [if_neg hs3] at h
      obtain ⟨x22, e21, h⟩ := bi_el h
      obtain rfl := Option.some.inj h
      exact (t0)
set_option maxRecDepth 100000 in
theorem fr_2_leastOffer  {a0 : Nat} {a1 : Nat} {μ : mm} {r : Int32 × mm} (h : f_2_leastOffer a0 a1 μ = some r) (k0 : kd a0 = 2) (k1 : kd a1 = 9) : Fc μ r.2 := by
  unfold f_2_leastOffer at h
  obtain ⟨μ2, e1, h⟩ := bi_el h
  have t0 := fr_2_callVoters e1 k0 k1
  obtain ⟨z3, e4, h⟩ := bi_el h
  obtain rfl := Option.some.inj h
  exact (t0)
set_option maxRecDepth 100000 in
theorem fr_11_offer  {a0 : Nat} {μ : mm} {r : Int32 × mm} (h : f_11_offer a0 μ = some r) (k0 : kd a0 = 11) : Fc μ r.2 := by
  unfold f_11_offer at h
  obtain ⟨z2, e1, h⟩ := bi_el h
  have t0 := fr_2_leastOffer e1 (ty_9_15 (ty_11_0 k0)) (ty_11_0 k0)
  by_cases hc : z2.1 = (-1)
  · rw [if_pos hc] at h
    obtain rfl := Option.some.inj h
    exact (t0)
  · rw [if_neg hc] at h
    obtain rfl := Option.some.inj h
    exact (t0)
set_option maxRecDepth 100000 in
theorem fr_11_sheet  {a0 : Nat} {a1 : Int32} {a2 : Int32} {a3 : Int32} {μ : mm} {r : Int32 × mm} (h : f_11_sheet a0 a1 a2 a3 μ = some r) (k0 : kd a0 = 11) : Fc μ r.2 := by
  unfold f_11_sheet at h
  obtain ⟨x2, e1, h⟩ := bi_el h
  by_cases hc : x2 = 0
  · rw [if_pos hc] at h
    obtain rfl := Option.some.inj h
    exact Fc_rf
  · rw [if_neg hc] at h
    obtain ⟨x4, e3, h⟩ := bi_el h
    by_cases hc : x4 = 0
    · rw [if_pos hc] at h
      obtain rfl := Option.some.inj h
      exact Fc_rf
    · rw [if_neg hc] at h
      by_cases hc : a2 = (-1)
      · rw [if_pos hc] at h
        obtain ⟨μ13, e14, h⟩ := bi_el h
        have t0 := Fc_sto (ow_11_11 k0) e14
        obtain rfl := Option.some.inj h
        exact (t0)
      · rw [if_neg hc] at h
        by_cases hc : a3 ≤ 40
        · rw [if_pos hc] at h
          by_cases hc : 0 ≤ a3
          · rw [if_pos hc] at h
            obtain ⟨μ5, e6, h⟩ := bi_el h
            have t0 := Fc_sto (ow_11_11 k0) e6
            obtain ⟨μ7, e8, h⟩ := bi_el h
            have t1 := Fc_sto (ow_11_12 k0) e8
            obtain ⟨r9, e10, h⟩ := bi_el h
            obtain ⟨μ12, e11, h⟩ := bi_el h
            have t2 := Fc_of_l (ow_l e10 (ty_11_13 k0)) (fr_J7_fill e11 (tl_23 e10 (ty_11_13 k0)))
            obtain rfl := Option.some.inj h
            exact (Fc_tr (t0) (Fc_tr (t1) (t2)))
          · rw [if_neg hc] at h
            obtain rfl := Option.some.inj h
            exact Fc_rf
        · rw [if_neg hc] at h
          obtain rfl := Option.some.inj h
          exact Fc_rf
set_option maxRecDepth 100000 in
theorem fr_11_put  {a0 : Nat} {a1 : Int32} {a2 : Int32} {a3 : Int32} {μ : mm} {r : Int32 × mm} (h : f_11_put a0 a1 a2 a3 μ = some r) (k0 : kd a0 = 11) : Fc μ r.2 := by
  unfold f_11_put at h
  obtain ⟨x2, e1, h⟩ := bi_el h
  by_cases hc : x2 = 0
  · rw [if_pos hc] at h
    obtain rfl := Option.some.inj h
    exact Fc_rf
  · rw [if_neg hc] at h
    obtain ⟨x3, e4, h⟩ := bi_el h
    by_cases hc : x3 = (-1)
    · rw [if_pos hc] at h
      obtain rfl := Option.some.inj h
      exact Fc_rf
    · rw [if_neg hc] at h
      obtain ⟨x5, e6, h⟩ := bi_el h
      obtain ⟨x8, e7, h⟩ := bi_el h
      by_cases hc : x8 = 0
      · rw [if_pos hc] at h
        obtain rfl := Option.some.inj h
        exact Fc_rf
      · rw [if_neg hc] at h
        obtain ⟨r9, e10, h⟩ := bi_el h
        obtain ⟨x11, e12, h⟩ := bi_el h
        obtain ⟨x14, e13, h⟩ := bi_el h
        obtain ⟨μ15, e16, h⟩ := bi_el h
        have t0 := Fc_sto (ow_l e10 (ty_11_13 k0)) e16
        obtain rfl := Option.some.inj h
        exact (t0)
set_option maxRecDepth 100000 in
theorem fr_11_comes  {a0 : Nat} {a1 : Int32} {a2 : Int32} {μ : mm} {r : Int32 × mm} (h : f_11_comes a0 a1 a2 μ = some r) (k0 : kd a0 = 11) : Fc μ r.2 := by
  unfold f_11_comes at h
  obtain ⟨x2, e1, h⟩ := bi_el h
  by_cases hc : x2 = 0
  · rw [if_pos hc] at h
    obtain rfl := Option.some.inj h
    exact Fc_rf
  · rw [if_neg hc] at h
    obtain ⟨x4, e3, h⟩ := bi_el h
    by_cases hc : 0 ≤ x4
    · rw [if_pos hc] at h
      obtain ⟨r5, e6, h⟩ := bi_el h
      obtain ⟨x7, e8, h⟩ := bi_el h
      obtain ⟨x9, e10, h⟩ := bi_el h
      obtain ⟨x11, e12, h⟩ := bi_el h
      obtain ⟨x13, e14, h⟩ := bi_el h
      obtain ⟨x15, e16, h⟩ := bi_el h
      obtain ⟨z18, e17, h⟩ := bi_el h
      have t0 := fr_11_household e17 k0
      obtain rfl := Option.some.inj h
      exact (t0)
    · rw [if_neg hc] at h
      obtain rfl := Option.some.inj h
      exact Fc_rf
set_option maxRecDepth 100000 in
theorem fr_11_holdRow  {a0 : Nat} {a1 : Int32} {a2 : Int32} {μ : mm} {r : Int32 × mm} (h : f_11_holdRow a0 a1 a2 μ = some r) (k0 : kd a0 = 11) : Fc μ r.2 := by
  unfold f_11_holdRow at h
  obtain ⟨x1, e2, h⟩ := bi_el h
  obtain ⟨z3, hz3, h⟩ := bi_el h
  obtain ⟨z4, hz4, h⟩ := bi_el h
  obtain ⟨μ5, e6, h⟩ := bi_el h
  have t0 := Fc_sto (ow_11_14 k0) e6
  obtain ⟨x7, e8, h⟩ := bi_el h
  obtain ⟨μ9, e10, h⟩ := bi_el h
  have t1 := Fc_sto (ow_11_15 k0) e10
  obtain ⟨x11, e12, h⟩ := bi_el h
  obtain ⟨μ13, e14, h⟩ := bi_el h
  have t2 := Fc_sto (ow_11_16 k0) e14
  obtain rfl := Option.some.inj h
  exact (Fc_tr (t0) (Fc_tr (t1) (t2)))
set_option maxRecDepth 100000 in
theorem fr_11_holdThing  {a0 : Nat} {a1 : Int32} {a2 : Int32} {a3 : Int32} {a4 : Int32} {μ : mm} {r : Int32 × mm} (h : f_11_holdThing a0 a1 a2 a3 a4 μ = some r) (k0 : kd a0 = 11) : Fc μ r.2 := by
  unfold f_11_holdThing at h
  by_cases hc : a4 = 0
  · rw [if_pos hc] at h
    obtain rfl := Option.some.inj h
    exact Fc_rf
  · rw [if_neg hc] at h
    obtain ⟨μ1, e2, h⟩ := bi_el h
    have t0 := Fc_sto (ow_11_14 k0) e2
    obtain ⟨μ3, e4, h⟩ := bi_el h
    have t1 := Fc_sto (ow_11_15 k0) e4
    obtain rfl := Option.some.inj h
    exact (Fc_tr (t0) (t1))
set_option maxRecDepth 100000 in
theorem fr_11_shelf  {a0 : Nat} {a1 : Int32} {a2 : Int32} {a3 : Int32} {μ : mm} {r : Int32 × mm} (h : f_11_shelf a0 a1 a2 a3 μ = some r) (k0 : kd a0 = 11) : Fc μ r.2 := by
  unfold f_11_shelf at h
  obtain ⟨x2, e1, h⟩ := bi_el h
  by_cases hc : x2 = 0
  · rw [if_pos hc] at h
    obtain rfl := Option.some.inj h
    exact Fc_rf
  · rw [if_neg hc] at h
    by_cases hs0 : a2 = 0
    · rw [if_pos hs0] at h
      obtain ⟨x4, e3, h⟩ := bi_el h
      obtain ⟨z6, e5, h⟩ := bi_el h
      have t0 := fr_11_holdThing e5 k0
      obtain rfl := Option.some.inj h
      exact (t0)
    rw [if_neg hs0] at h
    by_cases hs1 : a2 = 1
    · rw [if_pos hs1] at h
      obtain ⟨x8, e7, h⟩ := bi_el h
      obtain ⟨z10, e9, h⟩ := bi_el h
      have t0 := fr_11_holdThing e9 k0
      obtain rfl := Option.some.inj h
      exact (t0)
    rw [if_neg hs1] at h
    by_cases hs2 : a2 = 2
    · rw [if_pos hs2] at h
      obtain ⟨x12, e11, h⟩ := bi_el h
      obtain ⟨z14, e13, h⟩ := bi_el h
      have t0 := fr_11_holdThing e13 k0
      obtain rfl := Option.some.inj h
      exact (t0)
    rw [if_neg hs2] at h
    by_cases hs3 : a2 = 3
    · rw [if_pos hs3] at h
      obtain ⟨x16, e15, h⟩ := bi_el h
      by_cases hc : x16 = 0
      · rw [if_pos hc] at h
        obtain rfl := Option.some.inj h
        exact Fc_rf
      · rw [if_neg hc] at h
        obtain ⟨z18, e17, h⟩ := bi_el h
        have t0 := fr_11_holdRow e17 k0
        obtain rfl := Option.some.inj h
        exact (t0)
    rw [if_neg hs3] at h
    by_cases hs4 : a2 = 4
    · rw [if_pos hs4] at h
      obtain ⟨z20, e19, h⟩ := bi_el h
      have t0 := fr_11_holdThing e19 k0
      obtain rfl := Option.some.inj h
      exact (t0)
    rw [if_neg hs4] at h
    obtain rfl := Option.some.inj h
    exact Fc_rf
set_option maxRecDepth 100000 in
theorem fr_0_forget  {a0 : Nat} {μ : mm} {r : mm} (h : f_0_forget a0 μ = some r) (k0 : kd a0 = 0) : Fc μ r := by
  unfold f_0_forget at h
  obtain ⟨μ1, e2, h⟩ := bi_el h
  have t0 := Fc_pf (ow_kd_0 k0) e2
  obtain rfl := Option.some.inj h
  exact (t0)
set_option maxRecDepth 100000 in
theorem fr_0_meet  {a0 : Nat} {a1 : Int32} {a2 : Int32} {a3 : Int32} {a4 : Int32} {μ : mm} {r : mm} (h : f_0_meet a0 a1 a2 a3 a4 μ = some r) (k0 : kd a0 = 0) : Fc μ r := by
  unfold f_0_meet at h
  obtain ⟨μ1, e2, h⟩ := bi_el h
  have t0 := Fc_pf (ow_kd_0 k0) e2
  obtain ⟨μ3, e4, h⟩ := bi_el h
  have t1 := Fc_pf (ow_kd_0 k0) e4
  obtain ⟨μ5, e6, h⟩ := bi_el h
  have t2 := Fc_pf (ow_kd_0 k0) e6
  obtain ⟨μ7, e8, h⟩ := bi_el h
  have t3 := Fc_pf (ow_kd_0 k0) e8
  obtain rfl := Option.some.inj h
  exact (Fc_tr (t0) (Fc_tr (t1) (Fc_tr (t2) (t3))))
set_option maxRecDepth 100000 in
theorem fr_0_begin  {a0 : Nat} {a1 : Int32} {μ : mm} {r : mm} (h : f_0_begin a0 a1 μ = some r) (k0 : kd a0 = 0) : Fc μ r := by
  unfold f_0_begin at h
  by_cases hc : 30 ≤ (μ a0 1)
  · rw [if_pos hc] at h
    obtain rfl := Option.some.inj h
    exact Fc_rf
  · rw [if_neg hc] at h
    obtain ⟨μ1, e2, h⟩ := bi_el h
    have t0 := Fc_sto (ow_0_0 k0) e2
    obtain ⟨μ3, e4, h⟩ := bi_el h
    have t1 := Fc_pf (ow_kd_0 k0) e4
    obtain rfl := Option.some.inj h
    exact (Fc_tr (t0) (t1))
set_option maxRecDepth 100000 in
theorem fr_0_eats_b (rc : Nat → Nat → Int32 → Int32 → mm → Option (Int32 × mm)) (hrc0 : ∀ {b0 : Nat} {x0 : Int32} {x1 : Int32} {μ : mm} {r : Int32 × mm}, rc 0 b0 x0 x1 μ = some r → kd b0 = 0 → Fc μ r.2)  {a0 : Nat} {a1 : Int32} {a2 : Int32} {μ : mm} {r : Int32 × mm} (h : f_0_eats_b rc a0 a1 a2 μ = some r) (k0 : kd a0 = 0) : Fc μ r.2 := by
  unfold f_0_eats_b at h
  by_cases hs1 : a1 = 1
  · rw [if_pos hs1] at h
    obtain ⟨μ2, e1, h⟩ := bi_el h
    have t0 := fr_0_begin e1 k0
    obtain ⟨z4, e3, h⟩ := bi_el h
    have t1 := hrc0 e3 k0
    obtain rfl := Option.some.inj h
    exact (Fc_tr (t0) (t1))
  rw [if_neg hs1] at h
  by_cases hs4 : a1 = 4
  · rw [if_pos hs4] at h
    obtain ⟨μ6, e5, h⟩ := bi_el h
    have t0 := fr_0_begin e5 k0
    obtain ⟨z8, e7, h⟩ := bi_el h
    have t1 := hrc0 e7 k0
    obtain rfl := Option.some.inj h
    exact (Fc_tr (t0) (t1))
  rw [if_neg hs4] at h
  by_cases hs5 : a1 = 5
  · rw [if_pos hs5] at h
    obtain ⟨z10, e9, h⟩ := bi_el h
    have t0 := hrc0 e9 k0
    obtain rfl := Option.some.inj h
    exact (t0)
  rw [if_neg hs5] at h
  by_cases hs6 : a1 = 6
  · rw [if_pos hs6] at h
    obtain ⟨μ12, e11, h⟩ := bi_el h
    have t0 := fr_0_begin e11 k0
    obtain ⟨z14, e13, h⟩ := bi_el h
    have t1 := hrc0 e13 k0
    obtain rfl := Option.some.inj h
    exact (Fc_tr (t0) (t1))
  rw [if_neg hs6] at h
  obtain ⟨μ16, e15, h⟩ := bi_el h
  have t0 := fr_0_begin e15 k0
  obtain rfl := Option.some.inj h
  exact (t0)
set_option maxRecDepth 100000 in
theorem fr_0_eats_G : ∀ n : Nat, (∀ {b0 : Nat} {x0 : Int32} {x1 : Int32} {μ : mm} {r : Int32 × mm}, f_0_eats_G n 0 b0 x0 x1 μ = some r → kd b0 = 0 → Fc μ r.2) ∧ True
  | 0 => by
    refine ⟨?_, trivial⟩
    · intro b0 x0 x1 μ r h kb
      rw [f_0_eats_G] at h
      cases h
  | n + 1 => by
    obtain ⟨i0, -⟩ := fr_0_eats_G n
    refine ⟨?_, trivial⟩
    · intro b0 x0 x1 μ r h kb
      simp only [f_0_eats_G, if_pos] at h
      exact fr_0_eats_b (rc := f_0_eats_G n) (fun h k => i0 h k) h kb
set_option maxRecDepth 100000 in
theorem fr_0_eats_G_0 (n : Nat) {b0 : Nat} {x0 : Int32} {x1 : Int32} {μ : mm} {r : Int32 × mm} (h : f_0_eats_G n 0 b0 x0 x1 μ = some r) (kb : kd b0 = 0) : Fc μ r.2 := (fr_0_eats_G n).1 h kb
set_option maxRecDepth 100000 in
theorem fr_0_owes_b (rc : Nat → Nat → Int32 → Int32 → mm → Option (Int32 × mm)) (hrc0 : ∀ {b0 : Nat} {x0 : Int32} {x1 : Int32} {μ : mm} {r : Int32 × mm}, rc 0 b0 x0 x1 μ = some r → kd b0 = 0 → Fc μ r.2)  {a0 : Nat} {a1 : Int32} {a2 : Int32} {μ : mm} {r : Int32 × mm} (h : f_0_owes_b rc a0 a1 a2 μ = some r) (k0 : kd a0 = 0) : Fc μ r.2 := by
  unfold f_0_owes_b at h
  by_cases hs2 : a1 = 2
  · rw [if_pos hs2] at h
    obtain ⟨μ2, e1, h⟩ := bi_el h
    have t0 := fr_0_begin e1 k0
    obtain ⟨z4, e3, h⟩ := bi_el h
    have t1 := hrc0 e3 k0
    obtain rfl := Option.some.inj h
    exact (Fc_tr (t0) (t1))
  rw [if_neg hs2] at h
  by_cases hs5 : a1 = 5
  · rw [if_pos hs5] at h
    obtain ⟨μ6, e5, h⟩ := bi_el h
    have t0 := fr_0_begin e5 k0
    obtain ⟨z8, e7, h⟩ := bi_el h
    have t1 := hrc0 e7 k0
    obtain rfl := Option.some.inj h
    exact (Fc_tr (t0) (t1))
  rw [if_neg hs5] at h
  obtain ⟨μ10, e9, h⟩ := bi_el h
  have t0 := fr_0_begin e9 k0
  obtain ⟨z12, e11, h⟩ := bi_el h
  have t1 := fr_0_eats_G_0 _ e11 k0
  obtain rfl := Option.some.inj h
  exact (Fc_tr (t0) (t1))
