/-! the call days -/
theorem so_2 : ∀ k, k < 18 → so k = 12 → k = 2 ∨ k = 4 ∨ k = 14 := by decide +kernel
set_option maxHeartbeats 1000000 in
theorem works_rel {v t : Nat} {μ ν : mm} (hB : VB v μ ν) (ht : t ≤ 999) (e0 : ν 1 0 = nI t) (h9 : ∀ j, j < nn (ν 1 14) → (nI t ≤ ν 1 (843 + 2 * j) ∧ ν 1 (843 + 2 * j) ≤ 999) ∧ (1 ≤ ν 1 (844 + 2 * j) ∧ ν 1 (844 + 2 * j) ≤ 9999)) : ∃ μ' ν', f_10_goOn (v + 12) (nI t) μ = some μ' ∧ f_12_worksGo 0 1 ν = some ν' ∧ VB v μ' ν' ∧ I9 (ν' 1) ∧ (∀ b, (b < v ∨ v + 94 ≤ b) → μ' b = μ b) ∧ (∀ b, b ≠ 1 → ν' b = ν b) ∧ ν' 1 0 = nI t ∧ μ' v = μ v := by
  have hN := JV_nn hB.2.2
  obtain ⟨hv, ⟨v1, v2, v3, v4, v5, v6, v7, v8, v9, v10, v11, v12⟩, j1, i2, i3, i4, i5, i6, i7, i8, i10, i11, i12⟩ := hB
  obtain ⟨n, hn, en, nnn⟩ := cnt_of (m := 6) (by decide) i2.2.2.2.2.2.2.1
  obtain ⟨st, hst, est, -⟩ := cnt_of (m := 99999) (by decide) j1.2.2.1
  obtain ⟨bu, hbu, ebu, -⟩ := cnt_of (m := 999) (by decide) j1.2.2.2.2.1
  have em : μ (v + 12) 2 = nI n := (v1 14 (by decide)).symm.trans en
  have ems : μ (v + 12) 0 = nI st := (v1 2 (by decide)).symm.trans est
  have emb : μ (v + 12) 1 = nI bu := (v1 4 (by decide)).symm.trans ebu
  have hmx : mx 0 (nI st - nI bu) = nI (st - bu) := mx0_nI (by omega) (by omega)
  have hr : ∀ j, j < n → (nI t ≤ ν 1 (843 + 2 * j) ∧ ν 1 (843 + 2 * j) ≤ 999) ∧ (1 ≤ ν 1 (843 + 2 * j + 1) ∧ ν 1 (843 + 2 * j + 1) ≤ 9999) := fun j hj => by
    have := h9 j (by omega)
    rw [show 844 + 2 * j = 843 + 2 * j + 1 from by omega] at this
    exact this
  have hv8 : ∀ j, j < n → ν 1 (843 + 2 * j) = μ (v + 13) j ∧ ν 1 (843 + 2 * j + 1) = μ (v + 14) j := fun j hj => v8 j (by omega)
  have c15 := C_l15 (g := ν 1) (d := nI t) hv hn em hv8 n 0 FU (nI (st - bu)) (by omega) (show n < 2000 by omega)
  obtain ⟨a', ν2, g1, g2, g3, g4, g5, g6, -⟩ := M_l27 (g0 := ν 1) hn (show t < 2000 by omega) hr n 0 0 FU (nI (st - bu)) (up ν 1 2 (nI (st - bu))) (by omega) (by omega) (show n < 2000 by omega) (by rw [up_ns (by decide)]; exact en) (by rw [up_ns (by decide)]; exact e0) up_at (fun j _ _ => ⟨up_ns (by omega), up_ns (by omega)⟩) (fun j hj => absurd hj (by omega))
  obtain ⟨μ2, k1, k2, k3⟩ := keep_rel (t := t) hv hn (by omega) n 0 0 FU FU a' (up μ (v + 12) 0 (fo (ν 1) (nI t) n 0 (nI (st - bu)))) (up ν 1 2 (nI (st - bu))) ν2 (by omega) (by omega) (show n < 2000 by omega) (show n < 2000 by omega) (by rw [up_ns (by decide)]; exact em) (by rw [up_ns (by decide)]; exact en) (by rw [up_ns (by decide)]; exact e0) (fun j _ hj => by rw [up_ns (a := 1) (by omega), up_ns (a := 1) (by omega), up_nc (a := v + 12) (by omega), up_nc (a := v + 12) (by omega)]; exact hv8 j hj) (fun j hj => absurd hj (by omega)) g2 g1
  have fr := fo_rg (g := ν 1) (d := nI t) n 0 (nI (st - bu)) (le_lit (m := 99999) (by omega) (by decide)) (fun j _ hj => (hr j (by omega)).2)
  rw [show nI 0 = 0 from rfl] at c15 g1 k1
  have kf : ∀ k, k ≠ 2 → k ≠ 14 → ¬ (843 ≤ k ∧ k < 855) → up ν2 1 14 (nI a') 1 k = ν 1 k := fun k q1 q2 q3 => by rw [up_ns q2, g5 k q1 q3, up_ns q1]
  have mf : ∀ b, b ≠ v + 12 → b ≠ v + 13 → b ≠ v + 14 → up μ2 (v + 12) 2 (nI a') b = μ b := fun b q1 q2 q3 => by rw [up_ne q1, k2 b q2 q3, up_ne q1]
  have m0 : up μ2 (v + 12) 2 (nI a') (v + 12) 0 = fo (ν 1) (nI t) n 0 (nI (st - bu)) := by rw [up_ns (by decide), k2 _ (by omega) (by omega), up_at]
  have m1 : up μ2 (v + 12) 2 (nI a') (v + 12) 1 = μ (v + 12) 1 := by rw [up_ns (by decide), k2 _ (by omega) (by omega), up_ns (by decide)]
  have n2 : up ν2 1 14 (nI a') 1 2 = fo (ν 1) (nI t) n 0 (nI (st - bu)) := by rw [up_ns (by decide), g3]
  refine ⟨up μ2 (v + 12) 2 (nI a'), up ν2 1 14 (nI a'), ?_, ?_, ⟨hv, ⟨?_, ?_, ?_, ?_, ?_, ?_, ?_, ?_, ?_, ?_, ?_, ?_⟩, ?_⟩, ?_, fun b hb => mf b (by omega) (by omega) (by omega), fun b hb => by rw [up_ne hb, g4 b hb, up_ne hb], by rw [kf 0 (by omega) (by omega) (by omega)]; exact e0, mf v (by omega) (by omega) (by omega)⟩
  · unfold f_10_goOn f_10_stockAfter
    rw [ems, emb, hmx, c15, Option.bind_some, Option.bind_some, pf_eq, Option.bind_some, k1, Option.bind_some]
    dsimp only
    rw [pf_eq, Option.bind_some]
  · unfold f_12_worksGo
    rw [rf_0_0, l_2, est, Option.bind_some, l_4, ebu, Option.bind_some, hmx, s_2, Option.bind_some, g1, Option.bind_some]
    dsimp only
    rw [if_neg (by decide), Option.bind_some, s_14, Option.bind_some]
  · intro k hk
    have hs := so_in18 k hk
    by_cases e12 : so k = 12
    · rcases so_2 k hk e12 with rfl | rfl | rfl
      · rw [n2]; exact m0.symm
      · rw [kf 4 (by omega) (by omega) (by omega)]
        show _ = up μ2 (v + 12) 2 (nI a') (v + 12) 1
        rw [m1]; exact v1 4 (by decide)
      · rw [up_at]
        show _ = up μ2 (v + 12) 2 (nI a') (v + 12) 2
        rw [up_at]
    · rw [kf k (fun z => e12 (by rw [z]; rfl)) (fun z => e12 (by rw [z]; rfl)) (by omega), mf _ (by omega) (by omega) (by omega)]
      exact v1 k hk
  · exact V2_cg hN (fun k a => kf k (by omega) (by omega) (by omega)) (fun b a => mf b (by omega) (by omega) (by omega)) v2
  · exact V3_cg hN (fun k a => kf k (by omega) (by omega) (by omega)) (fun b a => mf b (by omega) (by omega) (by omega)) v3
  · exact V4_cg hN (fun k a => kf k (by omega) (by omega) (by omega)) (fun b a => mf b (by omega) (by omega) (by omega)) v4
  · exact V5_cg hN (fun k a => kf k (by omega) (by omega) (by omega)) (fun b a => mf b (by omega) (by omega) (by omega)) v5
  · exact V6_cg hN (fun k a => kf k (by omega) (by omega) (by omega)) (fun b a => mf b (by omega) (by omega) (by omega)) v6
  · exact V7_cg hN (fun k a => kf k (by omega) (by omega) (by omega)) (fun b a => mf b (by omega) (by omega) (by omega)) v7
  · intro j hj
    rw [up_at, nn_nI (by omega)] at hj
    rw [up_ns (a := 1) (by omega), up_ns (a := 1) (by omega), up_nc (a := v + 12) (by omega), up_nc (a := v + 12) (by omega)]
    exact k3 j hj
  · exact V9_cg hN (fun k a => kf k (by omega) (by omega) (by omega)) (fun b a => mf b (by omega) (by omega) (by omega)) v9
  · exact V10_cg hN (fun k a => kf k (by omega) (by omega) (by omega)) (fun b a => mf b (by omega) (by omega) (by omega)) v10
  · exact V11_cg hN (fun k a => kf k (by omega) (by omega) (by omega)) (fun b a => mf b (by omega) (by omega) (by omega)) v11
  · exact V12_cg hN (fun k a => kf k (by omega) (by omega) (by omega)) (fun b a => mf b (by omega) (by omega) (by omega)) v12
  · refine ⟨?_, ?_, I3_cg hN (fun k a => kf k (by omega) (by omega) (by omega)) i3, I4_cg hN (fun k a => kf k (by omega) (by omega) (by omega)) i4, I5_cg hN (fun k a => kf k (by omega) (by omega) (by omega)) i5, I6_cg hN (fun k a => kf k (by omega) (by omega) (by omega)) i6, I7_cg hN (fun k a => kf k (by omega) (by omega) (by omega)) i7, I8_cg hN (fun k a => kf k (by omega) (by omega) (by omega)) i8, I10_cg hN (fun k a => kf k (by omega) (by omega) (by omega)) i10, I11_cg hN (fun k a => kf k (by omega) (by omega) (by omega)) i11, I12_cg hN (fun k a => kf k (by omega) (by omega) (by omega)) i12⟩
    · rw [n2, kf 0 (by omega) (by omega) (by omega), kf 1 (by omega) (by omega) (by omega), kf 3 (by omega) (by omega) (by omega), kf 4 (by omega) (by omega) (by omega), kf 5 (by omega) (by omega) (by omega), kf 6 (by omega) (by omega) (by omega), kf 7 (by omega) (by omega) (by omega)]
      exact ⟨j1.1, j1.2.1, fr, j1.2.2.2⟩
    · unfold I2
      rw [up_at, kf 8 (by omega) (by omega) (by omega), kf 9 (by omega) (by omega) (by omega), kf 10 (by omega) (by omega) (by omega), kf 11 (by omega) (by omega) (by omega), kf 12 (by omega) (by omega) (by omega), kf 13 (by omega) (by omega) (by omega), kf 15 (by omega) (by omega) (by omega), kf 16 (by omega) (by omega) (by omega), kf 17 (by omega) (by omega) (by omega)]
      exact ⟨i2.1, i2.2.1, i2.2.2.1, i2.2.2.2.1, i2.2.2.2.2.1, i2.2.2.2.2.2.1, le_lit (m := 6) (by omega) (by decide), i2.2.2.2.2.2.2.2⟩
  · intro j hj
    rw [up_at, nn_nI (by omega)] at hj
    rw [kf 0 (by omega) (by omega) (by omega), e0, up_ns (by omega), up_ns (by omega), show 844 + 2 * j = 843 + 2 * j + 1 from by omega]
    exact g6 j hj
theorem PL_VB {v n : Nat} {μ0 ν0 μ ν : mm} (hB : VB v μ0 ν0) (hP : PL v n n μ0 ν0 μ ν) : VB v μ ν := by
  have hN := JV_nn hB.2.2
  obtain ⟨hv, ⟨w1, w2, w3, w4, w5, w6, w7, w8, w9, w10, w11, w12⟩, j1, i2, i3, i4, i5, i6, i7, i8, i10, i11, i12⟩ := hB
  obtain ⟨b1, b2, b3, p3, p4, -⟩ := hP
  refine ⟨hv, ⟨V1_cg hN (fun k a => b3 k (by omega)) (fun b a => b1 b (by omega)) w1, V2_cg hN (fun k a => b3 k (by omega)) (fun b a => b1 b (by omega)) w2, p3, V4_cg hN (fun k a => b3 k (by omega)) (fun b a => b1 b (by omega)) w4, V5_cg hN (fun k a => b3 k (by omega)) (fun b a => b1 b (by omega)) w5, V6_cg hN (fun k a => b3 k (by omega)) (fun b a => b1 b (by omega)) w6, V7_cg hN (fun k a => b3 k (by omega)) (fun b a => b1 b (by omega)) w7, V8_cg hN (fun k a => b3 k (by omega)) (fun b a => b1 b (by omega)) w8, V9_cg hN (fun k a => b3 k (by omega)) (fun b a => b1 b (by omega)) w9, V10_cg hN (fun k a => b3 k (by omega)) (fun b a => b1 b (by omega)) w10, V11_cg hN (fun k a => b3 k (by omega)) (fun b a => b1 b (by omega)) w11, V12_cg hN (fun k a => b3 k (by omega)) (fun b a => b1 b (by omega)) w12⟩, ?_, I2_cg hN (fun k a => b3 k (by omega)) i2, I3_cg hN (fun k a => b3 k (by omega)) i3, p4, I5_cg hN (fun k a => b3 k (by omega)) i5, I6_cg hN (fun k a => b3 k (by omega)) i6, I7_cg hN (fun k a => b3 k (by omega)) i7, I8_cg hN (fun k a => b3 k (by omega)) i8, I10_cg hN (fun k a => b3 k (by omega)) i10, I11_cg hN (fun k a => b3 k (by omega)) i11, I12_cg hN (fun k a => b3 k (by omega)) i12⟩
  rw [b3 0 (by omega), b3 1 (by omega), b3 2 (by omega), b3 3 (by omega), b3 4 (by omega), b3 5 (by omega), b3 6 (by omega), b3 7 (by omega)]
  exact j1
set_option maxHeartbeats 1000000 in
theorem day_rel {v t : Nat} {μ ν : mm} (hB : VB v μ ν) (ht : t + 1 ≤ 999) (e0 : ν 1 0 = nI t) (h9 : I9 (ν 1)) : ∃ μ' ν1 ν2 ν3 ν', f_9_goOn v μ = some μ' ∧ sto ν 1 0 (nI (t + 1)) = some ν1 ∧ f_12_pitsGo 0 ν1 = some ν2 ∧ f_12_valleyGoes 0 1 ν2 = some ν3 ∧ f_12_worksGo 0 1 ν3 = some ν' ∧ VB v μ' ν' ∧ I9 (ν' 1) ∧ ν' 1 0 = nI (t + 1) ∧ (∀ b, (b < v ∨ v + 94 ≤ b) → μ' b = μ b) ∧ (∀ b, b ≠ 1 → ¬ (9 ≤ b ∧ b < 14) → ν' b = ν b) := by
  have hv := hB.1
  have m0 : μ v 0 = nI t := (hB.2.1.1 0 (by decide)).symm.trans e0
  have hT := VB_today hB (show t + 1 ≤ 1200 by omega)
  have n14 : nn (ν 1 14) ≤ 6 := (JV_nn hB.2.2).2.2.2.2.2.1
  obtain ⟨n9, hn9, en9, -⟩ := cnt_of (m := 4) (by decide) hT.2.2.2.1.2.1
  have em9 : up μ v 0 (nI (t + 1)) v 2 = nI n9 := (hT.2.1.1 9 (by decide)).symm.trans en9
  have hR : RS v (up μ v 0 (nI (t + 1))) (up ν 1 0 (nI (t + 1))) := ⟨hv, hT.2.1.2.2.2.2.2.2.2.2.2.2.2⟩
  have nn9 : nn (up ν 1 0 (nI (t + 1)) 1 9) = n9 := by rw [en9, nn_nI (by omega)]
  obtain ⟨μ2, ν2, p1, p2, p3⟩ := pits_rel (t := t + 1) hR hn9 en9 em9 up_at up_at ht rfl (fun p hp z => (hT.2.2.2.2.2.1 p (by omega)).2.2.2.2.2.2.1 z) n9 0 FU FU _ _ (by omega) (show n9 < 2000 by omega) (show n9 < 2000 by omega) ⟨fun _ _ => rfl, fun _ _ => rfl, fun _ _ => rfl, hT.2.1.2.2.1, hT.2.2.2.2.2.1, fun _ _ _ _ => rfl⟩
  rw [show nI 0 = 0 from rfl] at p1 p2
  have hB2 := PL_VB hT p3
  obtain ⟨μ3, ν3, g1, g2, g3, g4, g5, g6⟩ := goes_news hB2
  have kk : ∀ k, k = 0 ∨ k = 14 ∨ 843 ≤ k → ν3 1 k = up ν 1 0 (nI (t + 1)) 1 k := fun k hk => by rw [g6 k (by omega) (by omega), p3.2.2.1 k (by omega)]
  have e3 : ν3 1 0 = nI (t + 1) := by rw [kk 0 (by omega), up_at]
  obtain ⟨μ4, ν4, w1, w2, w3, w4, w5, w6, w7, -⟩ := works_rel g3 (show t + 1 ≤ 999 from ht) e3 (fun j hj => by
      rw [kk 14 (by omega), up_ns (by decide)] at hj
      rw [kk _ (by omega), kk _ (by omega), up_ns (by omega), up_ns (by omega)]
      have q := h9 j hj
      rw [e0] at q
      refine ⟨⟨?_, q.1.2⟩, q.2⟩
      have q1 := q.1.1
      rw [Int32.lt_iff_toInt_lt, nI_toInt (by omega)] at q1
      rw [Int32.le_iff_toInt_le, nI_toInt (by omega)]
      omega)
  refine ⟨μ4, up ν 1 0 (nI (t + 1)), ν2, ν3, ν4, ?_, s_0, ?_, g2, w2, w3, w4, w7, fun b hb => by rw [w5 b hb, g4 b hb, p3.1 b (by omega), up_ne (by omega)], fun b q1 q2 => by rw [w6 b q1, g5 b q1 q2, p3.2.1 b q1, up_ne q1]⟩
  · unfold f_9_goOn
    rw [pf_eq, m0, nI_1, Option.bind_some, C_safety hR, Option.bind_some, p1, Option.bind_some]
    have z0 : μ3 v 0 = nI (t + 1) := (g3.2.1.1 0 (by decide)).symm.trans e3
    have hs : ∃ μ8, f_9_shareIfDue v μ2 = some μ8 ∧ f_9_goOn_l51 v FU 0 μ8 = some μ3 := by
      cases h : f_9_shareIfDue v μ2 with
      | none => rw [h] at g1; cases g1
      | some μ8 => rw [h] at g1; exact ⟨μ8, rfl, g1⟩
    obtain ⟨μ8, s1, s2⟩ := hs
    rw [s1, Option.bind_some, s2, Option.bind_some, rV_0_12 hv, z0, w1, Option.bind_some]
  · unfold f_12_pitsGo
    rw [p2]
    rfl
theorem days_l {n : Nat} {μ0 ν0 : mm} (hn : n ≤ 60) : ∀ (m i f1 f2 t : Nat) (μ ν : mm), i + m = n → m < f1 → m < f2 → t + m ≤ 999 → VB 49 μ ν → I9 (ν 1) → ν 1 0 = nI t → (∀ b, (b < 49 ∨ 143 ≤ b) → μ b = μ0 b) → (∀ b, b ≠ 1 → ¬ (9 ≤ b ∧ b < 14) → ν b = ν0 b) → ∃ μ' ν', f_11_days_l32 23 (nI n) f1 (nI i) μ = some μ' ∧ f_12_days_l31 0 (nI n) f2 (nI i) ν = some ν' ∧ VB 49 μ' ν' ∧ I9 (ν' 1) ∧ ν' 1 0 = nI (t + m) ∧ (∀ b, (b < 49 ∨ 143 ≤ b) → μ' b = μ0 b) ∧ (∀ b, b ≠ 1 → ¬ (9 ≤ b ∧ b < 14) → ν' b = ν0 b) := by
  intro m
  induction m with
  | zero =>
    intro i f1 f2 t μ ν h1 h2 h3 h4 hB h9 e0 hm hk
    obtain ⟨a, rfl⟩ : ∃ a, f1 = a + 1 := ⟨f1 - 1, by omega⟩
    obtain ⟨b, rfl⟩ : ∃ b, f2 = b + 1 := ⟨f2 - 1, by omega⟩
    obtain rfl : i = n := by omega
    refine ⟨μ, ν, ?_, ?_, hB, h9, e0, hm, hk⟩
    · unfold f_11_days_l32
      rw [if_pos (Int32.le_refl _)]
    · unfold f_12_days_l31
      rw [if_pos (Int32.le_refl _)]
  | succ m ih =>
    intro i f1 f2 t μ ν h1 h2 h3 h4 hB h9 e0 hm hk
    obtain ⟨a, rfl⟩ : ∃ a, f1 = a + 1 := ⟨f1 - 1, by omega⟩
    obtain ⟨b, rfl⟩ : ∃ b, f2 = b + 1 := ⟨f2 - 1, by omega⟩
    obtain ⟨μ', ν1, ν2, ν3, ν', g1, g2, g3, g4, g5, g6, g7, g8, g9, g10⟩ := day_rel hB (show t + 1 ≤ 999 by omega) e0 h9
    obtain ⟨μ'', ν'', k1, k2, k3⟩ := ih (i + 1) a b (t + 1) μ' ν' (by omega) (by omega) (by omega) (by omega) g6 g7 g8 (fun b hb => by rw [g9 b (by omega)]; exact hm b hb) (fun b q1 q2 => by rw [g10 b q1 q2]; exact hk b q1 q2)
    rw [show t + 1 + m = t + (m + 1) from by omega] at k3
    refine ⟨μ'', ν'', ?_, ?_, k3⟩
    · unfold f_11_days_l32
      rw [if_neg (lt_n1 (by omega) (by omega)), rf_23_0, g1, Option.bind_some, nI_1]
      exact k1
    · unfold f_12_days_l31
      rw [if_neg (lt_n1 (by omega) (by omega)), rf_0_0, l_0, e0, Option.bind_some, nI_1, g2, Option.bind_some, g3, Option.bind_some, g4, Option.bind_some, g5, Option.bind_some, nI_1]
      exact k2
/-- the model's row 1 and scratch, the valley now, have changed -/
theorem Cp_now2 {μ μ' ν ν' : mm} (h : Cp μ ν) (hm : ∀ b, (b < 49 ∨ 143 ≤ b) → μ' b = μ b) (hn : ∀ b, b ≠ 1 → ¬ (9 ≤ b ∧ b < 14) → ν' b = ν b) (hV : VP 49 μ' (ν' 1)) (hI : IV (ν' 1)) : Cp μ' ν' := by
  have h1 : Cp μ' (fun b => if 9 ≤ b ∧ b < 14 then ν b else ν' b) := by
    refine Cp_now h hm (fun b hb => ?_) ?_ ?_
    · try dsimp only
      by_cases c : 9 ≤ b ∧ b < 14
      · rw [if_pos c]
      · rw [if_neg c]
        exact hn b hb c
    · try dsimp only
      rw [if_neg (by decide)]
      exact hV
    · try dsimp only
      rw [if_neg (by decide)]
      exact hI
  refine Cp_scr h1 (fun _ _ => rfl) rfl (fun b hb => ?_)
  try dsimp only
  rw [if_neg (by omega)]
theorem T_days {μ ν : mm} (a : Int32) (h : Cp μ ν) : Ok (f_11_days 23 a μ) fun z => Ok (f_12_days 0 a ν) fun w => z.1 = w.1 ∧ Cp z.2 w.2 := by
  have e0 : ν 1 0 = μ 49 0 := h.1.1 0 (by decide)
  obtain ⟨t, ht, et, -⟩ := cnt_of (m := 999) (by decide) h.2.1.1.1
  have emt : μ 49 0 = nI t := e0.symm.trans et
  by_cases c1 : 1 ≤ a ∧ a ≤ 60
  · obtain ⟨n, hn, rfl⟩ := nI_of2 (M := 60) (n := 60) (by decide) (Int32.not_lt.mpr (Int32.le_trans (by decide) c1.1)) c1.2
    by_cases c2 : t + n ≤ 999
    · have c3 : nI t + nI n ≤ 999 := by rw [nI_add]; exact nI_le (b := 999) c2 (by decide)
      obtain ⟨μ', ν', g1, g2, g3, g4, g5, g6, g7⟩ := days_l (μ0 := μ) (ν0 := ν) hn n 0 FU FU t μ ν (by omega) (show n < 2000 by omega) (show n < 2000 by omega) c2 ⟨isV_now, h.1, IV_JV h.2.1⟩ h.2.1.2.2.2.2.2.2.2.2.1 et (fun _ _ => rfl) (fun _ _ _ => rfl)
      rw [show nI 0 = 0 from rfl] at g1 g2
      have em' : μ' 49 0 = nI (t + n) := (g3.2.1.1 0 (by decide)).symm.trans g5
      refine Ok_of (y := (nI (t + n), μ')) ?_ (Ok_of (y := (nI (t + n), ν')) ?_ ⟨rfl, Cp_now2 h g6 g7 g3.2.1 (JV_IV g3.2.2 (by show ν' 1 0 ≤ 999; rw [g5]; exact nI_le (b := 999) c2 (by decide)) g4)⟩)
      · unfold f_11_days
        rw [isIn_t c1, Option.bind_some, if_neg (by decide), rf_23_0, emt, if_pos c3, g1, Option.bind_some, em']
      · unfold f_12_days
        rw [within_t c1, Option.bind_some, if_neg (by decide), rf_0_0, l_0, et, Option.bind_some, if_pos c3, g2, Option.bind_some, l_0, g5, Option.bind_some]
    · have c3 : ¬ nI t + nI n ≤ 999 := by rw [nI_add]; exact nI_ge (a := 999) (b := t + n) (by omega) (by omega)
      refine Ok_of (y := (-4, μ)) ?_ (Ok_of (y := (-4, ν)) ?_ ⟨rfl, h⟩)
      · unfold f_11_days
        rw [isIn_t c1, Option.bind_some, if_neg (by decide), rf_23_0, emt, if_neg c3]
      · unfold f_12_days
        rw [within_t c1, Option.bind_some, if_neg (by decide), rf_0_0, l_0, et, Option.bind_some, if_neg c3]
  · exact Ok_of (y := (-1, μ)) (by simp [f_11_days, isIn_f c1]) (Ok_of (y := (-1, ν)) (by simp [f_12_days, within_f c1]) ⟨rfl, h⟩)
