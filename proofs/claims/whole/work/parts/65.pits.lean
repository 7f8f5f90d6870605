/-! a day of the valley: the date, pits, households, works -/
theorem ne_m3 {j : Nat} (h : j < 2 ^ 31) : ¬ nI j = -3 := fun z => absurd (show (0 : Int32) ≤ -3 from z ▸ nI_pos' h) (by decide)
theorem VB_today {v t : Nat} {μ ν : mm} (hB : VB v μ ν) (ht : t ≤ 1200) : VB v (up μ v 0 (nI t)) (up ν 1 0 (nI t)) := by
  have hN := JV_nn hB.2.2
  obtain ⟨hv, ⟨v1, v2, v3, v4, v5, v6, v7, v8, v9, v10, v11, v12⟩, j1, i2, i3, i4, i5, i6, i7, i8, i10, i11, i12⟩ := hB
  have kf : ∀ k, k ≠ 0 → up ν 1 0 (nI t) 1 k = ν 1 k := fun k hk => up_ns hk
  have mf : ∀ b, b ≠ v → up μ v 0 (nI t) b = μ b := fun b hb => up_ne hb
  refine ⟨hv, ⟨?_, ?_, ?_, ?_, ?_, ?_, ?_, ?_, ?_, ?_, ?_, ?_⟩, ?_⟩
  · exact V1_up (k0 := 0) (c := 0) (s := 0) (by decide) rfl rfl (by rw [up_at]; show _ = up μ v 0 (nI t) v 0; rw [up_at]) (fun k a b => kf k b) (fun b j q1 q2 => up_nx q2) v1
  · exact V2_cg hN (fun k a => kf k (by omega)) (fun b a => mf b (by omega)) v2
  · exact V3_cg hN (fun k a => kf k (by omega)) (fun b a => mf b (by omega)) v3
  · exact V4_cg hN (fun k a => kf k (by omega)) (fun b a => mf b (by omega)) v4
  · exact V5_cg hN (fun k a => kf k (by omega)) (fun b a => mf b (by omega)) v5
  · exact V6_cg hN (fun k a => kf k (by omega)) (fun b a => mf b (by omega)) v6
  · exact V7_cg hN (fun k a => kf k (by omega)) (fun b a => mf b (by omega)) v7
  · exact V8_cg hN (fun k a => kf k (by omega)) (fun b a => mf b (by omega)) v8
  · exact V9_cg hN (fun k a => kf k (by omega)) (fun b a => mf b (by omega)) v9
  · exact V10_cg hN (fun k a => kf k (by omega)) (fun b a => mf b (by omega)) v10
  · exact V11_cg hN (fun k a => kf k (by omega)) (fun b a => mf b (by omega)) v11
  · exact V12_cg hN (fun k a => kf k (by omega)) (fun b a => mf b (by omega)) v12
  · refine ⟨?_, I2_cg hN (fun k a => kf k (by omega)) i2, I3_cg hN (fun k a => kf k (by omega)) i3, I4_cg hN (fun k a => kf k (by omega)) i4, I5_cg hN (fun k a => kf k (by omega)) i5, I6_cg hN (fun k a => kf k (by omega)) i6, I7_cg hN (fun k a => kf k (by omega)) i7, I8_cg hN (fun k a => kf k (by omega)) i8, I10_cg hN (fun k a => kf k (by omega)) i10, I11_cg hN (fun k a => kf k (by omega)) i11, I12_cg hN (fun k a => kf k (by omega)) i12⟩
    rw [up_at, kf 1 (by decide), kf 2 (by decide), kf 3 (by decide), kf 4 (by decide), kf 5 (by decide), kf 6 (by decide), kf 7 (by decide)]
    exact ⟨le_lit (m := 1200) ht (by decide), j1.2⟩
theorem goes_news {v : Nat} {μ ν : mm} (hB : VB v μ ν) : ∃ μ' ν', ((f_9_shareIfDue v μ).bind fun μ8 => f_9_goOn_l51 v FU 0 μ8) = some μ' ∧ f_12_valleyGoes 0 1 ν = some ν' ∧ VB v μ' ν' ∧ (∀ b, (b < v ∨ v + 94 ≤ b) → μ' b = μ b) ∧ (∀ b, b ≠ 1 → ¬ (9 ≤ b ∧ b < 14) → ν' b = ν b) ∧ (∀ k, k ≠ 1 → ¬ (84 ≤ k ∧ k < 288) → ν' 1 k = ν 1 k) := by
  obtain ⟨μ1, ν1, g1, g2, g3, g4, g5, g6⟩ := share_rel hB
  obtain ⟨n, hn, en, -⟩ := cnt_of (m := 16) (by decide) g3.2.2.2.1.2.2.2.1
  obtain ⟨n10, hn10, en10, -⟩ := cnt_of (m := 4) (by decide) g3.2.2.2.1.2.2.1
  obtain ⟨μ2, ν2, k1, k2, k3⟩ := eat_news g3 en hn en10 hn10 n 0 FU FU μ1 ν1 (by omega) (show n < 2000 by omega) (show n < 2000 by omega) (EL_0 g3 en hn)
  obtain ⟨ν3, s1, s2, s3, s4⟩ := eaten g3 en hn k3
  rw [show nI 0 = 0 from rfl] at k1 k2
  refine ⟨μ2, ν3, ?_, ?_, s2, fun b hb => by rw [k3.1 b (by omega), g4 b hb], fun b q1 q2 => by rw [s3 b q1, g5 b q1 q2], fun k q1 q2 => by rw [s4 k q2, g6 k q1 (by omega)]⟩
  · rw [g1, Option.bind_some, k1]
  · unfold f_12_valleyGoes
    rw [rf_0_0, l_0, Option.bind_some, g2, Option.bind_some, k2, Option.bind_some, s1]
    rfl
theorem goes_calm {v : Nat} {μ ν : mm} {c2 : Int32} (hB : VB v μ ν) : ∃ μ' ν', ((f_9_shareIfDue v μ).bind fun μ8 => f_9_holdOut_l49 v c2 FU 0 μ8) = some μ' ∧ f_12_valleyGoes 0 0 ν = some ν' ∧ VB v μ' ν' ∧ (∀ b, (b < v ∨ v + 94 ≤ b) → μ' b = μ b) ∧ (∀ b, b ≠ 1 → ¬ (9 ≤ b ∧ b < 14) → ν' b = ν b) ∧ (∀ k, k ≠ 1 → ¬ (84 ≤ k ∧ k < 288) → ν' 1 k = ν 1 k) := by
  obtain ⟨μ1, ν1, g1, g2, g3, g4, g5, g6⟩ := share_rel hB
  obtain ⟨n, hn, en, -⟩ := cnt_of (m := 16) (by decide) g3.2.2.2.1.2.2.2.1
  obtain ⟨n10, hn10, en10, -⟩ := cnt_of (m := 4) (by decide) g3.2.2.2.1.2.2.1
  obtain ⟨μ2, ν2, k1, k2, k3⟩ := eat_calm (c2 := c2) g3 en hn en10 hn10 n 0 FU FU μ1 ν1 (by omega) (show n < 2000 by omega) (show n < 2000 by omega) (EL_0 g3 en hn)
  obtain ⟨ν3, s1, s2, s3, s4⟩ := eaten g3 en hn k3
  rw [show nI 0 = 0 from rfl] at k1 k2
  refine ⟨μ2, ν3, ?_, ?_, s2, fun b hb => by rw [k3.1 b (by omega), g4 b hb], fun b q1 q2 => by rw [s3 b q1, g5 b q1 q2], fun k q1 q2 => by rw [s4 k q2, g6 k q1 (by omega)]⟩
  · rw [g1, Option.bind_some, k1]
  · unfold f_12_valleyGoes
    rw [rf_0_0, l_0, Option.bind_some, g2, Option.bind_some, k2, Option.bind_some, s1]
    rfl
/-- pits before i have filled -/
def PL (v n i : Nat) (μ0 ν0 μ ν : mm) : Prop := (∀ b, ¬ (v + 52 ≤ b ∧ b < v + 56) → μ b = μ0 b) ∧ (∀ b, b ≠ 1 → ν b = ν0 b) ∧ (∀ k, ¬ (56 ≤ k ∧ k < 84) → ν 1 k = ν0 1 k) ∧ V3 v μ (ν 1) ∧ I4 (ν 1) ∧ (∀ p f, p < n → (f = 0 ∨ f = 2 ∨ f = 3 ∨ f = 4 ∨ f = 6) → ν 1 (56 + 7 * p + f) = ν0 1 (56 + 7 * p + f))
theorem RS_pit {v : Nat} {μ μ' ν ν' : mm} (h : RS v μ ν) (hm : ∀ b, ¬ (v + 52 ≤ b ∧ b < v + 56) → μ' b = μ b) (hk : ∀ k, ¬ (56 ≤ k ∧ k < 84) → ν' 1 k = ν 1 k) : RS v μ' ν' := ⟨h.1, fun s hs => RC_congr hs (fun k a b => hk k (by omega)) (fun b a c => hm b (by omega)) (h.2 s hs)⟩
theorem noS_cg {g g' : Nat → Int32} {s : Nat} {srt w : Int32} (hs : s < 3) (hn : nn (g (288 + 161 * s)) ≤ 10) (hk : ∀ k, 288 ≤ k → g' k = g k) : noS g' s srt w = noS g s srt w := by
  have key : ∀ m l, foS g' s srt m l = foS g s srt m l := by
    intro m
    induction m with
    | zero => intro l; rfl
    | succ m ih =>
      intro l
      unfold foS
      rw [hk _ (by omega), ih]
  unfold noS foF
  rw [hk (288 + 161 * s) (by omega), key, hk _ (by omega)]
set_option maxHeartbeats 1000000 in
theorem pits_rel {v n t : Nat} {μ0 ν0 : mm} {S : Int32} (hR : RS v μ0 ν0) (hn : n ≤ 4) (en : ν0 1 9 = nI n) (em : μ0 v 2 = nI n) (e0 : ν0 1 0 = nI t) (e0' : μ0 v 0 = nI t) (ht : t ≤ 999) (hS : S = mn (noS (ν0 1) 0 2 0) (noS (ν0 1) 2 2 0)) (hw : ∀ p, p < n → ν0 1 (61 + 7 * p) = -3 → ν0 1 (57 + 7 * p) ≤ ν0 1 (60 + 7 * p)) : ∀ (m i f1 f2 : Nat) (μ ν : mm), i + m = n → m < f1 → m < f2 → PL v n i μ0 ν0 μ ν → ∃ μ' ν', f_9_goOn_l17 v S f1 (nI i) μ = some μ' ∧ f_12_pitsGo_l2 0 f2 (nI i) ν = some ν' ∧ PL v n n μ0 ν0 μ' ν' := by
  have hv := hR.1
  have hc0 : nn (ν0 1 (288 + 161 * 0)) ≤ 10 := by obtain ⟨q, hq, -, e, -⟩ := cntS hR (s := 0) (by decide); omega
  have hc2 : nn (ν0 1 (288 + 161 * 2)) ≤ 10 := by obtain ⟨q, hq, -, e, -⟩ := cntS hR (s := 2) (by decide); omega
  have hS1 : 0 ≤ S ∧ S ≤ 999 := by
    have a := no_rg (s := 0) (srt := 2) (w := 0) hR (by decide) (by decide) (by decide)
    have b := no_rg (s := 2) (srt := 2) (w := 0) hR (by decide) (by decide) (by decide)
    rw [hS]
    unfold mn
    split
    · exact b
    · exact a
  obtain ⟨sf, hsf, esf, -⟩ := cnt_of (m := 999) (by decide) hS1
  intro m
  induction m with
  | zero =>
    intro i f1 f2 μ ν h1 h2 h3 hP
    obtain ⟨a, rfl⟩ : ∃ a, f1 = a + 1 := ⟨f1 - 1, by omega⟩
    obtain ⟨b, rfl⟩ : ∃ b, f2 = b + 1 := ⟨f2 - 1, by omega⟩
    obtain rfl : i = n := by omega
    refine ⟨μ, ν, ?_, ?_, hP⟩
    · unfold f_9_goOn_l17
      rw [hP.1 v (by omega), em, if_pos (Int32.le_refl _)]
    · unfold f_12_pitsGo_l2
      rw [rf_0_0, l_9, hP.2.2.1 9 (by omega), en, Option.bind_some, if_pos (Int32.le_refl _)]
  | succ m ih =>
    intro i f1 f2 μ ν h1 h2 h3 hP
    obtain ⟨a, rfl⟩ : ∃ a, f1 = a + 1 := ⟨f1 - 1, by omega⟩
    obtain ⟨b, rfl⟩ : ∃ b, f2 = b + 1 := ⟨f2 - 1, by omega⟩
    obtain ⟨p1, p2, p3, v3, i4, q⟩ := id hP
    have di : ¬ nI n ≤ nI i := lt_n1 (by omega) (by omega)
    have nn9 : nn (ν 1 9) = n := by rw [p3 9 (by omega), en, nn_nI (by omega)]
    have x1 : ν 1 (56 + 7 * i + 1) = μ (v + 52 + i) 4 := v3 i 1 (by omega) (by decide)
    have x2 : ν 1 (56 + 7 * i + 2) = μ (v + 52 + i) 1 := v3 i 2 (by omega) (by decide)
    have x3 : ν 1 (56 + 7 * i + 3) = μ (v + 52 + i) 2 := v3 i 3 (by omega) (by decide)
    have x4 : ν 1 (56 + 7 * i + 4) = μ (v + 52 + i) 3 := v3 i 4 (by omega) (by decide)
    have x5 : ν 1 (56 + 7 * i + 5) = pv 5 (μ (v + 52 + i) 5) := v3 i 5 (by omega) (by decide)
    have r := i4 i (by omega)
    have hR1 : RS v μ ν := RS_pit hR p1 p3
    have hwb := waterB (v := v) (p := i) (w := ν 1 (56 + 7 * i + 1)) hR1 (by omega) x2 x3
    have hSS : mn (noS (ν 1) 0 2 0) (noS (ν 1) 2 2 0) = S := by rw [hS, noS_cg (by decide) hc0 (fun k hk => p3 k (by omega)), noS_cg (by decide) hc2 (fun k hk => p3 k (by omega))]
    rw [hSS] at hwb
    unfold f_4_waterAfter at hwb
    obtain ⟨wa, hwa, ewa, -⟩ := cnt_of (m := 20000) (by decide) r.2.1
    obtain ⟨inf, hin, ein, -⟩ := cnt_of (m := 50) (x := ν 1 (58 + 7 * i)) (by decide) ⟨Int32.le_trans (by decide) r.2.2.1.1, r.2.2.1.2⟩
    obtain ⟨pu, hpu, epu, -⟩ := cnt_of (m := 50) (by decide) r.2.2.2.1
    obtain ⟨li, hli, eli, -⟩ := cnt_of (m := 9999) (x := ν 1 (60 + 7 * i)) (by decide) ⟨Int32.le_trans (by decide) r.2.2.2.2.1.1, r.2.2.2.2.1.2⟩
    rw [show 57 + 7 * i = 56 + 7 * i + 1 from by omega, x1] at ewa
    rw [show 58 + 7 * i = 56 + 7 * i + 2 from by omega, x2] at ein
    rw [show 59 + 7 * i = 56 + 7 * i + 3 from by omega, x3] at epu
    rw [show 60 + 7 * i = 56 + 7 * i + 4 from by omega, x4] at eli
    have hps : pu * sf ≤ 50 * 999 := Nat.mul_le_mul hpu hsf
    have hwat : mx 0 ((nI wa + nI inf) - (nI pu * nI sf)) = nI (wa + inf - pu * sf) := by rw [nI_add, pk_mul, mx0_nI (by omega) (by omega)]
    rw [x1, ewa, ein, epu, esf, hwat] at hwb
    by_cases c : μ (v + 52 + i) 5 = -1
    · have c5 : ν 1 (56 + 7 * i + 5) = -3 := x5.trans (pv51 c)
      have hle : wa ≤ li := by
        have := r.2.2.2.2.2.2.1 (by rw [show 61 + 7 * i = 56 + 7 * i + 5 from by omega]; exact c5)
        rw [show 57 + 7 * i = 56 + 7 * i + 1 from by omega, show 60 + 7 * i = 56 + 7 * i + 4 from by omega, x1, x4, ewa, eli] at this
        exact (nI_leI (by omega) (by omega)).mp this
      have hC0 : f_9_goOn_l17 v S (a + 1) (nI i) μ = ((if nI (wa + inf - pu * sf) ≤ nI li then some (up μ (v + 52 + i) 4 (nI (wa + inf - pu * sf))) else some (up (up μ (v + 52 + i) 4 (nI (wa + inf - pu * sf))) (v + 52 + i) 5 (nI t))).bind fun μ4 => f_9_goOn_l17 v S a (nI (i + 1)) μ4) := by
        conv => lhs; unfold f_9_goOn_l17
        rw [p1 v (by omega), em, if_neg di, rV_0_8 hv, aV_8 hv (by omega), Option.bind_some, e0', nI_1]
        unfold f_4_fill f_4_isLost f_4_waterAfter
        rw [if_pos c, Option.bind_some, if_pos rfl, Option.bind_some, ewa, ein, epu, esf, hwat, pf_eq, Option.bind_some, up_at, up_ns (by decide), eli, pf_eq, Option.bind_some]
      have hM0 : f_12_pitsGo_l2 0 (b + 1) (nI i) ν = if nI (wa + inf - pu * sf) ≤ nI li then f_12_pitsGo_l2 0 b (nI (i + 1)) (up ν 1 (56 + 7 * i + 1) (nI (wa + inf - pu * sf))) else f_12_pitsGo_l2 0 b (nI (i + 1)) (up (up ν 1 (56 + 7 * i + 1) (nI (wa + inf - pu * sf))) 1 (56 + 7 * i + 5) (nI t)) := by
        conv => lhs; unfold f_12_pitsGo_l2
        rw [rf_0_0, l_9, p3 9 (by omega), en, Option.bind_some, if_neg di, show f_12_ofPit (nI i) 5 ν = _ from pit1 (f := 5), Option.bind_some, ld1 (by omega), Option.bind_some, if_pos c5, show f_12_ofPit (nI i) 1 ν = _ from pit1 (f := 1), Option.bind_some, Option.bind_some, ld1 (by omega), Option.bind_some, x1, ewa, hwb, Option.bind_some, sto1 (by omega), Option.bind_some, show f_12_ofPit (nI i) 1 (up ν 1 (56 + 7 * i + 1) (nI (wa + inf - pu * sf))) = _ from pit1 (f := 1), Option.bind_some, ld1 (by omega), Option.bind_some, up_at, show f_12_ofPit (nI i) 4 (up ν 1 (56 + 7 * i + 1) (nI (wa + inf - pu * sf))) = _ from pit1 (f := 4), Option.bind_some, ld1 (by omega), Option.bind_some, up_ns (by omega), x4, eli, show f_12_ofPit (nI i) 5 (up ν 1 (56 + 7 * i + 1) (nI (wa + inf - pu * sf))) = _ from pit1 (f := 5), Option.bind_some, l_0, Option.bind_some, up_ns (by omega), p3 0 (by omega), e0, sto1 (by omega), Option.bind_some, nI_1]
      have fin : ∀ (y5 z5 : Int32), pv 5 z5 = y5 → (y5 = -3 ∨ (0 ≤ y5 ∧ y5 ≤ 999)) → (y5 = -3 → wa + inf - pu * sf ≤ li) → ∀ μ1 ν1 : mm, (∀ b, b ≠ v + 52 + i → μ1 b = μ b) → (∀ b, b ≠ 1 → ν1 b = ν b) → (∀ k, k ≠ 56 + 7 * i + 1 → k ≠ 56 + 7 * i + 5 → ν1 1 k = ν 1 k) → (∀ f, f ≠ 4 → f ≠ 5 → μ1 (v + 52 + i) f = μ (v + 52 + i) f) → μ1 (v + 52 + i) 4 = nI (wa + inf - pu * sf) → ν1 1 (56 + 7 * i + 1) = nI (wa + inf - pu * sf) → μ1 (v + 52 + i) 5 = z5 → ν1 1 (56 + 7 * i + 5) = y5 → PL v n (i + 1) μ0 ν0 μ1 ν1 := by
        intro y5 z5 hy hy2 hy3 μ1 ν1 a1 a2 a3 a4 a5 a6 a7 a8
        refine ⟨fun b hb => by rw [a1 b (by omega)]; exact p1 b hb, fun b hb => by rw [a2 b hb]; exact p2 b hb, fun k hk => by rw [a3 k (by omega) (by omega)]; exact p3 k hk, ?_, ?_, fun p f hp hf => by rw [a3 _ (by omega) (by omega)]; exact q p f hp hf⟩
        · intro p f hp hf
          rw [a3 9 (by omega) (by omega), nn9] at hp
          by_cases e : p = i
          · subst e
            have f7 : f = 0 ∨ f = 1 ∨ f = 2 ∨ f = 3 ∨ f = 4 ∨ f = 5 ∨ f = 6 := by omega
            have o := v3 p f (by omega) hf
            rcases f7 with rfl | rfl | rfl | rfl | rfl | rfl | rfl
            · rw [a3 _ (by omega) (by omega), show pm 0 = 0 from rfl, a4 0 (by decide) (by decide)]; exact o
            · rw [a6, show pm 1 = 4 from rfl, a5]; rfl
            · rw [a3 _ (by omega) (by omega), show pm 2 = 1 from rfl, a4 1 (by decide) (by decide)]; exact o
            · rw [a3 _ (by omega) (by omega), show pm 3 = 2 from rfl, a4 2 (by decide) (by decide)]; exact o
            · rw [a3 _ (by omega) (by omega), show pm 4 = 3 from rfl, a4 3 (by decide) (by decide)]; exact o
            · rw [a8, show pm 5 = 5 from rfl, a7, hy]
            · rw [a3 _ (by omega) (by omega), show pm 6 = 6 from rfl, a4 6 (by decide) (by decide)]; exact o
          · rw [a3 _ (by omega) (by omega), a1 _ (by omega)]
            exact v3 p f (by omega) hf
        · intro p hp
          rw [a3 9 (by omega) (by omega), nn9] at hp
          have o := i4 p (by omega)
          rw [a3 8 (by omega) (by omega), a3 (56 + 7 * p) (by omega) (by omega), a3 (58 + 7 * p) (by omega) (by omega), a3 (59 + 7 * p) (by omega) (by omega), a3 (60 + 7 * p) (by omega) (by omega), a3 (62 + 7 * p) (by omega) (by omega)]
          by_cases e : p = i
          · subst e
            rw [show 57 + 7 * p = 56 + 7 * p + 1 from by omega, show 61 + 7 * p = 56 + 7 * p + 5 from by omega, a6, a8]
            refine ⟨o.1, le_lit (m := 20000) (by omega) (by decide), o.2.2.1, o.2.2.2.1, o.2.2.2.2.1, hy2, fun z => ?_, o.2.2.2.2.2.2.2⟩
            rw [show 60 + 7 * p = 56 + 7 * p + 4 from by omega, x4, eli]
            exact nI_le (hy3 z) (by omega)
          · rw [a3 (57 + 7 * p) (by omega) (by omega), a3 (61 + 7 * p) (by omega) (by omega)]
            exact o
      by_cases d : wa + inf - pu * sf ≤ li
      · have d' : nI (wa + inf - pu * sf) ≤ nI li := nI_le d (by omega)
        rw [hC0, hM0, if_pos d', if_pos d', Option.bind_some]
        exact ih (i + 1) a b _ _ (by omega) (by omega) (by omega) (fin (-3) (-1) rfl (Or.inl rfl) (fun _ => d) _ _ (fun b hb => up_ne hb) (fun b hb => up_ne hb) (fun k q1 q2 => up_ns q1) (fun f q1 q2 => up_ns q1) up_at up_at (by rw [up_ns (by decide)]; exact c) (by rw [up_ns (by omega)]; exact c5))
      · have d' : ¬ nI (wa + inf - pu * sf) ≤ nI li := nI_ge (by omega) (by omega)
        rw [hC0, hM0, if_neg d', if_neg d', Option.bind_some]
        exact ih (i + 1) a b _ _ (by omega) (by omega) (by omega) (fin (nI t) (nI t) (pv5o (ne_m1 (by omega)) (ne_m3 (by omega))) (Or.inr (le_lit (m := 999) ht (by decide))) (fun z => absurd z (ne_m3 (by omega))) _ _ (fun b hb => by rw [up_ne hb, up_ne hb]) (fun b hb => by rw [up_ne hb, up_ne hb]) (fun k q1 q2 => by rw [up_ns q2, up_ns q1]) (fun f q1 q2 => by rw [up_ns q2, up_ns q1]) (by rw [up_ns (by decide), up_at]) (by rw [up_ns (by omega), up_at]) up_at up_at)
    · have c5 : ¬ ν 1 (56 + 7 * i + 5) = -3 := fun z => c (pv5 (x5.symm.trans z))
      have hC0 : f_9_goOn_l17 v S (a + 1) (nI i) μ = f_9_goOn_l17 v S a (nI (i + 1)) μ := by
        conv => lhs; unfold f_9_goOn_l17
        unfold f_4_fill f_4_isLost
        rw [p1 v (by omega), em, if_neg di, rV_0_8 hv, aV_8 hv (by omega), Option.bind_some, if_neg c, Option.bind_some, if_neg (by decide), Option.bind_some, nI_1]
      have hM0 : f_12_pitsGo_l2 0 (b + 1) (nI i) ν = f_12_pitsGo_l2 0 b (nI (i + 1)) ν := by
        conv => lhs; unfold f_12_pitsGo_l2
        rw [rf_0_0, l_9, p3 9 (by omega), en, Option.bind_some, if_neg di, show f_12_ofPit (nI i) 5 ν = _ from pit1 (f := 5), Option.bind_some, ld1 (by omega), Option.bind_some, if_neg c5, nI_1]
      rw [hC0, hM0]
      exact ih (i + 1) a b μ ν (by omega) (by omega) (by omega) ⟨p1, p2, p3, v3, i4, q⟩
