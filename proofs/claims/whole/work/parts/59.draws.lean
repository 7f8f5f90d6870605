/-! tickets and ranks; what is drawn; the least gift -/
theorem RS_scr {v : Nat} {μ μ' ν ν' : mm} (h : RS v μ ν) (hm : ∀ b, v + 76 ≤ b → b < v + 94 → μ' b = μ b) (hn : ν' 1 = ν 1) : RS v μ' ν' := by
  refine ⟨h.1, fun s hs => ?_⟩
  rw [hn]
  exact RC_congr hs (fun _ _ _ => rfl) hm (h.2 s hs)
theorem HS_scr {v h : Nat} {μ μ' ν ν' : mm} (hh : HS v μ ν h) (hm : μ' (v + 60 + h) = μ (v + 60 + h)) (hn : ν' 1 = ν 1) : HS v μ' ν' h := by
  unfold HS
  rw [hm, hn]
  exact hh
/-- a household's ticket in shares, and its rank -/
def tkS (g : Nat → Int32) (h : Nat) : Int32 := if g (106 + 12 * h) = 0 then nuS g 0 0 h 0 else 0
def rkS (g : Nat → Int32) (h : Nat) : Int32 := nuS g 0 1 h 9
/-- what both sides share of a valley when shares are reckoned -/
def SV (v n : Nat) (μ ν : mm) : Prop := RS v μ ν ∧ n ≤ 16 ∧ μ v 4 = nI n ∧ ν 1 11 = nI n ∧ (∀ h, h < n → HS v μ ν h) ∧ (∀ h, h < n → ν 1 (106 + 12 * h) = 0 ∨ ν 1 (106 + 12 * h) = 1)
theorem tk_rg {v n h : Nat} {μ ν : mm} (hS : SV v n μ ν) : 0 ≤ tkS (ν 1) h ∧ tkS (ν 1) h ≤ 999 := by
  unfold tkS
  split
  · exact nu_rg hS.1 (s := 0) (by decide) (by decide) (by decide)
  · decide
theorem first_C {v n : Nat} {μ ν : mm} (hS : SV v n μ ν) : ∀ (m i fuel : Nat) (μ1 : mm), i + m = n → m < fuel → (∀ b, b ≠ v + 49 → b ≠ v + 50 → b ≠ v + 51 → μ1 b = μ b) → (∀ j, j < i → μ1 (v + 50) j = tkS (ν 1) j ∧ μ1 (v + 51) j = rkS (ν 1) j ∧ μ1 (v + 49) j = 0) → ∃ μ', f_9_reckonShares_l2 v fuel (nI i) μ1 = some μ' ∧ (∀ b, b ≠ v + 49 → b ≠ v + 50 → b ≠ v + 51 → μ' b = μ b) ∧ (∀ j, j < n → μ' (v + 50) j = tkS (ν 1) j ∧ μ' (v + 51) j = rkS (ν 1) j ∧ μ' (v + 49) j = 0) := by
  obtain ⟨hR, hn, em, en, hH, hb⟩ := hS
  have hv := hR.1
  intro m
  induction m with
  | zero =>
    intro i fuel μ1 h1 h2 h3 h4
    obtain ⟨f, rfl⟩ : ∃ f, fuel = f + 1 := ⟨fuel - 1, by omega⟩
    obtain rfl : i = n := by omega
    refine ⟨μ1, ?_, h3, h4⟩
    unfold f_9_reckonShares_l2
    rw [h3 v (by omega) (by omega) (by omega), em, if_pos (Int32.le_refl _)]
  | succ m ih =>
    intro i fuel μ1 h1 h2 h3 h4
    obtain ⟨f, rfl⟩ : ∃ f, fuel = f + 1 := ⟨fuel - 1, by omega⟩
    have hHi := hH i (by omega)
    have hR1 : RS v μ1 ν := RS_scr hR (fun b q1 q2 => h3 b (by omega) (by omega) (by omega)) rfl
    have hH1 : HS v μ1 ν i := HS_scr hHi (h3 _ (by omega) (by omega) (by omega)) rfl
    have f10 := hH1.2 10 (by decide)
    rw [show 96 + 12 * i + 10 = 106 + 12 * i from by omega] at f10
    have ct : f_5_numberFor (v + 76) 0 (v + 60 + i) 0 μ1 = some (nuS (ν 1) 0 0 i 0) := C_nu (s := 0) hR1 (by decide) hH1 (by decide)
    have hz : (if μ1 (v + 60 + i) 10 = 0 then (lda (rf v 11) 0).bind fun r3 => (f_5_numberFor r3 0 (v + 60 + i) 0 μ1).bind fun x6 => some x6 else some 0) = some (tkS (ν 1) i) := by
      unfold tkS
      rw [← f10]
      by_cases c : ν 1 (106 + 12 * i) = 0
      · rw [if_pos c, if_pos c, rl_0 hv, Option.bind_some, ct]
        rfl
      · rw [if_neg c, if_neg c]
    have hR2 : RS v (up μ1 (v + 50) i (tkS (ν 1) i)) ν := RS_scr hR1 (fun b q1 q2 => up_ne (by omega)) rfl
    have hH2 : HS v (up μ1 (v + 50) i (tkS (ν 1) i)) ν i := HS_scr hH1 (up_ne (by omega)) rfl
    have cr : f_5_numberFor (v + 76) 1 (v + 60 + i) 9 (up μ1 (v + 50) i (tkS (ν 1) i)) = some (rkS (ν 1) i) := C_nu (s := 0) hR2 (by decide) hH2 (by decide)
    unfold f_9_reckonShares_l2
    rw [h3 v (by omega) (by omega) (by omega), em, if_neg (lt_n1 (by omega) (by omega)), rV_0_10 hv, aV_10 hv (by omega), Option.bind_some, hz, Option.bind_some, rV_0_17 hv, rV_0_18 hv, rV_0_16 hv, stoL (lV_50 hv) (by omega) (by decide), Option.bind_some, rl_0 hv, Option.bind_some, cr, Option.bind_some, stoL (lV_51 hv) (by omega) (by decide), Option.bind_some, stoL (lV_49 hv) (by omega) (by decide), Option.bind_some, nI_1]
    refine ih (i + 1) f _ (by omega) (by omega) (fun b q1 q2 q3 => ?_) (fun j hj => ?_)
    · rw [up_ne q1, up_ne q3, up_ne q2]
      exact h3 b q1 q2 q3
    · by_cases e : j = i
      · subst e
        refine ⟨?_, ?_, up_at⟩
        · rw [up_nc (by omega), up_nc (by omega), up_at]
        · rw [up_nc (by omega), up_at]
      · rw [up_ns e, up_ns e, up_ns e, up_ns e, up_ns e, up_ns e, up_ns e, up_ns e, up_ns e]
        exact h4 j (by omega)
theorem first_M {v n : Nat} {μ ν : mm} (hS : SV v n μ ν) : ∀ (m i fuel : Nat) (ν1 : mm), i + m = n → m < fuel → (∀ b, b ≠ 9 → b ≠ 10 → b ≠ 11 → b ≠ 12 → ν1 b = ν b) → (∀ j, j < i → ν1 10 j = tkS (ν 1) j ∧ ν1 11 j = rkS (ν 1) j ∧ ν1 12 j = 0) → ∃ ν', f_12_findDraws_l2 0 fuel (nI i) ν1 = some ν' ∧ (∀ b, b ≠ 9 → b ≠ 10 → b ≠ 11 → b ≠ 12 → ν' b = ν b) ∧ (∀ j, j < n → ν' 10 j = tkS (ν 1) j ∧ ν' 11 j = rkS (ν 1) j ∧ ν' 12 j = 0) := by
  obtain ⟨hR, hn, em, en, hH, hb⟩ := hS
  intro m
  induction m with
  | zero =>
    intro i fuel ν1 h1 h2 h3 h4
    obtain ⟨f, rfl⟩ : ∃ f, fuel = f + 1 := ⟨fuel - 1, by omega⟩
    obtain rfl : i = n := by omega
    refine ⟨ν1, ?_, h3, h4⟩
    unfold f_12_findDraws_l2
    rw [rf_0_0, l_11, h3 1 (by decide) (by decide) (by decide) (by decide), en, Option.bind_some, if_pos (Int32.le_refl _)]
  | succ m ih =>
    intro i fuel ν1 h1 h2 h3 h4
    obtain ⟨f, rfl⟩ : ∃ f, fuel = f + 1 := ⟨fuel - 1, by omega⟩
    have e1 := h3 1 (by decide) (by decide) (by decide) (by decide)
    have hR1 : RS v μ ν1 := RS_9 hR e1
    have hH1 : HS v μ ν1 i := HS_9 (hH i (by omega)) e1
    have hh : f_12_house 0 (nI i) 10 ν1 = some (ν 1 (106 + 12 * i)) := by rw [show 106 + 12 * i = 96 + 12 * i + 10 from by omega, ← e1]; exact house1 (f := 10) (by omega)
    have ht : ∃ ν2, (if ν 1 (106 + 12 * i) = 1 then some (0, ν1) else (f_12_ticket 0 (nI i) ν1).bind fun z6 => some (z6.1, z6.2)) = some (tkS (ν 1) i, ν2) ∧ ∀ b, b ≠ 9 → ν2 b = ν1 b := by
      unfold tkS
      rcases hb i (by omega) with c | c
      · obtain ⟨ν2, k1, k2⟩ := M_ticket hR1 hH1
        rw [e1] at k1
        refine ⟨ν2, ?_, k2⟩
        rw [c, if_neg (by decide), if_pos rfl, bind_eta, k1]
      · refine ⟨ν1, ?_, fun _ _ => rfl⟩
        rw [c, if_pos rfl, if_neg (by decide)]
    obtain ⟨ν2, t1, t2⟩ := ht
    have e2 : up ν2 10 i (tkS (ν 1) i) 1 = ν 1 := by rw [up_ne (by decide), t2 1 (by decide), e1]
    obtain ⟨ν3, r1, r2⟩ := M_rank (RS_9 hR e2) (HS_9 (hH i (by omega)) e2)
    rw [e2] at r1
    unfold f_12_findDraws_l2
    rw [rf_0_0, l_11, e1, en, Option.bind_some, if_neg (lt_n1 (by omega) (by omega)), hh, Option.bind_some, t1, Option.bind_some]
    dsimp only
    rw [rf_0_20, rf_0_21, rf_0_22, stoL len_10 (by omega) (by decide), Option.bind_some, r1, Option.bind_some]
    dsimp only
    rw [stoL len_11 (by omega) (by decide), Option.bind_some, stoL len_12 (by omega) (by decide), Option.bind_some, nI_1]
    refine ih (i + 1) f _ (by omega) (by omega) (fun b q1 q2 q3 q4 => ?_) (fun j hj => ?_)
    · rw [up_ne q4, up_ne q3, r2 b q1, up_ne q2, t2 b q1]
      exact h3 b q1 q2 q3 q4
    · rw [up_ne (a := 12) (b := 10) (by decide), up_ne (a := 11) (b := 10) (by decide), r2 10 (by decide), up_ne (a := 12) (b := 11) (by decide)]
      by_cases e : j = i
      · subst e
        refine ⟨up_at, up_at, up_at⟩
      · rw [up_ns e, t2 10 (by decide), up_ns e, r2 11 (by decide), up_ne (a := 10) (b := 11) (by decide), t2 11 (by decide), up_ns e, up_ne (a := 11) (b := 12) (by decide), r2 12 (by decide), up_ne (a := 10) (b := 12) (by decide), t2 12 (by decide)]
        exact h4 j (by omega)
theorem nI_nn {x : Int32} (h : 0 ≤ x) : nI (nn x) = x := by
  obtain ⟨j, hj, rfl⟩ := nI_of (Int32.not_lt.mpr h)
  rw [nn_nI hj]
set_option maxHeartbeats 1000000 in
theorem shares_rel {v n F : Nat} {μ ν : mm} (hS : SV v n μ ν) (f1 : μ v 5 = nI F) (f2 : ν 1 1 = nI F) (hF : F ≤ 99999) : ∃ dr G μ' ν', f_9_reckonShares v μ = some (nI G, μ') ∧ f_12_findDraws 0 ν = some ν' ∧ DR v n dr μ' ν' ∧ (∀ j, j < n → dr j ≤ nn (tkS (ν 1) j)) ∧ fb_sm dr n = G ∧ G ≤ F ∧ (∀ b, b ≠ v + 49 → b ≠ v + 50 → b ≠ v + 51 → μ' b = μ b) ∧ (∀ b, b ≠ 9 → b ≠ 10 → b ≠ 11 → b ≠ 12 → ν' b = ν b) ∧ (∀ j, j < n → ν' 10 j = tkS (ν 1) j ∧ ν' 11 j = rkS (ν 1) j) := by
  have hn := hS.2.1
  obtain ⟨μ1, c1, c2, c3⟩ := first_C hS n 0 FU μ (by omega) (show n < 2000 by omega) (fun _ _ _ _ => rfl) (fun j hj => absurd hj (by omega))
  obtain ⟨ν1, m1, m2, m3⟩ := first_M hS n 0 FU ν (by omega) (show n < 2000 by omega) (fun _ _ _ _ _ => rfl) (fun j hj => absurd hj (by omega))
  rw [show nI 0 = 0 from rfl] at c1 m1
  have hT : TR v n (fun j => nn (tkS (ν 1) j)) (fun j => nn (rkS (ν 1) j)) μ1 ν1 := by
    refine ⟨by rw [c2 v (by omega) (by omega) (by omega)]; exact hS.2.2.1, by rw [m2 1 (by decide) (by decide) (by decide) (by decide)]; exact hS.2.2.2.1, fun j hj => ?_⟩
    obtain ⟨q1, q2, -⟩ := c3 j hj
    obtain ⟨p1, p2, -⟩ := m3 j hj
    have r1 := tk_rg (h := j) hS
    have r2 := rank_rg (h := j) hS.1
    try dsimp only
    rw [nI_nn r1.1, nI_nn (show 0 ≤ rkS (ν 1) j from r2.1)]
    exact ⟨⟨q1, p1, nn_le (n := 999) (by decide) r1.1 r1.2⟩, q2, p2, nn_le (n := 9) (by decide) r2.1 r2.2⟩
  have hK : RK v n F 0 F (fun j => nn (tkS (ν 1) j)) (fun j => nn (rkS (ν 1) j)) (fun _ => 0) μ1 ν1 := by
    refine ⟨hT, fun j hj => ⟨(c3 j hj).2.2, (m3 j hj).2.2⟩, fun _ _ => Nat.zero_le _, fun _ _ _ => rfl, ?_⟩
    rw [fb_sm_const]
    omega
  obtain ⟨dr, L, μ2, ν2, g1, g2, g3, g4, g5, g6, g7⟩ := ranks_rel hS.1.1 hn hF 10 0 FU FU F (fun _ => 0) μ1 ν1 (by omega) (show 10 < 2000 by omega) (show 10 < 2000 by omega) hK
  rw [show nI 0 = 0 from rfl] at g1 g2
  refine ⟨dr, F - L, μ2, ν2, ?_, ?_, g3, g4, by omega, by omega, fun b q1 q2 q3 => by rw [g6 b q1, c2 b q1 q2 q3], fun b q1 q2 q3 q4 => by rw [g7 b q4, m2 b q1 q2 q3 q4], fun j hj => by rw [g7 10 (by decide), g7 11 (by decide)]; exact ⟨(m3 j hj).1, (m3 j hj).2.1⟩⟩
  · unfold f_9_reckonShares
    rw [c1, Option.bind_some, c2 v (by omega) (by omega) (by omega), f1, g1, Option.bind_some]
    dsimp only
    rw [g6 v (by omega), c2 v (by omega) (by omega) (by omega), f1, pk_sub (by omega)]
  · unfold f_12_findDraws
    rw [m1, Option.bind_some, rf_0_0, l_1, m2 1 (by decide) (by decide) (by decide) (by decide), f2, Option.bind_some, g2, Option.bind_some]
theorem Cp_SV {μ ν : mm} {n : Nat} (h : Cp μ ν) (hn : n ≤ 16) (en : ν 1 11 = nI n) : SV 49 n μ ν := by
  have e : nn (ν 1 11) = n := by rw [en, nn_nI (by omega)]
  refine ⟨Cp_RS h, hn, (h.1.1 11 (by decide)).symm.trans en, en, fun p hp => Cp_HS h (by omega), fun p hp => (h.2.1.2.2.2.2.2.1 p (by omega)).2.2.2.2.2.2.2.1⟩
theorem Cp_fund {μ ν : mm} (h : Cp μ ν) : ∃ F : Nat, F ≤ 99999 ∧ μ 49 5 = nI F ∧ ν 1 1 = nI F := by
  obtain ⟨F, hF, e, -⟩ := cnt_of (m := 99999) (by decide) h.2.1.1.2.1
  exact ⟨F, hF, (h.1.1 1 (by decide)).symm.trans e, e⟩
theorem T_draws {μ ν : mm} (a : Int32) (h : Cp μ ν) : Ok (f_11_draws 23 a μ) fun z => Ok (f_12_draws 0 a ν) fun w => z.1 = w.1 ∧ Cp z.2 w.2 := by

  obtain ⟨n11, hn11, en11, nn11⟩ := cnt_of (m := 16) (by decide) h.2.1.2.1.2.2.2.1
  have em11 : μ 49 4 = nI n11 := (h.1.1 11 (by decide)).symm.trans en11
  by_cases c1 : 0 ≤ a ∧ a ≤ nI n11 - 1
  · obtain ⟨p, hp, rfl⟩ := in_of (by omega) c1
    obtain ⟨F, hF, f1, f2⟩ := Cp_fund h
    obtain ⟨dr, G, μ', ν', g1, g2, g3, g4, g5, g6, g7, g8, g9⟩ := shares_rel (Cp_SV h hn11 en11) f1 f2 hF
    have q := g3 p hp
    refine Ok_of (y := (nI (dr p), μ')) ?_ (Ok_of (y := (nI (dr p), ν')) ?_ ⟨rfl, Cp_scr h (fun b q => g7 b (by omega) (by omega) (by omega)) (congrFun (g7 85 (by decide) (by decide) (by decide)) 0) (fun b q => g8 b (by omega) (by omega) (by omega) (by omega))⟩)
    · unfold f_11_draws
      rw [hasH_eq, rf_23_0, em11, if_pos c1, Option.bind_some, if_neg (by decide), g1, Option.bind_some]
      dsimp only
      rw [rf_49_16, ldL len_98 (by omega) (by decide), Option.bind_some, show μ' 98 p = nI (dr p) from q.1]
    · unfold f_12_draws
      rw [is_11, en11, if_pos c1, Option.bind_some, if_neg (by decide), g2, Option.bind_some, rf_0_22, ldL len_12 (by omega) (by decide), Option.bind_some, q.2]
  · exact Ok_of (y := (-1, μ)) (by simp [f_11_draws, hasH_eq, rf_23_0, em11, c1]) (Ok_of (y := (-1, ν)) (by simp [f_12_draws, is_11, en11, c1]) ⟨rfl, h⟩)
theorem least_l {v n : Nat} {μ ν ν' : mm} {a : Int32} (hS : SV v n μ ν) (he : ν' 1 = ν 1) (hA : ∀ j, j < n → ν' 10 j = tkS (ν 1) j ∧ ν' 11 j = rkS (ν 1) j) : ∀ (m i f1 f2 : Nat) (x : Int32), i + m = n → m < f1 → m < f2 → ∃ y, f_9_leastGift_l4 v a μ f1 x (nI i) = some y ∧ f_12_least_l20 0 a ν' f2 x (nI i) = some y := by
  obtain ⟨hR, hn, em, en, hH, hb⟩ := hS
  have hv := hR.1
  intro m
  induction m with
  | zero =>
    intro i f1 f2 x h1 h2 h3
    obtain ⟨c, rfl⟩ : ∃ c, f1 = c + 1 := ⟨f1 - 1, by omega⟩
    obtain ⟨d, rfl⟩ : ∃ d, f2 = d + 1 := ⟨f2 - 1, by omega⟩
    obtain rfl : i = n := by omega
    refine ⟨x, ?_, ?_⟩
    · unfold f_9_leastGift_l4
      rw [em, if_pos (Int32.le_refl _)]
    · unfold f_12_least_l20
      rw [rf_0_0, l_11, he, en, Option.bind_some, if_pos (Int32.le_refl _)]
  | succ m ih =>
    intro i f1 f2 x h1 h2 h3
    obtain ⟨c, rfl⟩ : ∃ c, f1 = c + 1 := ⟨f1 - 1, by omega⟩
    obtain ⟨d, rfl⟩ : ∃ d, f2 = d + 1 := ⟨f2 - 1, by omega⟩
    have hHi := hH i (by omega)
    have f10 := hHi.2 10 (by decide)
    rw [show 96 + 12 * i + 10 = 106 + 12 * i from by omega] at f10
    obtain ⟨q1, q2⟩ := hA i (by omega)
    have cr := C_rank hR hHi
    have ct := C_ticket hR hHi
    unfold f_9_leastGift_l4 f_12_least_l20
    rw [em, if_neg (lt_n1 (by omega) (by omega)), rV_0_10 hv, aV_10 hv (by omega), Option.bind_some, ← f10, Option.bind_some, cr, Option.bind_some, Option.bind_some, ct, Option.bind_some, rf_0_0, l_11, he, en, Option.bind_some, if_neg (lt_n1 (by omega) (by omega)), rf_0_21, rf_0_20, ldL len_11 (by omega) (by decide), Option.bind_some, ldL len_10 (by omega) (by decide), Option.bind_some, q1, q2, nI_1]
    have hr : rkS (ν 1) i = nuS (ν 1) 0 1 i 9 := rfl
    rw [hr]
    unfold tkS
    rcases hb i (by omega) with b0 | b0
    · rw [if_pos b0, if_pos b0]
      by_cases e : a < nuS (ν 1) 0 1 i 9
      · rw [if_pos e, if_pos e, Int32.add_zero]
        exact ih (i + 1) c d x (by omega) (by omega) (by omega)
      · rw [if_neg e, if_neg e]
        exact ih (i + 1) c d _ (by omega) (by omega) (by omega)
    · rw [b0, if_neg (show ¬ (1 : Int32) = 0 by decide), if_neg (show ¬ (1 : Int32) = 0 by decide), Int32.add_zero]
      by_cases e : a < nuS (ν 1) 0 1 i 9
      · rw [if_pos e]
        exact ih (i + 1) c d x (by omega) (by omega) (by omega)
      · rw [if_neg e]
        exact ih (i + 1) c d x (by omega) (by omega) (by omega)
theorem T_least {μ ν : mm} (a : Int32) (h : Cp μ ν) : Ok (f_11_least 23 a μ) fun z => Ok (f_12_least 0 a ν) fun w => z = w.1 ∧ Cp μ w.2 := by

  obtain ⟨n11, hn11, en11, nn11⟩ := cnt_of (m := 16) (by decide) h.2.1.2.1.2.2.2.1
  have em11 : μ 49 4 = nI n11 := (h.1.1 11 (by decide)).symm.trans en11
  by_cases c1 : 0 ≤ a ∧ a ≤ 9
  · obtain ⟨F, hF, f1, f2⟩ := Cp_fund h
    have hS := Cp_SV h hn11 en11
    obtain ⟨dr, G, μ', ν', g1, g2, g3, g4, g5, g6, g7, g8, g9⟩ := shares_rel hS f1 f2 hF
    have e1 := g8 1 (by decide) (by decide) (by decide) (by decide)
    obtain ⟨y, y1, y2⟩ := least_l (a := a) hS e1 g9 n11 0 FU FU 0 (by omega) (show n11 < 2000 by omega) (show n11 < 2000 by omega)
    rw [show nI 0 = 0 from rfl] at y1 y2
    refine Ok_of (y := mx 0 (y - nI F)) ?_ (Ok_of (y := (mx 0 (y - nI F), ν')) ?_ ⟨rfl, Cp_scr h (fun _ _ => rfl) rfl (fun b q => g8 b (by omega) (by omega) (by omega) (by omega))⟩)
    · unfold f_11_least f_9_leastGift
      rw [isIn_t c1, Option.bind_some, if_neg (by decide), rf_23_0, y1, Option.bind_some, Option.bind_some, f1]
    · unfold f_12_least
      rw [within_t c1, Option.bind_some, if_neg (by decide), g2, Option.bind_some, y2, Option.bind_some, rf_0_0, l_1, e1, f2, Option.bind_some]
  · exact Ok_of (y := -1) (by simp [f_11_least, isIn_f c1]) (Ok_of (y := (-1, ν)) (by simp [f_12_least, within_f c1]) ⟨rfl, h⟩)
