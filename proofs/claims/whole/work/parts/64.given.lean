/-! shares are given out -/
theorem mn_r' {a b : Int32} (h : b ≤ a) : mn a b = b := by
  unfold mn
  by_cases c : b < a
  · rw [if_pos c]
  · rw [if_neg c]
    exact Int32.le_antisymm (Int32.not_lt.mp c) h
/-- a household's larder behind the shares -/
def nlS (g : Nat → Int32) (dr : Nat → Nat) (h : Nat) : Int32 := if g (106 + 12 * h) = 0 then mn 999 ((g (102 + 12 * h) + nI (dr h)) + nuS g 1 6 h 0) else g (102 + 12 * h)
def cmS (g : Nat → Int32) (dr : Nat → Nat) (h : Nat) : Int32 := if g (106 + 12 * h) = 1 then 0 else nI (dr h) + nuS g 1 6 h 0
theorem share_C {v n : Nat} {dr : Nat → Nat} {μ2 ν : mm} (hv : isV v) (hn : n ≤ 16) (hR : RS v μ2 ν) (hH : ∀ h, h < n → HS v μ2 ν h) (em : μ2 v 4 = nI n) (hD : ∀ j, j < n → μ2 (v + 49) j = nI (dr j)) : ∀ (m i fuel : Nat) (μ : mm), i + m = n → m < fuel → (∀ b, ¬ (v + 60 ≤ b ∧ b < v + 60 + n) → μ b = μ2 b) → (∀ h f, h < n → f ≠ 6 → μ (v + 60 + h) f = μ2 (v + 60 + h) f) → (∀ h, h < n → i ≤ h → μ (v + 60 + h) 6 = μ2 (v + 60 + h) 6) → (∀ h, h < i → μ (v + 60 + h) 6 = nlS (ν 1) dr h) → ∃ μ', f_9_shareIfDue_l26 v fuel (nI i) μ = some μ' ∧ (∀ b, ¬ (v + 60 ≤ b ∧ b < v + 60 + n) → μ' b = μ2 b) ∧ (∀ h f, h < n → f ≠ 6 → μ' (v + 60 + h) f = μ2 (v + 60 + h) f) ∧ (∀ h, h < n → μ' (v + 60 + h) 6 = nlS (ν 1) dr h) := by
  intro m
  induction m with
  | zero =>
    intro i fuel μ h1 h2 a1 a2 a3 a4
    obtain ⟨f, rfl⟩ : ∃ f, fuel = f + 1 := ⟨fuel - 1, by omega⟩
    obtain rfl : i = n := by omega
    refine ⟨μ, ?_, a1, a2, a4⟩
    unfold f_9_shareIfDue_l26
    rw [a1 v (by omega), em, if_pos (Int32.le_refl _)]
  | succ m ih =>
    intro i fuel μ h1 h2 a1 a2 a3 a4
    obtain ⟨f, rfl⟩ : ∃ f, fuel = f + 1 := ⟨fuel - 1, by omega⟩
    have hHi := hH i (by omega)
    have f10 := hHi.2 10 (by decide)
    have f6 := hHi.2 6 (by decide)
    rw [show 96 + 12 * i + 10 = 106 + 12 * i from by omega] at f10
    rw [show 96 + 12 * i + 6 = 102 + 12 * i from by omega] at f6
    have hH1 : HS v μ ν i := by
      refine ⟨hHi.1, fun f hf => ?_⟩
      by_cases e : f = 6
      · subst e
        rw [a3 i (by omega) (Nat.le_refl _)]
        exact hHi.2 6 (by decide)
      · rw [a2 i f (by omega) e]
        exact hHi.2 f hf
    have hR1 : RS v μ ν := RS_scr hR (fun b q1 q2 => a1 b (by omega)) rfl
    unfold f_9_shareIfDue_l26
    rw [a1 v (by omega), em, if_neg (lt_n1 (by omega) (by omega)), rV_0_10 hv, aV_10 hv (by omega), Option.bind_some, a2 i 10 (by omega) (by decide), ← f10, nI_1]
    by_cases c : ν 1 (106 + 12 * i) = 0
    · rw [if_pos c, rV_0_16 hv, ldL (lV_49 hv) (by omega) (by decide), Option.bind_some, a1 (v + 49) (by omega), hD i (by omega), C_relief hR1 hH1, Option.bind_some, pf_eq, Option.bind_some, a3 i (by omega) (Nat.le_refl _), ← f6]
      have hnl : nlS (ν 1) dr i = mn 999 ((ν 1 (102 + 12 * i) + nI (dr i)) + nuS (ν 1) 1 6 i 0) := by unfold nlS; rw [if_pos c]
      rw [← hnl]
      refine ih (i + 1) f _ (by omega) (by omega) (fun b hb => by rw [up_ne (by omega)]; exact a1 b hb) (fun h f hh hf => by rw [up_nx (by omega)]; exact a2 h f hh hf) (fun h hh q => by rw [up_nc (by omega)]; exact a3 h hh (by omega)) (fun h hh => ?_)
      by_cases e : h = i
      · subst e
        rw [up_at]
      · rw [up_nc (by omega)]
        exact a4 h (by omega)
    · rw [if_neg c]
      refine ih (i + 1) f μ (by omega) (by omega) a1 a2 (fun h hh q => a3 h hh (by omega)) (fun h hh => ?_)
      by_cases e : h = i
      · subst e
        unfold nlS
        rw [if_neg c, a3 h (by omega) (Nat.le_refl _), ← f6]
      · exact a4 h (by omega)
theorem share_M1 {v n : Nat} {dr : Nat → Nat} {μ ν : mm} (hn : n ≤ 16) (hR : RS v μ ν) (hH : ∀ h, h < n → HS v μ ν h) (en : ν 1 11 = nI n) (hD : ∀ j, j < n → ν 12 j = nI (dr j)) : ∀ (m i fuel : Nat) (ν1 : mm), i + m = n → m < fuel → (∀ b, b ≠ 9 → b ≠ 13 → ν1 b = ν b) → (∀ h, h < i → ν1 13 h = cmS (ν 1) dr h) → ∃ ν', f_12_share_l6 0 fuel (nI i) ν1 = some ν' ∧ (∀ b, b ≠ 9 → b ≠ 13 → ν' b = ν b) ∧ (∀ h, h < n → ν' 13 h = cmS (ν 1) dr h) := by
  intro m
  induction m with
  | zero =>
    intro i fuel ν1 h1 h2 a1 a2
    obtain ⟨f, rfl⟩ : ∃ f, fuel = f + 1 := ⟨fuel - 1, by omega⟩
    obtain rfl : i = n := by omega
    refine ⟨ν1, ?_, a1, a2⟩
    unfold f_12_share_l6
    rw [rf_0_0, l_11, a1 1 (by decide) (by decide), en, Option.bind_some, if_pos (Int32.le_refl _)]
  | succ m ih =>
    intro i fuel ν1 h1 h2 a1 a2
    obtain ⟨f, rfl⟩ : ∃ f, fuel = f + 1 := ⟨fuel - 1, by omega⟩
    have e1 := a1 1 (by decide) (by decide)
    have h10 : f_12_house 0 (nI i) 10 ν1 = some (ν 1 (106 + 12 * i)) := by rw [show 106 + 12 * i = 96 + 12 * i + 10 from by omega, ← e1]; exact house1 (f := 10) (by omega)
    have hz : ∃ ν2, (if ν 1 (106 + 12 * i) = 1 then some (0, ν1) else (ld ν1 12 (nI i)).bind fun x5 => (f_12_relief 0 (nI i) ν1).bind fun z8 => some ((x5 + z8.1), z8.2)) = some (cmS (ν 1) dr i, ν2) ∧ ∀ b, b ≠ 9 → ν2 b = ν1 b := by
      unfold cmS
      by_cases c : ν 1 (106 + 12 * i) = 1
      · rw [if_pos c, if_pos c]
        exact ⟨ν1, rfl, fun _ _ => rfl⟩
      · obtain ⟨ν2, k1, k2⟩ := M_relief (RS_9 hR e1) (HS_9 (hH i (by omega)) e1)
        rw [e1] at k1
        rw [if_neg c, if_neg c, ldL len_12 (by omega) (by decide), Option.bind_some, k1, Option.bind_some, a1 12 (by decide) (by decide), hD i (by omega)]
        exact ⟨ν2, rfl, k2⟩
    obtain ⟨ν2, z1, z2⟩ := hz
    unfold f_12_share_l6
    rw [rf_0_0, l_11, e1, en, Option.bind_some, if_neg (lt_n1 (by omega) (by omega)), h10, Option.bind_some, rf_0_22, z1, Option.bind_some]
    dsimp only
    rw [rf_0_23, stoL len_13 (by omega) (by decide), Option.bind_some, nI_1]
    refine ih (i + 1) f _ (by omega) (by omega) (fun b q1 q2 => by rw [up_ne q2, z2 b q1]; exact a1 b q1 q2) (fun h hh => ?_)
    by_cases e : h = i
    · subst e
      rw [up_at]
    · rw [up_ns e, z2 13 (by decide)]
      exact a2 h (by omega)
theorem share_M2 {n F : Nat} {dr : Nat → Nat} {g : Nat → Int32} {ν : mm} (hn : n ≤ 16) (e : ν 1 = g) (en : g 11 = nI n) (ef : g 1 = nI F) (hF : fb_sm dr n ≤ F) (hD : ∀ j, j < n → ν 12 j = nI (dr j)) (hC : ∀ j, j < n → ν 13 j = cmS g dr j) (hb : ∀ j, j < n → g (106 + 12 * j) = 0 ∨ g (106 + 12 * j) = 1) (hl : ∀ j, j < n → 0 ≤ g (102 + 12 * j) ∧ g (102 + 12 * j) ≤ 999) : ∀ (m i fuel : Nat) (ν1 : mm), i + m = n → m < fuel → (∀ b, b ≠ 1 → ν1 b = ν b) → ν1 1 1 = nI (F - fb_sm dr i) → (∀ k, k ≠ 1 → (∀ h, h < i → k ≠ 102 + 12 * h) → ν1 1 k = g k) → (∀ h, h < i → ν1 1 (102 + 12 * h) = nlS g dr h) → ∃ ν', f_12_share_l58 0 fuel (nI i) ν1 = some ν' ∧ (∀ b, b ≠ 1 → ν' b = ν b) ∧ ν' 1 1 = nI (F - fb_sm dr n) ∧ (∀ k, k ≠ 1 → (∀ h, h < n → k ≠ 102 + 12 * h) → ν' 1 k = g k) ∧ (∀ h, h < n → ν' 1 (102 + 12 * h) = nlS g dr h) := by
  intro m
  induction m with
  | zero =>
    intro i fuel ν1 h1 h2 a1 a2 a3 a4
    obtain ⟨f, rfl⟩ : ∃ f, fuel = f + 1 := ⟨fuel - 1, by omega⟩
    obtain rfl : i = n := by omega
    refine ⟨ν1, ?_, a1, a2, a3, a4⟩
    unfold f_12_share_l58
    rw [rf_0_0, l_11, a3 11 (by omega) (fun h hh => by omega), en, Option.bind_some, if_pos (Int32.le_refl _)]
  | succ m ih =>
    intro i fuel ν1 h1 h2 a1 a2 a3 a4
    obtain ⟨f, rfl⟩ : ∃ f, fuel = f + 1 := ⟨fuel - 1, by omega⟩
    have hp := fb_sm_part dr (show i < n by omega)
    have hs : fb_sm dr (i + 1) = fb_sm dr i + dr i := rfl
    have hnl : mn 999 (g (102 + 12 * i) + cmS g dr i) = nlS g dr i := by
      unfold cmS nlS
      rcases hb i (by omega) with c | c
      · rw [c, if_neg (by decide), if_pos rfl, Int32.add_assoc]
      · rw [c, if_pos rfl, if_neg (by decide), Int32.add_zero]
        exact mn_r' (hl i (by omega)).2
    unfold f_12_share_l58
    rw [rf_0_0, l_11, a3 11 (by omega) (fun h hh => by omega), en, Option.bind_some, if_neg (lt_n1 (by omega) (by omega)), l_1, a2, Option.bind_some, rf_0_22, rf_0_23, ldL len_12 (by omega) (by decide), Option.bind_some, a1 12 (by decide), hD i (by omega), pk_sub (by omega), s_1, Option.bind_some, ix_96_, nI_p6, ld1 (by omega), Option.bind_some, ldL len_13 (by omega) (by decide), Option.bind_some, up_ns (by omega), show 96 + 12 * i + 6 = 102 + 12 * i from by omega, a3 (102 + 12 * i) (by omega) (fun h hh => by omega), up_ne (a := 1) (b := 13) (by decide), a1 13 (by decide), hC i (by omega), hnl, sto1 (by omega), Option.bind_some, nI_1]
    refine ih (i + 1) f _ (by omega) (by omega) (fun b hb => by rw [up_ne hb, up_ne hb]; exact a1 b hb) (by rw [up_ns (by omega), up_at, hs]; congr 1; omega) (fun k q1 q2 => by rw [up_ns (q2 i (by omega)), up_ns q1]; exact a3 k q1 (fun h hh => q2 h (by omega))) (fun h hh => ?_)
    by_cases e : h = i
    · subst e
      rw [up_at]
    · rw [up_ns (by omega), up_ns (by omega)]
      exact a4 h (by omega)
set_option maxHeartbeats 1000000 in
theorem share_rel {v : Nat} {μ ν : mm} (hB : VB v μ ν) : ∃ μ' ν', f_9_shareIfDue v μ = some μ' ∧ (if ν 1 0 - ν 1 0 / 7 * 7 = 0 then (f_12_share 0 ν).bind fun μ4 => some μ4 else some ν) = some ν' ∧ VB v μ' ν' ∧ (∀ b, (b < v ∨ v + 94 ≤ b) → μ' b = μ b) ∧ (∀ b, b ≠ 1 → ¬ (9 ≤ b ∧ b < 14) → ν' b = ν b) ∧ (∀ k, k ≠ 1 → ¬ (96 ≤ k ∧ k < 288) → ν' 1 k = ν 1 k) := by
  have hN := JV_nn hB.2.2
  obtain ⟨hv, ⟨v1, v2, v3, v4, v5, v6, v7, v8, v9, v10, v11, v12⟩, j1, i2, i3, i4, i5, i6, i7, i8, i10, i11, i12⟩ := id hB
  have e0 : ν 1 0 = μ v 0 := v1 0 (by decide)
  unfold f_9_shareIfDue
  rw [← e0]
  by_cases c : ν 1 0 - ν 1 0 / 7 * 7 = 0
  · obtain ⟨n, hn, en, nnn⟩ := cnt_of (m := 16) (by decide) i2.2.2.2.1
    obtain ⟨F, hF, ef, -⟩ := cnt_of (m := 99999) (by decide) j1.2.1
    have em : μ v 4 = nI n := (v1 11 (by decide)).symm.trans en
    have emf : μ v 5 = nI F := (v1 1 (by decide)).symm.trans ef
    have hR : RS v μ ν := ⟨hv, v12⟩
    have hH : ∀ h, h < n → HS v μ ν h := fun h hh => ⟨by omega, fun f hf => v5 h f (by omega) hf⟩
    have hb : ∀ h, h < n → ν 1 (106 + 12 * h) = 0 ∨ ν 1 (106 + 12 * h) = 1 := fun h hh => (i6 h (by omega)).2.2.2.2.2.2.2.1
    have hl : ∀ h, h < n → 0 ≤ ν 1 (102 + 12 * h) ∧ ν 1 (102 + 12 * h) ≤ 999 := fun h hh => (i6 h (by omega)).2.2.2.2.2.2.1
    have hS : SV v n μ ν := ⟨hR, hn, em, en, hH, hb⟩
    obtain ⟨dr, G, μ1, ν1, g1, g2, g3, g4, g5, g6, g7, g8, g9⟩ := shares_rel hS emf ef hF
    have m1 : ∀ b, b ≠ v → b ≠ v + 49 → b ≠ v + 50 → b ≠ v + 51 → up μ1 v 5 (nI (F - G)) b = μ b := fun b q0 q1 q2 q3 => by rw [up_ne q0]; exact g7 b q1 q2 q3
    have e1 := g8 1 (by decide) (by decide) (by decide) (by decide)
    obtain ⟨μ', s1, s2, s3, s4⟩ := share_C (dr := dr) (μ2 := up μ1 v 5 (nI (F - G))) (ν := ν) hv hn (RS_scr hR (fun b q1 q2 => m1 b (by omega) (by omega) (by omega) (by omega)) rfl) (fun h hh => HS_scr (hH h hh) (m1 _ (by omega) (by omega) (by omega) (by omega)) rfl) (by rw [up_ns (by decide), g7 v (by omega) (by omega) (by omega)]; exact em) (fun j hj => by rw [up_nc (by omega)]; exact (g3 j hj).1) n 0 FU _ (by omega) (show n < 2000 by omega) (fun _ _ => rfl) (fun _ _ _ _ => rfl) (fun _ _ _ => rfl) (fun h hh => absurd hh (by omega))
    obtain ⟨ν2, t1, t2, t3⟩ := share_M1 (dr := dr) (μ := μ) (ν := ν1) hn (RS_9 hR e1) (fun h hh => HS_9 (hH h hh) e1) (by rw [e1]; exact en) (fun j hj => (g3 j hj).2) n 0 FU ν1 (by omega) (show n < 2000 by omega) (fun _ _ _ => rfl) (fun h hh => absurd hh (by omega))
    rw [e1] at t3
    have e2 : ν2 1 = ν 1 := by rw [t2 1 (by decide) (by decide), e1]
    obtain ⟨ν', u1, u2, u3, u4, u5⟩ := share_M2 (dr := dr) (g := ν 1) (ν := ν2) (F := F) hn e2 en ef (by omega) (fun j hj => by rw [t2 12 (by decide) (by decide)]; exact (g3 j hj).2) t3 hb hl n 0 FU ν2 (by omega) (show n < 2000 by omega) (fun _ _ => rfl) (by rw [e2, ef]; rfl) (fun k _ _ => by rw [e2]) (fun h hh => absurd hh (by omega))
    rw [show nI 0 = 0 from rfl] at s1 t1 u1
    rw [g5] at u3
    have mfr : ∀ b, b ≠ v → b ≠ v + 49 → b ≠ v + 50 → b ≠ v + 51 → ¬ (v + 60 ≤ b ∧ b < v + 76) → μ' b = μ b := fun b q0 q1 q2 q3 q4 => by rw [s2 b (by omega)]; exact m1 b q0 q1 q2 q3
    have kfr : ∀ k, k ≠ 1 → ¬ (96 ≤ k ∧ k < 288) → ν' 1 k = ν 1 k := fun k q1 q2 => u4 k q1 (fun h hh => by omega)
    have v0 : ∀ j, j ≠ 5 → μ' v j = μ v j := fun j hj => by rw [s2 v (by omega), up_ns hj, g7 v (by omega) (by omega) (by omega)]
    have nlr : ∀ h, h < n → 0 ≤ nlS (ν 1) dr h ∧ nlS (ν 1) dr h ≤ 999 := by
      intro h hh
      unfold nlS
      split
      · obtain ⟨la, hla, ela, -⟩ := cnt_of (m := 999) (by decide) (hl h hh)
        have r := nu_rg (s := 1) (srt := 6) (h := h) (w := 0) hR (by decide) (by decide) (by decide)
        obtain ⟨rl, hrl, erl, -⟩ := cnt_of (m := 999) (by decide) r
        have hd : dr h ≤ 999 := Nat.le_trans (g4 h hh) (by have q := tk_rg (h := h) hS; exact nn_le (n := 999) (by decide) q.1 q.2)
        rw [ela, erl, nI_add, nI_add, show (999 : Int32) = nI 999 from rfl, mn_nI (by decide) (by omega)]
        exact le_lit (m := 999) (by omega) (by decide)
      · exact hl h hh
    refine ⟨μ', ν', ?_, ?_, ⟨hv, ⟨?_, ?_, ?_, ?_, ?_, ?_, ?_, ?_, ?_, ?_, ?_, ?_⟩, ?_⟩, fun b hb => mfr b (by omega) (by omega) (by omega) (by omega) (by omega), fun b q1 q2 => by rw [u2 b q1, t2 b (by omega) (by omega), g8 b (by omega) (by omega) (by omega) (by omega)], kfr⟩
    · rw [if_pos c, g1, Option.bind_some]
      dsimp only
      rw [emf, pk_sub g6, pf_eq, Option.bind_some, s1, Option.bind_some]
    · rw [if_pos c]
      unfold f_12_share
      rw [g2, Option.bind_some, t1, Option.bind_some, u1]
      rfl
    · exact V1_up (k0 := 1) (c := 0) (s := 5) (by decide) rfl rfl (by rw [u3]; show _ = μ' v 5; rw [s2 v (by omega), up_at]) (fun k a b => kfr k b (by omega)) (fun b j q1 q2 => by
        by_cases e : b = v
        · subst e
          exact v0 j (fun z => q2 ⟨rfl, z⟩)
        · rw [mfr b e (by omega) (by omega) (by omega) (by omega)]) v1
    · exact V2_cg hN (fun k a => kfr k (by omega) (by omega)) (fun b a => mfr b (by omega) (by omega) (by omega) (by omega) (by omega)) v2
    · exact V3_cg hN (fun k a => kfr k (by omega) (by omega)) (fun b a => mfr b (by omega) (by omega) (by omega) (by omega) (by omega)) v3
    · exact V4_cg hN (fun k a => kfr k (by omega) (by omega)) (fun b a => mfr b (by omega) (by omega) (by omega) (by omega) (by omega)) v4
    · intro h f hh hf
      rw [kfr 11 (by omega) (by omega), nnn] at hh
      by_cases e : f = 6
      · subst e
        rw [show 96 + 12 * h + 6 = 102 + 12 * h from by omega, u5 h hh, s4 h hh]
      · rw [u4 _ (by omega) (fun h2 hh2 => by omega), s3 h f hh e, m1 _ (by omega) (by omega) (by omega) (by omega)]
        exact v5 h f (by omega) hf
    · exact V6_cg hN (fun k a => kfr k (by omega) (by omega)) (fun b a => mfr b (by omega) (by omega) (by omega) (by omega) (by omega)) v6
    · exact V7_cg hN (fun k a => kfr k (by omega) (by omega)) (fun b a => mfr b (by omega) (by omega) (by omega) (by omega) (by omega)) v7
    · exact V8_cg hN (fun k a => kfr k (by omega) (by omega)) (fun b a => mfr b (by omega) (by omega) (by omega) (by omega) (by omega)) v8
    · exact V9_cg hN (fun k a => kfr k (by omega) (by omega)) (fun b a => mfr b (by omega) (by omega) (by omega) (by omega) (by omega)) v9
    · exact V10_cg hN (fun k a => kfr k (by omega) (by omega)) (fun b a => mfr b (by omega) (by omega) (by omega) (by omega) (by omega)) v10
    · exact V11_cg hN (fun k a => kfr k (by omega) (by omega)) (fun b a => mfr b (by omega) (by omega) (by omega) (by omega) (by omega)) v11
    · exact V12_cg hN (fun k a => kfr k (by omega) (by omega)) (fun b a => mfr b (by omega) (by omega) (by omega) (by omega) (by omega)) v12
    · refine ⟨?_, I2_cg hN (fun k a => kfr k (by omega) (by omega)) i2, I3_cg hN (fun k a => kfr k (by omega) (by omega)) i3, I4_cg hN (fun k a => kfr k (by omega) (by omega)) i4, I5_cg hN (fun k a => kfr k (by omega) (by omega)) i5, ?_, I7_cg hN (fun k a => kfr k (by omega) (by omega)) i7, I8_cg hN (fun k a => kfr k (by omega) (by omega)) i8, I10_cg hN (fun k a => kfr k (by omega) (by omega)) i10, I11_cg hN (fun k a => kfr k (by omega) (by omega)) i11, I12_cg hN (fun k a => kfr k (by omega) (by omega)) i12⟩
      · rw [kfr 0 (by omega) (by omega), u3, kfr 2 (by omega) (by omega), kfr 3 (by omega) (by omega), kfr 4 (by omega) (by omega), kfr 5 (by omega) (by omega), kfr 6 (by omega) (by omega), kfr 7 (by omega) (by omega)]
        exact ⟨j1.1, le_lit (m := 99999) (by omega) (by decide), j1.2.2⟩
      · intro h hh
        rw [kfr 11 (by omega) (by omega), nnn] at hh
        have q := i6 h (by omega)
        rw [u5 h hh]
        simp only [kfr 8 (by omega) (by omega), kfr 9 (by omega) (by omega), u4 (96 + 12 * h) (by omega) (fun h2 hh2 => by omega), u4 (97 + 12 * h) (by omega) (fun h2 hh2 => by omega), u4 (98 + 12 * h) (by omega) (fun h2 hh2 => by omega), u4 (99 + 12 * h) (by omega) (fun h2 hh2 => by omega), u4 (100 + 12 * h) (by omega) (fun h2 hh2 => by omega), u4 (101 + 12 * h) (by omega) (fun h2 hh2 => by omega), u4 (106 + 12 * h) (by omega) (fun h2 hh2 => by omega), u4 (107 + 12 * h) (by omega) (fun h2 hh2 => by omega)]
        exact ⟨q.1, q.2.1, q.2.2.1, q.2.2.2.1, q.2.2.2.2.1, q.2.2.2.2.2.1, nlr h hh, q.2.2.2.2.2.2.2⟩
  · exact ⟨μ, ν, by rw [if_neg c], by rw [if_neg c], hB, fun _ _ => rfl, fun _ _ _ => rfl, fun _ _ _ => rfl⟩
