/-! a day of all households -/
/-- ranges as IV has them, but for ships, and with a later last day -/
def JV (g : Nat → Int32) : Prop := ((0 ≤ g 0 ∧ g 0 ≤ 1200) ∧ (0 ≤ g 1 ∧ g 1 ≤ 99999) ∧ (0 ≤ g 2 ∧ g 2 ≤ 99999) ∧ (g 3 = 0 ∨ g 3 = 1) ∧ (0 ≤ g 4 ∧ g 4 ≤ 999) ∧ (0 ≤ g 5 ∧ g 5 ≤ 9) ∧ (0 ≤ g 6 ∧ g 6 ≤ 99999) ∧ (0 ≤ g 7 ∧ g 7 ≤ 99999)) ∧ I2 g ∧ I3 g ∧ I4 g ∧ I5 g ∧ I6 g ∧ I7 g ∧ I8 g ∧ I10 g ∧ I11 g ∧ I12 g
theorem IV_JV {g : Nat → Int32} (h : IV g) : JV g := by
  obtain ⟨i1, i2, i3, i4, i5, i6, i7, i8, i9, i10, i11, i12⟩ := h
  exact ⟨⟨⟨i1.1.1, Int32.le_trans i1.1.2 (by decide)⟩, i1.2⟩, i2, i3, i4, i5, i6, i7, i8, i10, i11, i12⟩
theorem JV_IV {g : Nat → Int32} (h : JV g) (h0 : g 0 ≤ 999) (h9 : I9 g) : IV g := by
  obtain ⟨i1, i2, i3, i4, i5, i6, i7, i8, i10, i11, i12⟩ := h
  exact ⟨⟨⟨i1.1.1, h0⟩, i1.2⟩, i2, i3, i4, i5, i6, i7, i8, h9, i10, i11, i12⟩
theorem JV_nn {g : Nat → Int32} (h : JV g) : NN g := by
  obtain ⟨-, ⟨-, ⟨a, b⟩, ⟨c, d⟩, ⟨e, f⟩, ⟨i, j⟩, ⟨k, l⟩, ⟨m, n⟩, ⟨o, p⟩, ⟨q, r⟩, ⟨s, t⟩⟩, -⟩ := h
  exact ⟨nn_le (by decide) a b, nn_le (by decide) c d, nn_le (by decide) e f, nn_le (by decide) i j, nn_le (by decide) k l, nn_le (by decide) m n, nn_le (by decide) o p, nn_le (by decide) q r, nn_le (by decide) s t⟩
def VB (v : Nat) (μ ν : mm) : Prop := isV v ∧ VP v μ (ν 1) ∧ JV (ν 1)
theorem EL_0 {v n : Nat} {μ ν : mm} (h : VB v μ ν) (en : ν 1 11 = nI n) (hn : n ≤ 16) : EL v n 0 μ ν μ ν := by
  obtain ⟨hv, hV, hJ⟩ := h
  obtain ⟨v1, v2, v3, v4, v5, -⟩ := hV
  obtain ⟨-, -, -, -, i5, i6, -⟩ := hJ
  refine ⟨fun _ _ => rfl, fun _ _ => rfl, fun _ _ => rfl, v4, i5, i6, fun h hh f hf _ => v5 h f (by rw [en, nn_nI (by omega)]; exact hh) hf, fun h hh => absurd hh (by omega)⟩
theorem EL_back {v n i : Nat} {μ0 ν0 μ ν : mm} (hi : i < n) (h : EL v n i μ0 ν0 μ ν) (b1 : ν 1 (106 + 12 * i) = 1) : EL v n (i + 1) μ0 ν0 μ ν := by
  obtain ⟨p1, p2, p3, v4, i5, i6, q5, qb⟩ := h
  refine ⟨p1, p2, p3, v4, i5, i6, fun h hh f hf hff => q5 h hh f hf (by omega), fun h hh => ?_⟩
  by_cases e : h = i
  · subst e
    have := q5 h hi 10 (by decide) (Or.inr (Nat.le_refl _))
    rw [show 96 + 12 * h + 10 = 106 + 12 * h from by omega] at this
    rw [← this, b1, if_pos (Or.inl rfl)]
  · exact qb h (by omega)
theorem EL_HP {v n i : Nat} {μ0 ν0 μ ν : mm} (hB : VB v μ0 ν0) (en : ν0 1 11 = nI n) (hn : n ≤ 16) (hi : i < n) (h : EL v n i μ0 ν0 μ ν) : HP (ν 1) i := by
  obtain ⟨p1, p2, p3, v4, i5, i6, q5, qb⟩ := h
  obtain ⟨-, -, j1, i2, -, -, -, -, i7, -⟩ := hB
  obtain ⟨n8, hn8, en8, -⟩ := cnt_of (m := 6) (by decide) i2.1
  obtain ⟨n12, hn12, en12, -⟩ := cnt_of (m := 12) (by decide) i2.2.2.2.2.1
  have r := i6 i (by rw [p3 11 (by omega), en, nn_nI (by omega)]; exact hi)
  refine ⟨by omega, ⟨n12, hn12, by rw [p3 12 (by omega)]; exact en12, fun j hj => ?_⟩, ?_, r.2.2.2.2.2.2.2.2.1⟩
  · have q := (i7 j (by rw [en12, nn_nI (by omega)]; exact hj)).1
    rw [en8] at q
    obtain ⟨u, hu, eu⟩ := vil_of hn8 q
    exact ⟨u, by omega, by rw [p3 _ (by omega)]; exact eu⟩
  · have q := r.1
    rw [p3 8 (by omega), en8] at q
    obtain ⟨u, hu, eu⟩ := vil_of hn8 q
    exact ⟨u, by omega, eu⟩
theorem EL_heard {v n i : Nat} {μ0 ν0 μ ν : mm} (hB : VB v μ0 ν0) (en : ν0 1 11 = nI n) (hn : n ≤ 16) (hi : i < n) (h : EL v n i μ0 ν0 μ ν) : f_7_weightHeard (v + 15) (v + 60 + i) (μ v 0) (v + 1) μ = some (hd (ν 1) i) := by
  have hp := EL_HP hB en hn hi h
  have hN := JV_nn hB.2.2
  obtain ⟨p1, p2, p3, v4, i5, i6, q5, qb⟩ := h
  obtain ⟨hv, ⟨v1, v2, v3, -, v5, v6, -⟩, -⟩ := hB
  refine C_heard hv hp ?_ ?_ (V2_cg hN (fun k a => p3 k (by omega)) (fun b a => p1 b (by omega)) v2) (V6_cg hN (fun k a => p3 k (by omega)) (fun b a => p1 b (by omega)) v6) (q5 i hi 0 (by decide) (Or.inr (Nat.le_refl _))) ?_
  · rw [p3 0 (by omega), p1 v (by omega)]
    exact v1 0 (by decide)
  · rw [p3 12 (by omega), p1 (v + 15) (by omega)]
    exact v1 12 (by decide)
  · have := q5 i hi 11 (by decide) (Or.inr (Nat.le_refl _))
    rw [show 96 + 12 * i + 11 = 107 + 12 * i from by omega] at this
    exact this
theorem eat_news {v n n10 : Nat} {μ0 ν0 : mm} (hB : VB v μ0 ν0) (en : ν0 1 11 = nI n) (hn : n ≤ 16) (en10 : ν0 1 10 = nI n10) (hn10 : n10 ≤ 4) : ∀ (m i f1 f2 : Nat) (μ ν : mm), i + m = n → m < f1 → m < f2 → EL v n i μ0 ν0 μ ν → ∃ μ' ν', f_9_goOn_l51 v f1 (nI i) μ = some μ' ∧ f_12_valleyGoes_l18 0 1 f2 (nI i) ν = some ν' ∧ EL v n n μ0 ν0 μ' ν' := by
  obtain ⟨hv, ⟨v1, -⟩, j1, -⟩ := id hB
  have em : μ0 v 4 = nI n := (v1 11 (by decide)).symm.trans en
  have em10 : μ0 v 3 = nI n10 := (v1 10 (by decide)).symm.trans en10
  have e3 : ν0 1 3 = μ0 v 6 := v1 3 (by decide)
  intro m
  induction m with
  | zero =>
    intro i f1 f2 μ ν h1 h2 h3 hE
    obtain ⟨a, rfl⟩ : ∃ a, f1 = a + 1 := ⟨f1 - 1, by omega⟩
    obtain ⟨b, rfl⟩ : ∃ b, f2 = b + 1 := ⟨f2 - 1, by omega⟩
    obtain rfl : i = n := by omega
    refine ⟨μ, ν, ?_, ?_, hE⟩
    · unfold f_9_goOn_l51
      rw [hE.1 v (by omega), em, if_pos (Int32.le_refl _)]
    · unfold f_12_valleyGoes_l18
      rw [rf_0_0, l_11, hE.2.2.1 11 (by omega), en, Option.bind_some, if_pos (Int32.le_refl _)]
  | succ m ih =>
    intro i f1 f2 μ ν h1 h2 h3 hE
    obtain ⟨a, rfl⟩ : ∃ a, f1 = a + 1 := ⟨f1 - 1, by omega⟩
    obtain ⟨b, rfl⟩ : ∃ b, f2 = b + 1 := ⟨f2 - 1, by omega⟩
    have di : ¬ nI n ≤ nI i := lt_n1 (by omega) (by omega)
    have hp := EL_HP hB en hn (show i < n by omega) hE
    have r := hE.2.2.2.2.2.1 i (by rw [hE.2.2.1 11 (by omega), en, nn_nI (by omega)]; omega)
    have f10 := hE.2.2.2.2.2.2.1 i (by omega) 10 (by decide) (Or.inr (Nat.le_refl _))
    rw [show 96 + 12 * i + 10 = 106 + 12 * i from by omega] at f10
    have h10 : f_12_house 0 (nI i) 10 ν = some (ν 1 (106 + 12 * i)) := by rw [show 106 + 12 * i = 96 + 12 * i + 10 from by omega]; exact house1 (f := 10) (by omega)
    unfold f_9_goOn_l51 f_12_valleyGoes_l18
    rw [hE.1 v (by omega), em, if_neg di, rf_0_0, l_11, hE.2.2.1 11 (by omega), en, Option.bind_some, if_neg di, h10, Option.bind_some, rV_0_10 hv, nI_1]
    rw [← hE.1 v (by omega)]
    rw [rV_0_13 hv, rV_0_7 hv, aV_10 hv (by omega), Option.bind_some, Option.bind_some, EL_heard hB en hn (show i < n by omega) hE, Option.bind_some]
    rcases r.2.2.2.2.2.2.2.1 with b0 | b0
    · obtain ⟨μ1, ν1, g1, g2, g3⟩ := eat_one (w := hd (ν 1) i) (a2 := 1) hv hn (show i < n by omega) hn10 en10 em10 e3 j1.2.2.2.1 en hE b0 (fun ν38 h38 => by
        rw [if_neg (by decide), M_heard (HP_cg hp h38), Option.bind_some, hd_cg hp h38])
      obtain ⟨μ', ν', k1, k2, k3⟩ := ih (i + 1) a b μ1 ν1 (by omega) (by omega) (by omega) g3
      rw [g1, Option.bind_some, if_pos b0, g2, Option.bind_some]
      exact ⟨μ', ν', k1, k2, k3⟩
    · obtain ⟨μ', ν', k1, k2, k3⟩ := ih (i + 1) a b μ ν (by omega) (by omega) (by omega) (EL_back (by omega) hE b0)
      have hl : f_9_liveOn v (v + 60 + i) (hd (ν 1) i) μ = some μ := by
        unfold f_9_liveOn
        rw [← f10, b0, if_neg (by decide)]
      rw [hl, Option.bind_some, b0, if_neg (by decide)]
      exact ⟨μ', ν', k1, k2, k3⟩
theorem eat_calm {v n n10 : Nat} {μ0 ν0 : mm} {c2 : Int32} (hB : VB v μ0 ν0) (en : ν0 1 11 = nI n) (hn : n ≤ 16) (en10 : ν0 1 10 = nI n10) (hn10 : n10 ≤ 4) : ∀ (m i f1 f2 : Nat) (μ ν : mm), i + m = n → m < f1 → m < f2 → EL v n i μ0 ν0 μ ν → ∃ μ' ν', f_9_holdOut_l49 v c2 f1 (nI i) μ = some μ' ∧ f_12_valleyGoes_l18 0 0 f2 (nI i) ν = some ν' ∧ EL v n n μ0 ν0 μ' ν' := by
  obtain ⟨hv, ⟨v1, -⟩, j1, -⟩ := id hB
  have em : μ0 v 4 = nI n := (v1 11 (by decide)).symm.trans en
  have em10 : μ0 v 3 = nI n10 := (v1 10 (by decide)).symm.trans en10
  have e3 : ν0 1 3 = μ0 v 6 := v1 3 (by decide)
  intro m
  induction m with
  | zero =>
    intro i f1 f2 μ ν h1 h2 h3 hE
    obtain ⟨a, rfl⟩ : ∃ a, f1 = a + 1 := ⟨f1 - 1, by omega⟩
    obtain ⟨b, rfl⟩ : ∃ b, f2 = b + 1 := ⟨f2 - 1, by omega⟩
    obtain rfl : i = n := by omega
    refine ⟨μ, ν, ?_, ?_, hE⟩
    · unfold f_9_holdOut_l49
      rw [hE.1 v (by omega), em, if_pos (Int32.le_refl _)]
    · unfold f_12_valleyGoes_l18
      rw [rf_0_0, l_11, hE.2.2.1 11 (by omega), en, Option.bind_some, if_pos (Int32.le_refl _)]
  | succ m ih =>
    intro i f1 f2 μ ν h1 h2 h3 hE
    obtain ⟨a, rfl⟩ : ∃ a, f1 = a + 1 := ⟨f1 - 1, by omega⟩
    obtain ⟨b, rfl⟩ : ∃ b, f2 = b + 1 := ⟨f2 - 1, by omega⟩
    have di : ¬ nI n ≤ nI i := lt_n1 (by omega) (by omega)
    have hp := EL_HP hB en hn (show i < n by omega) hE
    have r := hE.2.2.2.2.2.1 i (by rw [hE.2.2.1 11 (by omega), en, nn_nI (by omega)]; omega)
    have f10 := hE.2.2.2.2.2.2.1 i (by omega) 10 (by decide) (Or.inr (Nat.le_refl _))
    rw [show 96 + 12 * i + 10 = 106 + 12 * i from by omega] at f10
    have h10 : f_12_house 0 (nI i) 10 ν = some (ν 1 (106 + 12 * i)) := by rw [show 106 + 12 * i = 96 + 12 * i + 10 from by omega]; exact house1 (f := 10) (by omega)
    unfold f_9_holdOut_l49 f_12_valleyGoes_l18
    rw [hE.1 v (by omega), em, if_neg di, rf_0_0, l_11, hE.2.2.1 11 (by omega), en, Option.bind_some, if_neg di, h10, Option.bind_some, rV_0_10 hv, nI_1]
    skip
    rw [aV_10 hv (by omega), Option.bind_some]
    rcases r.2.2.2.2.2.2.2.1 with b0 | b0
    · obtain ⟨μ1, ν1, g1, g2, g3⟩ := eat_one (w := 0) (a2 := 0) hv hn (show i < n by omega) hn10 en10 em10 e3 j1.2.2.2.1 en hE b0 (fun ν38 h38 => by rw [if_pos rfl])
      obtain ⟨μ', ν', k1, k2, k3⟩ := ih (i + 1) a b μ1 ν1 (by omega) (by omega) (by omega) g3
      rw [g1, Option.bind_some, if_pos b0, g2, Option.bind_some]
      exact ⟨μ', ν', k1, k2, k3⟩
    · obtain ⟨μ', ν', k1, k2, k3⟩ := ih (i + 1) a b μ ν (by omega) (by omega) (by omega) (EL_back (by omega) hE b0)
      have hl : f_9_liveOn v (v + 60 + i) (0) μ = some μ := by
        unfold f_9_liveOn
        rw [← f10, b0, if_neg (by decide)]
      rw [hl, Option.bind_some, b0, if_neg (by decide)]
      exact ⟨μ', ν', k1, k2, k3⟩
theorem back_M {n : Nat} (hn : n ≤ 16) : ∀ (m i fuel : Nat) (ν : mm), i + m = n → m < fuel → ν 1 11 = nI n → (∀ h, h < n → ν 1 (106 + 12 * h) = 0 ∨ ν 1 (106 + 12 * h) = 1) → ∃ ν', f_12_valleyGoes_l53 0 fuel (nI i) ν = some ν' ∧ (∀ b, b ≠ 1 → ν' b = ν b) ∧ (∀ k, (∀ h, h < n → k ≠ 106 + 12 * h) → ν' 1 k = ν 1 k) ∧ (∀ h, h < i → ν' 1 (106 + 12 * h) = ν 1 (106 + 12 * h)) ∧ (∀ h, i ≤ h → h < n → ν' 1 (106 + 12 * h) = if ν 1 (106 + 12 * h) = 1 ∨ ν 1 (101 + 12 * h) = 0 then 1 else 0) := by
  intro m
  induction m with
  | zero =>
    intro i fuel ν h1 h2 en hb
    obtain ⟨f, rfl⟩ : ∃ f, fuel = f + 1 := ⟨fuel - 1, by omega⟩
    obtain rfl : i = n := by omega
    refine ⟨ν, ?_, fun _ _ => rfl, fun _ _ => rfl, fun _ _ => rfl, fun h q1 q2 => absurd q1 (by omega)⟩
    unfold f_12_valleyGoes_l53
    rw [rf_0_0, l_11, en, Option.bind_some, if_pos (Int32.le_refl _)]
  | succ m ih =>
    intro i fuel ν h1 h2 en hb
    obtain ⟨f, rfl⟩ : ∃ f, fuel = f + 1 := ⟨fuel - 1, by omega⟩
    have di : ¬ nI n ≤ nI i := lt_n1 (by omega) (by omega)
    have h10 : f_12_house 0 (nI i) 10 ν = some (ν 1 (106 + 12 * i)) := by rw [show 106 + 12 * i = 96 + 12 * i + 10 from by omega]; exact house1 (f := 10) (by omega)
    have h5 : f_12_house 0 (nI i) 5 ν = some (ν 1 (101 + 12 * i)) := by rw [show 101 + 12 * i = 96 + 12 * i + 5 from by omega]; exact house1 (f := 5) (by omega)
    have hz : (if ν 1 (106 + 12 * i) = 1 then some 1 else (f_12_house 0 (nI i) 5 ν).bind fun x6 => if x6 = 0 then some 1 else some 0) = some (if ν 1 (106 + 12 * i) = 1 ∨ ν 1 (101 + 12 * i) = 0 then 1 else 0 : Int32) := by
      rw [h5, Option.bind_some]
      by_cases a : ν 1 (106 + 12 * i) = 1
      · rw [if_pos a, if_pos (Or.inl a)]
      · rw [if_neg a]
        by_cases b : ν 1 (101 + 12 * i) = 0
        · rw [if_pos b, if_pos (Or.inr b)]
        · rw [if_neg b, if_neg (fun z => z.elim a b)]
    unfold f_12_valleyGoes_l53
    rw [rf_0_0, l_11, en, Option.bind_some, if_neg di, h10, Option.bind_some, hz, Option.bind_some, ix_96_, nI_p10, sto1 (by omega), Option.bind_some, nI_1]
    obtain ⟨ν', g1, g2, g3, g4, g5⟩ := ih (i + 1) f (up ν 1 (96 + 12 * i + 10) (if ν 1 (106 + 12 * i) = 1 ∨ ν 1 (101 + 12 * i) = 0 then 1 else 0)) (by omega) (by omega) (by rw [up_ns (by omega)]; exact en) (fun h hh => by
        by_cases e : h = i
        · subst e
          rw [show 106 + 12 * h = 96 + 12 * h + 10 from by omega, up_at]
          split
          · exact Or.inr rfl
          · exact Or.inl rfl
        · rw [up_ns (by omega)]
          exact hb h hh)
    refine ⟨ν', g1, fun b hb => by rw [g2 b hb, up_ne hb], fun k hk => by rw [g3 k hk, up_ns (by have := hk i (by omega); omega)], fun h hh => by rw [g4 h (by omega), up_ns (by omega)], fun h q1 q2 => ?_⟩
    by_cases e : h = i
    · subst e
      rw [g4 h (by omega), show 106 + 12 * h = 96 + 12 * h + 10 from by omega, up_at]
    · rw [g5 h (by omega) q2, up_ns (by omega), up_ns (by omega)]
set_option maxHeartbeats 1000000 in
theorem eaten {v n : Nat} {μ0 ν0 μ ν : mm} (hB : VB v μ0 ν0) (en : ν0 1 11 = nI n) (hn : n ≤ 16) (hE : EL v n n μ0 ν0 μ ν) : ∃ ν', f_12_valleyGoes_l53 0 FU 0 ν = some ν' ∧ VB v μ ν' ∧ (∀ b, b ≠ 1 → ν' b = ν0 b) ∧ (∀ k, ¬ (84 ≤ k ∧ k < 288) → ν' 1 k = ν0 1 k) := by
  have hN := JV_nn hB.2.2
  obtain ⟨hv, ⟨v1, v2, v3, -, -, v6, v7, v8, v9, v10, v11, v12⟩, j1, i2, i3, i4, -, -, i7, i8, i10, i11, i12⟩ := hB
  obtain ⟨p1, p2, p3, q4, i5, i6, q5, qb⟩ := hE
  have en1 : ν 1 11 = nI n := by rw [p3 11 (by omega)]; exact en
  obtain ⟨ν', g1, g2, g3, -, g5⟩ := back_M hn n 0 FU ν (by omega) (show n < 2000 by omega) en1 (fun h hh => (i6 h (by rw [en1, nn_nI (by omega)]; exact hh)).2.2.2.2.2.2.2.1)
  have k1 : ∀ k, ¬ (84 ≤ k ∧ k < 288) → ν' 1 k = ν0 1 k := fun k hk => by rw [g3 k (fun h hh => by omega)]; exact p3 k hk
  have k2 : ∀ h f, h < n → f < 12 → f ≠ 10 → ν' 1 (96 + 12 * h + f) = ν 1 (96 + 12 * h + f) := fun h f hh hf hf2 => g3 _ (fun h2 hh2 => by omega)
  refine ⟨ν', g1, ⟨hv, ⟨?_, ?_, ?_, ?_, ?_, ?_, ?_, ?_, ?_, ?_, ?_, ?_⟩, ?_⟩, fun b hb => by rw [g2 b hb]; exact p2 b hb, k1⟩
  · exact V1_cg hN (fun k a => k1 k (by omega)) (fun b a => p1 b (by omega)) v1
  · exact V2_cg hN (fun k a => k1 k (by omega)) (fun b a => p1 b (by omega)) v2
  · exact V3_cg hN (fun k a => k1 k (by omega)) (fun b a => p1 b (by omega)) v3
  · intro s f hs hf
    have hs2 : s < nn (ν 1 10) := by rw [p3 10 (by omega)]; rw [k1 10 (by omega)] at hs; exact hs
    have : nn (ν 1 10) ≤ 4 := by rw [p3 10 (by omega)]; exact hN.2.1
    rw [g3 _ (fun h hh => by omega)]
    exact q4 s f hs2 hf
  · intro h f hh hf
    rw [k1 11 (by omega), en, nn_nI (by omega)] at hh
    by_cases e : f = 10
    · subst e
      rw [show 96 + 12 * h + 10 = 106 + 12 * h from by omega, g5 h (by omega) hh, qb h hh]
    · rw [k2 h f hh hf e]
      exact q5 h hh f hf (Or.inl e)
  · exact V6_cg hN (fun k a => k1 k (by omega)) (fun b a => p1 b (by omega)) v6
  · exact V7_cg hN (fun k a => k1 k (by omega)) (fun b a => p1 b (by omega)) v7
  · exact V8_cg hN (fun k a => k1 k (by omega)) (fun b a => p1 b (by omega)) v8
  · exact V9_cg hN (fun k a => k1 k (by omega)) (fun b a => p1 b (by omega)) v9
  · exact V10_cg hN (fun k a => k1 k (by omega)) (fun b a => p1 b (by omega)) v10
  · exact V11_cg hN (fun k a => k1 k (by omega)) (fun b a => p1 b (by omega)) v11
  · exact V12_cg hN (fun k a => k1 k (by omega)) (fun b a => p1 b (by omega)) v12
  · refine ⟨?_, I2_cg hN (fun k a => k1 k (by omega)) i2, I3_cg hN (fun k a => k1 k (by omega)) i3, I4_cg hN (fun k a => k1 k (by omega)) i4, ?_, ?_, I7_cg hN (fun k a => k1 k (by omega)) i7, I8_cg hN (fun k a => k1 k (by omega)) i8, I10_cg hN (fun k a => k1 k (by omega)) i10, I11_cg hN (fun k a => k1 k (by omega)) i11, I12_cg hN (fun k a => k1 k (by omega)) i12⟩
    · rw [k1 0 (by omega), k1 1 (by omega), k1 2 (by omega), k1 3 (by omega), k1 4 (by omega), k1 5 (by omega), k1 6 (by omega), k1 7 (by omega)]
      exact j1
    · refine I5_cgL i5 (fun k hk => g3 k (fun h hh => by omega)) ?_
      rw [p3 10 (by omega)]
      exact hN.2.1
    · intro h hh
      rw [k1 11 (by omega), en, nn_nI (by omega)] at hh
      have q := i6 h (by rw [en1, nn_nI (by omega)]; exact hh)
      have k3 : ∀ k, (∀ h, h < n → k ≠ 106 + 12 * h) → ν' 1 k = ν 1 k := g3
      rw [g5 h (by omega) hh]
      simp only [k3 8 (fun h hh => by omega), k3 9 (fun h hh => by omega), k3 (96 + 12 * h) (fun h hh => by omega), k3 (97 + 12 * h) (fun h hh => by omega), k3 (98 + 12 * h) (fun h hh => by omega), k3 (99 + 12 * h) (fun h hh => by omega), k3 (100 + 12 * h) (fun h hh => by omega), k3 (101 + 12 * h) (fun h hh => by omega), k3 (102 + 12 * h) (fun h hh => by omega), k3 (107 + 12 * h) (fun h hh => by omega)]
      refine ⟨q.1, q.2.1, q.2.2.1, q.2.2.2.1, q.2.2.2.2.1, q.2.2.2.2.2.1, q.2.2.2.2.2.2.1, ?_, q.2.2.2.2.2.2.2.2⟩
      split
      · exact Or.inr rfl
      · exact Or.inl rfl
