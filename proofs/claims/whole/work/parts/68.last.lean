/-! the call last -/
theorem last_in {a : Int32} : ∀ (m i fuel : Nat) (μ : mm), i + m = 912 → m < fuel → f_12_last_l13 0 a fuel (nI i) μ = some (cpL μ 3 1 i) := by
  intro m
  induction m with
  | zero =>
    intro i fuel μ h1 h2
    obtain ⟨f, rfl⟩ : ∃ f, fuel = f + 1 := ⟨fuel - 1, by omega⟩
    unfold f_12_last_l13
    rw [if_pos (show (912 : Int32) ≤ nI i from nI_le (a := 912) (by omega) (by omega)), cpL_nil (by omega)]
  | succ m ih =>
    intro i fuel μ h1 h2
    obtain ⟨f, rfl⟩ : ∃ f, fuel = f + 1 := ⟨fuel - 1, by omega⟩
    unfold f_12_last_l13
    rw [if_neg (show ¬ (912 : Int32) ≤ nI i from nI_ge (b := 912) (by omega) (by decide)), rf_0_0, rf_0_2, ldL len_1 (by omega) (by decide), Option.bind_some, stoL len_3 (by omega) (by decide), Option.bind_some, nI_1, ih (i + 1) f _ (by omega) (by omega), cpL_up (by decide) (by omega)]
theorem last_out {a : Int32} : ∀ (m i fuel : Nat) (μ : mm), i + m = 912 → m < fuel → f_12_last_l122 0 a fuel (nI i) μ = some (cpL μ 1 3 i) := by
  intro m
  induction m with
  | zero =>
    intro i fuel μ h1 h2
    obtain ⟨f, rfl⟩ : ∃ f, fuel = f + 1 := ⟨fuel - 1, by omega⟩
    unfold f_12_last_l122
    rw [if_pos (show (912 : Int32) ≤ nI i from nI_le (a := 912) (by omega) (by omega)), cpL_nil (by omega)]
  | succ m ih =>
    intro i fuel μ h1 h2
    obtain ⟨f, rfl⟩ : ∃ f, fuel = f + 1 := ⟨fuel - 1, by omega⟩
    unfold f_12_last_l122
    rw [if_neg (show ¬ (912 : Int32) ≤ nI i from nI_ge (b := 912) (by omega) (by decide)), rf_0_2, rf_0_0, ldL len_3 (by omega) (by decide), Option.bind_some, stoL len_1 (by omega) (by decide), Option.bind_some, nI_1, ih (i + 1) f _ (by omega) (by omega), cpL_up (by decide) (by omega)]
theorem stay_l {v n : Nat} {μ ν : mm} (hv : isV v) (hn : n ≤ 16) (em : μ v 4 = nI n) (en : ν 1 11 = nI n) (hV : ∀ p f, p < n → f < 12 → ν 1 (96 + 12 * p + f) = μ (v + 60 + p) f) (hb : ∀ p, p < n → ν 1 (106 + 12 * p) = 0 ∨ ν 1 (106 + 12 * p) = 1) : ∀ (m i f1 f2 x y : Nat), i + m = n → m < f1 → m < f2 → x + y = i → ∃ x' y', x' + y' = n ∧ f_9_backCount_l4 v μ f1 (nI x) (nI i) = some (nI x') ∧ f_12_gaveIn_l4 0 ν f2 (nI y) (nI i) = some (nI y') := by
  intro m
  induction m with
  | zero =>
    intro i f1 f2 x y h1 h2 h3 h4
    obtain ⟨a, rfl⟩ : ∃ a, f1 = a + 1 := ⟨f1 - 1, by omega⟩
    obtain ⟨b, rfl⟩ : ∃ b, f2 = b + 1 := ⟨f2 - 1, by omega⟩
    obtain rfl : i = n := by omega
    refine ⟨x, y, h4, ?_, ?_⟩
    · unfold f_9_backCount_l4
      rw [em, if_pos (Int32.le_refl _)]
    · unfold f_12_gaveIn_l4
      rw [rf_0_0, l_11, en, Option.bind_some, if_pos (Int32.le_refl _)]
  | succ m ih =>
    intro i f1 f2 x y h1 h2 h3 h4
    obtain ⟨a, rfl⟩ : ∃ a, f1 = a + 1 := ⟨f1 - 1, by omega⟩
    obtain ⟨b, rfl⟩ : ∃ b, f2 = b + 1 := ⟨f2 - 1, by omega⟩
    have d1 : ¬ nI n ≤ nI i := lt_n1 (by omega) (by omega)
    have f10 := hV i 10 (by omega) (by decide)
    have hh : f_12_house 0 (nI i) 10 ν = some (ν 1 (106 + 12 * i)) := by rw [show 106 + 12 * i = 96 + 12 * i + 10 from by omega]; exact house1 (f := 10) (by omega)
    rw [show 96 + 12 * i + 10 = 106 + 12 * i from by omega] at f10
    unfold f_9_backCount_l4 f_12_gaveIn_l4
    rw [em, if_neg d1, rV_0_10 hv, aV_10 hv (by omega), Option.bind_some, ← f10, rf_0_0, l_11, en, Option.bind_some, if_neg d1, hh, Option.bind_some, nI_1]
    rcases hb i (by omega) with b10 | b10
    · rw [b10, if_pos rfl, if_pos rfl, nI_1]
      exact ih (i + 1) a b x (y + 1) (by omega) (by omega) (by omega) (by omega)
    · rw [b10, if_neg (by decide), if_neg (by decide), nI_1, nI_p0]
      exact ih (i + 1) a b (x + 1) y (by omega) (by omega) (by omega) (by omega)
theorem lt_120 {i : Nat} (h : i < 120) : ¬ (120 : Int32) ≤ nI i := nI_ge (b := 120) h (by decide)
theorem hold_l {v : Nat} {μ0 ν0 : mm} : ∀ (m i f1 f2 t : Nat) (μ ν : mm), i + m = 120 → m < f1 → m < f2 → t + m ≤ 1200 → VB v μ ν → ν 1 0 = nI t → (∀ b, (b < v ∨ v + 94 ≤ b) → μ b = μ0 b) → (∀ b, b ≠ 1 → ¬ (9 ≤ b ∧ b < 14) → ν b = ν0 b) → ∃ h μ' ν', f_9_holdOut_l7 v f1 (nI i) μ = some (nI h, μ') ∧ f_12_valleyLasts_l2 0 f2 (nI i) ν = some (nI h, ν') ∧ (∀ b, (b < v ∨ v + 94 ≤ b) → μ' b = μ0 b) ∧ (∀ b, b ≠ 1 → ¬ (9 ≤ b ∧ b < 14) → ν' b = ν0 b) := by
  intro m
  induction m with
  | zero =>
    intro i f1 f2 t μ ν h1 h2 h3 h4 hB e0 hm hk
    obtain ⟨a, rfl⟩ : ∃ a, f1 = a + 1 := ⟨f1 - 1, by omega⟩
    obtain ⟨b, rfl⟩ : ∃ b, f2 = b + 1 := ⟨f2 - 1, by omega⟩
    obtain rfl : i = 120 := by omega
    refine ⟨120, μ, ν, ?_, ?_, hm, hk⟩
    · unfold f_9_holdOut_l7
      rw [if_pos (show (120 : Int32) ≤ nI 120 from Int32.le_refl _)]
      rfl
    · unfold f_12_valleyLasts_l2
      rw [if_pos (show (120 : Int32) ≤ nI 120 from Int32.le_refl _)]
  | succ m ih =>
    intro i f1 f2 t μ ν h1 h2 h3 h4 hB e0 hm hk
    obtain ⟨a, rfl⟩ : ∃ a, f1 = a + 1 := ⟨f1 - 1, by omega⟩
    obtain ⟨b, rfl⟩ : ∃ b, f2 = b + 1 := ⟨f2 - 1, by omega⟩
    have hv := hB.1
    have hV5 := hB.2.1.2.2.2.2.1
    obtain ⟨n, hn, en, nn11⟩ := cnt_of (m := 16) (by decide) hB.2.2.2.1.2.2.2.1
    have em : μ v 4 = nI n := (hB.2.1.1 11 (by decide)).symm.trans en
    have m0 : μ v 0 = nI t := (hB.2.1.1 0 (by decide)).symm.trans e0
    have hb : ∀ p, p < n → ν 1 (106 + 12 * p) = 0 ∨ ν 1 (106 + 12 * p) = 1 := fun p hp => (hB.2.2.2.2.2.2.2.1 p (by omega)).2.2.2.2.2.2.2.1
    obtain ⟨x', y', hxy, g1, g2⟩ := stay_l hv hn em en (fun p f hp hf => hV5 p f (by omega) hf) hb n 0 FU FU 0 0 (by omega) (show n < 2000 by omega) (show n < 2000 by omega) rfl
    rw [show nI 0 = 0 from rfl] at g1 g2
    have dC : (2 * (nI n - nI x') : Int32) = nI (2 * y') := by rw [pk_sub (by omega), show (2 : Int32) = nI 2 from rfl, pk_mul, show n - x' = y' from by omega]
    have dM : (2 * nI y' : Int32) = nI (2 * y') := by rw [show (2 : Int32) = nI 2 from rfl, pk_mul]
    by_cases c : n ≤ 2 * y'
    · have c' : nI n ≤ nI (2 * y') := nI_le c (by omega)
      have hT := VB_today hB (show t + 1 ≤ 1200 by omega)
      obtain ⟨μ2, ν2, k1, k2, k3, k4, k5, k6⟩ := goes_calm (c2 := nI i) hT
      have hs : ∃ μ8, f_9_shareIfDue v (up μ v 0 (nI (t + 1))) = some μ8 ∧ f_9_holdOut_l49 v (nI i) FU 0 μ8 = some μ2 := by
        cases h : f_9_shareIfDue v (up μ v 0 (nI (t + 1))) with
        | none => rw [h] at k1; cases k1
        | some μ8 => rw [h] at k1; exact ⟨μ8, rfl, k1⟩
      obtain ⟨μ8, s1, s2⟩ := hs
      obtain ⟨h, μ', ν', q1, q2, q3, q4⟩ := ih (i + 1) a b (t + 1) μ2 ν2 (by omega) (by omega) (by omega) (by omega) k3 (by rw [k6 0 (by omega) (by omega), up_at]) (fun b hb => by rw [k4 b hb, up_ne (by omega)]; exact hm b hb) (fun b p1 p2 => by rw [k5 b p1 p2, up_ne p1]; exact hk b p1 p2)
      refine ⟨h, μ', ν', ?_, ?_, q3, q4⟩
      · unfold f_9_holdOut_l7 f_9_backCount
        rw [if_neg (lt_120 (by omega)), g1, Option.bind_some, Option.bind_some, em, dC, if_pos c', pf_eq, Option.bind_some, m0, nI_1, s1, Option.bind_some, s2, Option.bind_some, nI_1]
        exact q1
      · unfold f_12_valleyLasts_l2 f_12_gaveIn
        rw [if_neg (lt_120 (by omega)), g2, Option.bind_some, rf_0_0, l_11, en, Option.bind_some, dM, if_pos c', Option.bind_some, if_pos rfl, l_0, e0, Option.bind_some, nI_1, s_0, Option.bind_some, k2, Option.bind_some, nI_1]
        exact q2
    · have c' : ¬ nI n ≤ nI (2 * y') := nI_ge (by omega) (by omega)
      refine ⟨i, μ, ν, ?_, ?_, hm, hk⟩
      · unfold f_9_holdOut_l7 f_9_backCount
        rw [if_neg (lt_120 (by omega)), g1, Option.bind_some, Option.bind_some, em, dC, if_neg c']
      · unfold f_12_valleyLasts_l2 f_12_gaveIn
        rw [if_neg (lt_120 (by omega)), g2, Option.bind_some, rf_0_0, l_11, en, Option.bind_some, dM, if_neg c', Option.bind_some, if_neg (by decide)]
theorem works_M {ν : mm} {a bu st t : Nat} (ha : a ≤ 6) (ht : t < 2000) (hst : st ≤ 99999) (hbu : bu ≤ 999) (e2 : ν 1 2 = nI st) (e4 : ν 1 4 = nI bu) (e14 : ν 1 14 = nI a) (e0 : ν 1 0 = nI t) (hr : ∀ j, j < a → (nI t ≤ ν 1 (843 + 2 * j) ∧ ν 1 (843 + 2 * j) ≤ 999) ∧ (1 ≤ ν 1 (843 + 2 * j + 1) ∧ ν 1 (843 + 2 * j + 1) ≤ 9999)) : ∃ a' ν', f_12_worksGo 0 1 ν = some ν' ∧ a' ≤ a ∧ ν' 1 14 = nI a' ∧ ν' 1 2 = fo (ν 1) (nI t) a 0 (nI (st - bu)) ∧ ν' 1 0 = nI t ∧ ν' 1 4 = nI bu ∧ (∀ b, b ≠ 1 → ν' b = ν b) ∧ (∀ j, j < a' → (nI t < ν' 1 (843 + 2 * j) ∧ ν' 1 (843 + 2 * j) ≤ 999) ∧ (1 ≤ ν' 1 (843 + 2 * j + 1) ∧ ν' 1 (843 + 2 * j + 1) ≤ 9999)) ∧ (∀ d s0, d ≠ nI t → fo (ν' 1) d a' 0 s0 = fo (ν 1) d a 0 s0) := by
  have hmx : mx 0 (nI st - nI bu) = nI (st - bu) := mx0_nI (by omega) (by omega)
  obtain ⟨a', ν2, g1, g2, g3, g4, g5, g6, g7⟩ := M_l27 (g0 := ν 1) ha ht hr a 0 0 FU (nI (st - bu)) (up ν 1 2 (nI (st - bu))) (by omega) (by omega) (show a < 2000 by omega) (by rw [up_ns (by decide)]; exact e14) (by rw [up_ns (by decide)]; exact e0) up_at (fun j _ _ => ⟨up_ns (by omega), up_ns (by omega)⟩) (fun j hj => absurd hj (by omega))
  rw [show nI 0 = 0 from rfl] at g1
  refine ⟨a', up ν2 1 14 (nI a'), ?_, g2, up_at, by rw [up_ns (by decide), g3], by rw [up_ns (by decide), g5 0 (by decide) (by omega), up_ns (by decide)]; exact e0, by rw [up_ns (by decide), g5 4 (by decide) (by omega), up_ns (by decide)]; exact e4, fun b hb => by rw [up_ne hb, g4 b hb, up_ne hb], fun j hj => by rw [up_ns (by omega), up_ns (by omega)]; exact g6 j hj, fun d s0 hd => ?_⟩
  · unfold f_12_worksGo
    rw [rf_0_0, l_2, e2, Option.bind_some, l_4, e4, Option.bind_some, hmx, s_2, Option.bind_some, g1, Option.bind_some]
    dsimp only
    rw [if_neg (by decide), Option.bind_some, s_14, Option.bind_some]
  · rw [fo_cg a' 0 _ (fun j _ _ => ⟨up_ns (by omega), up_ns (by omega)⟩), g7 d s0 hd]
    show fo (up ν 1 2 (nI (st - bu)) 1) d a 0 s0 = _
    exact fo_cg a 0 _ (fun j _ _ => ⟨up_ns (by omega), up_ns (by omega)⟩)
theorem comp1 {n bu t0 : Nat} {μ : mm} {g : Nat → Int32} (hn : n ≤ 6) (hbu : bu ≤ 999) (ht0 : t0 ≤ 999) (em : μ 61 2 = nI n) (eb : μ 61 1 = nI bu) (v8 : ∀ j, j < n → g (843 + 2 * j) = μ 62 j ∧ g (843 + 2 * j + 1) = μ 63 j) : ∀ (m i f1 f2 st a : Nat) (ν : mm), i + m = 120 → m < f1 → m < f2 → st ≤ 99999 → a ≤ 6 → ν 1 2 = nI st → ν 1 4 = nI bu → ν 1 14 = nI a → ν 1 0 = nI (t0 + i) → (∀ j, j < a → (nI (t0 + i) < ν 1 (843 + 2 * j) ∧ ν 1 (843 + 2 * j) ≤ 999) ∧ (1 ≤ ν 1 (843 + 2 * j + 1) ∧ ν 1 (843 + 2 * j + 1) ≤ 9999)) → (∀ e s0, t0 + i < e → e < 2000 → fo (ν 1) (nI e) a 0 s0 = fo g (nI e) n 0 s0) → ∃ h ν', f_10_daysLeft_l6 61 (nI t0) 1 μ f1 (nI st) (nI i) = some (nI h) ∧ f_12_companyLasts_l2 0 1 f2 (nI i) ν = some (nI h, ν') ∧ (∀ b, b ≠ 1 → ν' b = ν b) := by
  intro m
  induction m with
  | zero =>
    intro i f1 f2 st a ν h1 h2 h3 h4 ha e2 e4 e14 e0 hr hf
    obtain ⟨p, rfl⟩ : ∃ p, f1 = p + 1 := ⟨f1 - 1, by omega⟩
    obtain ⟨q, rfl⟩ : ∃ q, f2 = q + 1 := ⟨f2 - 1, by omega⟩
    obtain rfl : i = 120 := by omega
    refine ⟨120, ν, ?_, ?_, fun _ _ => rfl⟩
    · unfold f_10_daysLeft_l6
      rw [if_pos (show (120 : Int32) ≤ nI 120 from Int32.le_refl _)]
      rfl
    · unfold f_12_companyLasts_l2
      rw [if_pos (show (120 : Int32) ≤ nI 120 from Int32.le_refl _)]
  | succ m ih =>
    intro i f1 f2 st a ν h1 h2 h3 h4 ha e2 e4 e14 e0 hr hf
    obtain ⟨p, rfl⟩ : ∃ p, f1 = p + 1 := ⟨f1 - 1, by omega⟩
    obtain ⟨q, rfl⟩ : ∃ q, f2 = q + 1 := ⟨f2 - 1, by omega⟩
    by_cases c : st = 0
    · subst c
      refine ⟨i, ν, ?_, ?_, fun _ _ => rfl⟩
      · unfold f_10_daysLeft_l6
        rw [if_neg (lt_120 (by omega)), if_pos (show nI 0 = 0 from rfl)]
      · unfold f_12_companyLasts_l2
        rw [if_neg (lt_120 (by omega)), rf_0_0, l_2, e2, Option.bind_some, if_pos (show nI 0 ≤ 0 from Int32.le_refl _)]
    · have hk : ∀ k, k ≠ 0 → up ν 1 0 (nI (t0 + i + 1)) 1 k = ν 1 k := fun k hk => up_ns hk
      obtain ⟨a', ν2, g1, g2, g3, g4, g5, g6, g7, g8, g9⟩ := works_M (ν := up ν 1 0 (nI (t0 + i + 1))) (t := t0 + i + 1) ha (by omega) h4 hbu (by rw [hk 2 (by decide)]; exact e2) (by rw [hk 4 (by decide)]; exact e4) (by rw [hk 14 (by decide)]; exact e14) up_at (fun j hj => by
        rw [hk _ (by omega), hk _ (by omega)]
        have r := hr j hj
        refine ⟨⟨?_, r.1.2⟩, r.2⟩
        have q1 := r.1.1
        rw [Int32.lt_iff_toInt_lt, nI_toInt (by omega)] at q1
        rw [Int32.le_iff_toInt_le, nI_toInt (by omega)]
        omega)
      have fe : fo (up ν 1 0 (nI (t0 + i + 1)) 1) (nI (t0 + i + 1)) a 0 (nI (st - bu)) = fo g (nI (t0 + i + 1)) n 0 (nI (st - bu)) := by
        rw [← hf (t0 + i + 1) _ (by omega) (by omega)]
        exact fo_cg a 0 _ (fun j _ _ => ⟨hk _ (by omega), hk _ (by omega)⟩)
      have fr := fo_rg (g := up ν 1 0 (nI (t0 + i + 1)) 1) (d := nI (t0 + i + 1)) a 0 (nI (st - bu)) (le_lit (m := 99999) (by omega) (by decide)) (fun j _ hj => by rw [hk _ (by omega)]; exact (hr j (by omega)).2)
      rw [fe] at fr g4
      obtain ⟨st', hst', est', -⟩ := cnt_of (m := 99999) (by decide) fr
      have hmx : mx 0 (nI st - nI bu) = nI (st - bu) := mx0_nI (by omega) (by omega)
      have c15 := C_l15 (v := 49) (g := g) (d := nI (t0 + i + 1)) isV_now hn em v8 n 0 FU (nI (st - bu)) (by omega) (show n < 2000 by omega)
      rw [show nI 0 = 0 from rfl] at c15
      obtain ⟨h, ν', q1, q2, q3⟩ := ih (i + 1) p q st' a' ν2 (by omega) (by omega) (by omega) hst' (by omega) (g4.trans est') g6 g3 (by rw [g5]; rfl) g8 (fun e s0 p1 p2 => by
        rw [g9 (nI e) s0 (fun z => absurd ((nI_eq (by omega) (by omega)).mp z) (by omega)), ← hf e s0 (by omega) p2]
        exact fo_cg a 0 _ (fun j _ _ => ⟨hk _ (by omega), hk _ (by omega)⟩))
      refine ⟨h, ν', ?_, ?_, fun b hb => by rw [q3 b hb, g7 b hb, up_ne hb]⟩
      · unfold f_10_daysLeft_l6 f_10_stockAfter
        rw [if_neg (lt_120 (by omega)), if_neg (nI_ne0 (by omega) (by omega)), eb, hmx, nI_add, nI_1]
        rw [show f_10_stockAfter_l15 61 (nI (t0 + i + 1)) 1 μ FU (nI (st - bu)) 0 = _ from c15, Option.bind_some, Option.bind_some, est', nI_1]
        exact q1
      · unfold f_12_companyLasts_l2
        rw [if_neg (lt_120 (by omega)), rf_0_0, l_2, e2, Option.bind_some, if_neg (nI_nle (by omega) (by omega)), l_0, e0, Option.bind_some, nI_1, s_0, Option.bind_some, g1, Option.bind_some, nI_1]
        exact q2
theorem comp0 {bu : Nat} {t0 : Int32} {μ : mm} (hbu : bu ≤ 999) (eb : μ 61 1 = nI bu) : ∀ (m i f1 f2 st : Nat) (ν : mm), i + m = 120 → m < f1 → m < f2 → st ≤ 99999 → ν 1 2 = nI st → ν 1 4 = nI bu → ∃ h ν', f_10_daysLeft_l6 61 t0 0 μ f1 (nI st) (nI i) = some (nI h) ∧ f_12_companyLasts_l2 0 0 f2 (nI i) ν = some (nI h, ν') ∧ (∀ b, b ≠ 1 → ν' b = ν b) := by
  intro m
  induction m with
  | zero =>
    intro i f1 f2 st ν h1 h2 h3 h4 e2 e4
    obtain ⟨p, rfl⟩ : ∃ p, f1 = p + 1 := ⟨f1 - 1, by omega⟩
    obtain ⟨q, rfl⟩ : ∃ q, f2 = q + 1 := ⟨f2 - 1, by omega⟩
    obtain rfl : i = 120 := by omega
    refine ⟨120, ν, ?_, ?_, fun _ _ => rfl⟩
    · unfold f_10_daysLeft_l6
      rw [if_pos (show (120 : Int32) ≤ nI 120 from Int32.le_refl _)]
      rfl
    · unfold f_12_companyLasts_l2
      rw [if_pos (show (120 : Int32) ≤ nI 120 from Int32.le_refl _)]
  | succ m ih =>
    intro i f1 f2 st ν h1 h2 h3 h4 e2 e4
    obtain ⟨p, rfl⟩ : ∃ p, f1 = p + 1 := ⟨f1 - 1, by omega⟩
    obtain ⟨q, rfl⟩ : ∃ q, f2 = q + 1 := ⟨f2 - 1, by omega⟩
    by_cases c : st = 0
    · subst c
      refine ⟨i, ν, ?_, ?_, fun _ _ => rfl⟩
      · unfold f_10_daysLeft_l6
        rw [if_neg (lt_120 (by omega)), if_pos (show nI 0 = 0 from rfl)]
      · unfold f_12_companyLasts_l2
        rw [if_neg (lt_120 (by omega)), rf_0_0, l_2, e2, Option.bind_some, if_pos (show nI 0 ≤ 0 from Int32.le_refl _)]
    · have hmx : mx 0 (nI st - nI bu) = nI (st - bu) := mx0_nI (by omega) (by omega)
      have hC : ∀ d s, f_10_stockAfter_l15 61 d 0 μ FU s 0 = some s := fun d s => by
        show f_10_stockAfter_l15 61 d 0 μ (1999 + 1) s 0 = some s
        unfold f_10_stockAfter_l15
        by_cases z : μ 61 2 ≤ 0
        · rw [if_pos z]
        · rw [if_neg z, if_pos rfl]
      have hM : ∀ ξ : mm, f_12_worksGo_l27 0 0 FU 0 0 ξ = some (0, ξ) := fun ξ => by
        show f_12_worksGo_l27 0 0 (1999 + 1) 0 0 ξ = some (0, ξ)
        unfold f_12_worksGo_l27
        rw [rf_0_0, l_14, Option.bind_some]
        by_cases z : ξ 1 14 ≤ 0
        · rw [if_pos z]
        · rw [if_neg z, if_pos rfl]
      obtain ⟨h, ν', q1, q2, q3⟩ := ih (i + 1) p q (st - bu) (up (up (up ν 1 0 (ν 1 0 + 1)) 1 2 (nI (st - bu))) 1 14 (ν 1 14)) (by omega) (by omega) (by omega) (by omega) (by rw [up_ns (by decide), up_at]) (by rw [up_ns (by decide), up_ns (by decide), up_ns (by decide)]; exact e4)
      refine ⟨h, ν', ?_, ?_, fun b hb => by rw [q3 b hb, up_ne hb, up_ne hb, up_ne hb]⟩
      · unfold f_10_daysLeft_l6 f_10_stockAfter
        rw [if_neg (lt_120 (by omega)), if_neg (nI_ne0 (by omega) (by omega)), eb, hmx, hC, Option.bind_some, Option.bind_some, nI_1]
        exact q1
      · unfold f_12_companyLasts_l2 f_12_worksGo
        rw [if_neg (lt_120 (by omega)), rf_0_0, l_2, e2, Option.bind_some, if_neg (nI_nle (by omega) (by omega)), l_0, Option.bind_some, s_0, Option.bind_some, l_2, up_ns (by decide), e2, Option.bind_some, l_4, up_ns (by decide), e4, Option.bind_some, hmx, s_2, Option.bind_some, hM, Option.bind_some]
        dsimp only
        rw [if_pos rfl, l_14, Option.bind_some, Option.bind_some, up_ns (by decide), up_ns (by decide), s_14, Option.bind_some, nI_1, Option.bind_some]
        exact q2
/-- the model's row is as it was behind what was tried -/
theorem Cp_aside {μ μ' ν ν' : mm} (h : Cp μ ν) (hm : ∀ b, (b < 237 ∨ 331 ≤ b) → μ' b = μ b) (hn : ∀ b, b ≠ 1 → b ≠ 3 → ¬ (9 ≤ b ∧ b < 14) → ν' b = ν b) (h1 : ∀ k, k < 912 → ν' 1 k = ν 1 k) : Cp μ' ν' := by
  have h2 : Cp μ (fun b => if b = 1 then ν' 1 else ν b) := by
    refine Cp_now h (fun _ _ => rfl) (fun b hb => if_neg hb) ?_ ?_
    · exact VP_congr (fun k hk => h1 k hk) (fun _ _ _ => rfl) (IV_nn h.2.1) h.1
    · exact IV_cg (fun k hk => h1 k hk) h.2.1
  refine Cp_scr h2 (fun b hb => hm b (by omega)) (by rw [hm 85 (by omega)]) (fun b hb => ?_)
  by_cases c : b = 1
  · subst c
    exact (if_pos rfl).symm
  · refine Eq.trans ?_ (if_neg c).symm
    exact hn b c (by omega) (by omega)
theorem T_last {μ ν : mm} (a : Int32) (h : Cp μ ν) : Ok (f_11_last 23 a μ) fun z => Ok (f_12_last 0 a ν) fun w => z.1 = w.1 ∧ Cp z.2 w.2 := by
  have i1 := h.2.1.1
  have v1 := h.1.1
  have kl : f_12_last_l13 0 a FU 0 ν = some (cpL ν 3 1 0) := last_in 912 0 FU ν (by omega) (show 912 < 2000 by omega)
  have ko : ∀ (x : Int32) (ξ : mm), f_12_last_l122 0 x FU 0 ξ = some (cpL ξ 1 3 0) := fun x ξ => last_out 912 0 FU ξ (by omega) (show 912 < 2000 by omega)
  have c1 : ∀ k, cpL ν 3 1 0 1 k = ν 1 k := fun k => by rw [cpL_ne (by decide)]
  obtain ⟨t, ht, et, -⟩ := cnt_of (m := 999) (by decide) i1.1
  obtain ⟨st, hst, est, -⟩ := cnt_of (m := 99999) (by decide) i1.2.2.1
  obtain ⟨bu, hbu, ebu, -⟩ := cnt_of (m := 999) (by decide) i1.2.2.2.2.1
  obtain ⟨ps, hps, eps, -⟩ := cnt_of (m := 99999) (by decide) i1.2.2.2.2.2.2.2
  obtain ⟨n, hn, en, nnn⟩ := cnt_of (m := 6) (by decide) h.2.1.2.1.2.2.2.2.2.2.1
  have m0 : μ 49 0 = nI t := (v1 0 (by decide)).symm.trans et
  have ms : μ 61 0 = nI st := (v1 2 (by decide)).symm.trans est
  have mb : μ 61 1 = nI bu := (v1 4 (by decide)).symm.trans ebu
  have mp : μ 64 9 = nI ps := (v1 7 (by decide)).symm.trans eps
  have mn6 : μ 61 2 = nI n := (v1 14 (by decide)).symm.trans en
  have m5 : μ 49 5 = ν 1 1 := (v1 1 (by decide)).symm
  have m8 : μ 64 8 = ν 1 6 := (v1 6 (by decide)).symm
  have fin : ∀ (μ' ν' : mm), (∀ b, (b < 237 ∨ 331 ≤ b) → μ' b = μ b) → (∀ b, b ≠ 1 → ¬ (9 ≤ b ∧ b < 14) → ν' b = cpL ν 3 1 0 b) → Cp μ' (cpL ν' 1 3 0) := fun μ' ν' q1 q2 => Cp_aside h q1 (fun b p1 p2 p3 => by rw [cpL_ne p1, q2 b p1 p3, cpL_ne p2]) (fun k hk => by rw [cpL_in (by omega), q2 3 (by decide) (by omega), cpL_in (by omega)])
  have hold : ∀ F : Int32, (0 ≤ F ∧ F ≤ 99999) → ∀ μ2 : mm, VP 237 μ2 (ν 1) → (∀ b, (b < 237 ∨ 331 ≤ b) → μ2 b = μ b) → ∃ q μ' ν', f_9_holdOut_l7 237 FU 0 (up μ2 237 5 F) = some (nI q, μ') ∧ f_12_valleyLasts_l2 0 FU 0 (up (up (cpL ν 3 1 0) 1 1 F) 1 2 (ν 1 2)) = some (nI q, ν') ∧ (∀ b, (b < 237 ∨ 331 ≤ b) → μ' b = μ b) ∧ (∀ b, b ≠ 1 → ¬ (9 ≤ b ∧ b < 14) → ν' b = cpL ν 3 1 0 b) := by
    intro F hF μ2 hV hm
    have hN := IV_nn h.2.1
    have kf : ∀ k, k ≠ 1 → up (up (cpL ν 3 1 0) 1 1 F) 1 2 (ν 1 2) 1 k = ν 1 k := fun k hk => by
      by_cases c : k = 2
      · subst c; exact up_at
      · rw [up_ns c, up_ns hk, c1]
    have k1 : up (up (cpL ν 3 1 0) 1 1 F) 1 2 (ν 1 2) 1 1 = F := by rw [up_ns (by decide), up_at]
    have mf : ∀ b, b ≠ 237 → up μ2 237 5 F b = μ2 b := fun b hb => up_ne hb
    have hB : VB 237 (up μ2 237 5 F) (up (up (cpL ν 3 1 0) 1 1 F) 1 2 (ν 1 2)) := by
      obtain ⟨w1, w2, w3, w4, w5, w6, w7, w8, w9, w10, w11, w12⟩ := hV
      obtain ⟨j1, i2, i3, i4, i5, i6, i7, i8, i10, i11, i12⟩ := IV_JV h.2.1
      refine ⟨isV_im, ⟨?_, V2_cg hN (fun k a => kf k (by omega)) (fun b a => mf b (by omega)) w2, V3_cg hN (fun k a => kf k (by omega)) (fun b a => mf b (by omega)) w3, V4_cg hN (fun k a => kf k (by omega)) (fun b a => mf b (by omega)) w4, V5_cg hN (fun k a => kf k (by omega)) (fun b a => mf b (by omega)) w5, V6_cg hN (fun k a => kf k (by omega)) (fun b a => mf b (by omega)) w6, V7_cg hN (fun k a => kf k (by omega)) (fun b a => mf b (by omega)) w7, V8_cg hN (fun k a => kf k (by omega)) (fun b a => mf b (by omega)) w8, V9_cg hN (fun k a => kf k (by omega)) (fun b a => mf b (by omega)) w9, V10_cg hN (fun k a => kf k (by omega)) (fun b a => mf b (by omega)) w10, V11_cg hN (fun k a => kf k (by omega)) (fun b a => mf b (by omega)) w11, V12_cg hN (fun k a => kf k (by omega)) (fun b a => mf b (by omega)) w12⟩, ?_, I2_cg hN (fun k a => kf k (by omega)) i2, I3_cg hN (fun k a => kf k (by omega)) i3, I4_cg hN (fun k a => kf k (by omega)) i4, I5_cg hN (fun k a => kf k (by omega)) i5, I6_cg hN (fun k a => kf k (by omega)) i6, I7_cg hN (fun k a => kf k (by omega)) i7, I8_cg hN (fun k a => kf k (by omega)) i8, I10_cg hN (fun k a => kf k (by omega)) i10, I11_cg hN (fun k a => kf k (by omega)) i11, I12_cg hN (fun k a => kf k (by omega)) i12⟩
      · exact V1_up (k0 := 1) (c := 0) (s := 5) (by decide) rfl rfl (by rw [k1]; show _ = up μ2 237 5 F 237 5; rw [up_at]) (fun k a b => kf k b) (fun b j q1 q2 => up_nx q2) w1
      · rw [k1, kf 0 (by decide), kf 2 (by decide), kf 3 (by decide), kf 4 (by decide), kf 5 (by decide), kf 6 (by decide), kf 7 (by decide)]
        exact ⟨j1.1, hF, j1.2.2⟩
    obtain ⟨q, μ', ν', g1, g2, g3, g4⟩ := hold_l (μ0 := up μ2 237 5 F) (ν0 := up (up (cpL ν 3 1 0) 1 1 F) 1 2 (ν 1 2)) 120 0 FU FU t _ _ (by omega) (show 120 < 2000 by omega) (show 120 < 2000 by omega) (by omega) hB (by rw [kf 0 (by decide)]; exact et) (fun _ _ => rfl) (fun _ _ _ => rfl)
    exact ⟨q, μ', ν', g1, g2, fun b hb => by rw [g3 b (by omega), mf b (by omega), hm b hb], fun b p1 p2 => by rw [g4 b p1 p2, up_ne p1, up_ne p1]⟩
  by_cases a0 : a = 0
  · subst a0
    unfold f_11_last
    rw [if_pos rfl, rf_23_0, rf_23_2, Ok_bind]
    refine Ok_mono (take_ok Ap_im h.1 h.2.1.2.1 i1.2.2.2.1 (IV_hb h.2.1)) fun μ2 ⟨hV, hm⟩ => ?_
    obtain ⟨q, μ', ν', g1, g2, g3, g4⟩ := hold (ν 1 1) i1.2.1 μ2 hV (fun b hb => hm b (by omega))
    have e5 : μ2 49 5 = ν 1 1 := by rw [hm 49 (by omega)]; exact m5
    refine Ok_of (y := (nI q, μ')) (by unfold f_9_holdOut; rw [e5, pf_eq, Option.bind_some, g1, Option.bind_some]) (Ok_of (y := (nI q, cpL ν' 1 3 0)) ?_ ⟨rfl, fin μ' ν' g3 g4⟩)
    unfold f_12_last f_12_valleyLasts
    rw [within_t (by decide), Option.bind_some, if_neg (by decide), kl, Option.bind_some, if_neg (by decide), rf_0_0, l_1, c1, Option.bind_some, Option.bind_some, s_1, Option.bind_some, if_neg (by decide), l_2, up_ns (by decide), c1, Option.bind_some, Option.bind_some, s_2, Option.bind_some, if_pos (by decide), g2, Option.bind_some, Option.bind_some, Option.bind_some, ko, Option.bind_some]
  by_cases a1 : a = 1
  · subst a1
    obtain ⟨q, ν', g1, g2, g3⟩ := comp1 (t0 := t) (μ := μ) (g := ν 1) hn hbu ht mn6 mb (fun j hj => h.1.2.2.2.2.2.2.2.1 j (by omega)) 120 0 FU FU st n (up (up (cpL ν 3 1 0) 1 1 (ν 1 1)) 1 2 (ν 1 2)) (by omega) (show 120 < 2000 by omega) (show 120 < 2000 by omega) hst hn (by rw [up_at]; exact est) (by rw [up_ns (by decide), up_ns (by decide), c1]; exact ebu) (by rw [up_ns (by decide), up_ns (by decide), c1]; exact en) (by rw [up_ns (by decide), up_ns (by decide), c1]; exact et) (fun j hj => by
        rw [up_ns (by omega), up_ns (by omega), c1, up_ns (by omega), up_ns (by omega), c1]
        have r := h.2.1.2.2.2.2.2.2.2.2.1 j (by omega)
        rw [et, show 844 + 2 * j = 843 + 2 * j + 1 from by omega] at r
        exact r) (fun e s0 _ _ => fo_cg n 0 _ (fun j _ _ => ⟨by rw [up_ns (by omega), up_ns (by omega), c1], by rw [up_ns (by omega), up_ns (by omega), c1]⟩))
    rw [show nI 0 = 0 from rfl] at g1 g2
    refine Ok_of (y := (nI q, μ)) ?_ (Ok_of (y := (nI q, cpL ν' 1 3 0)) ?_ ⟨rfl, fin μ ν' (fun _ _ => rfl) (fun b p1 _ => by rw [g3 b p1, up_ne p1, up_ne p1])⟩)
    · unfold f_11_last f_10_daysLeft
      rw [if_neg (by decide), if_pos rfl, rf_23_0, rf_49_12, ms, m0, g1, Option.bind_some]
    · unfold f_12_last f_12_companyLasts
      rw [within_t (by decide), Option.bind_some, if_neg (by decide), kl, Option.bind_some, if_neg (by decide), rf_0_0, l_1, c1, Option.bind_some, Option.bind_some, s_1, Option.bind_some, if_neg (by decide), l_2, up_ns (by decide), c1, Option.bind_some, Option.bind_some, s_2, Option.bind_some, if_neg (by decide), if_pos rfl, Option.bind_some, g2, Option.bind_some, Option.bind_some, Option.bind_some, ko, Option.bind_some]
  by_cases a2 : a = 2
  · subst a2
    unfold f_11_last
    rw [if_neg (by decide), if_neg (by decide), if_pos rfl, rf_23_0, rf_23_2, rf_49_13, Ok_bind]
    refine Ok_mono (take_ok Ap_im h.1 h.2.1.2.1 i1.2.2.2.1 (IV_hb h.2.1)) fun μ2 ⟨hV, hm⟩ => ?_
    obtain ⟨q, μ', ν', g1, g2, g3, g4⟩ := hold (ν 1 6) i1.2.2.2.2.2.2.1 μ2 hV (fun b hb => hm b (by omega))
    have e5 : μ2 64 8 = ν 1 6 := by rw [hm 64 (by omega)]; exact m8
    refine Ok_of (y := (nI q, μ')) (by unfold f_9_holdOut; rw [e5, pf_eq, Option.bind_some, g1, Option.bind_some]) (Ok_of (y := (nI q, cpL ν' 1 3 0)) ?_ ⟨rfl, fin μ' ν' g3 g4⟩)
    unfold f_12_last f_12_valleyLasts
    rw [within_t (by decide), Option.bind_some, if_neg (by decide), kl, Option.bind_some, if_pos rfl, rf_0_0, l_6, c1, Option.bind_some, Option.bind_some, s_1, Option.bind_some, if_neg (by decide), l_2, up_ns (by decide), c1, Option.bind_some, Option.bind_some, s_2, Option.bind_some, if_pos (by decide), g2, Option.bind_some, Option.bind_some, Option.bind_some, ko, Option.bind_some]
  by_cases a3 : a = 3
  · subst a3
    obtain ⟨q, ν', g1, g2, g3⟩ := comp0 (t0 := nI t) (μ := μ) hbu mb 120 0 FU FU ps (up (up (cpL ν 3 1 0) 1 1 (ν 1 1)) 1 2 (ν 1 7)) (by omega) (show 120 < 2000 by omega) (show 120 < 2000 by omega) hps (by rw [up_at]; exact eps) (by rw [up_ns (by decide), up_ns (by decide), c1]; exact ebu)
    rw [show nI 0 = 0 from rfl] at g1 g2
    refine Ok_of (y := (nI q, μ)) ?_ (Ok_of (y := (nI q, cpL ν' 1 3 0)) ?_ ⟨rfl, fin μ ν' (fun _ _ => rfl) (fun b p1 _ => by rw [g3 b p1, up_ne p1, up_ne p1])⟩)
    · unfold f_11_last f_10_daysLeft
      rw [if_neg (by decide), if_neg (by decide), if_neg (by decide), if_pos rfl, rf_23_0, rf_49_12, rf_49_13, mp, m0, g1, Option.bind_some]
    · unfold f_12_last f_12_companyLasts
      rw [within_t (by decide), Option.bind_some, if_neg (by decide), kl, Option.bind_some, if_neg (by decide), rf_0_0, l_1, c1, Option.bind_some, Option.bind_some, s_1, Option.bind_some, if_pos rfl, l_7, up_ns (by decide), c1, Option.bind_some, Option.bind_some, s_2, Option.bind_some, if_neg (by decide), if_neg (by decide), Option.bind_some, g2, Option.bind_some, Option.bind_some, Option.bind_some, ko, Option.bind_some]
  · have w : ¬ (0 ≤ a ∧ a ≤ 3) := fun z => by
      obtain ⟨s, hs, rfl⟩ := four_of z
      have : s = 0 ∨ s = 1 ∨ s = 2 ∨ s = 3 := by omega
      rcases this with rfl | rfl | rfl | rfl
      · exact a0 rfl
      · exact a1 rfl
      · exact a2 rfl
      · exact a3 rfl
    refine Ok_of (y := (-1, μ)) ?_ (Ok_of (y := (-1, ν)) ?_ ⟨rfl, h⟩)
    · unfold f_11_last
      rw [if_neg a0, if_neg a1, if_neg a2, if_neg a3]
    · unfold f_12_last
      rw [within_f w, Option.bind_some, if_pos rfl]
