/-! conditions: one -/
theorem lda_2001 : ∀ j, j < 7 → lda 2001 (nI j) = some (1007 + j) := by decide +kernel
theorem lda_2000 : ∀ j, j < 7 → lda 2000 (nI j) = some (1000 + j) := by decide +kernel
theorem wI_11 : ∀ j, j < 7 → 1000 + wI (11 + j) = 1007 + j := by decide +kernel
theorem wI_00 : ∀ j, j < 7 → 1000 + wI j = 1000 + j := by decide +kernel
theorem fact_no {rm : Nat → Nat → mm → Option mm} {A : Int32} {ν : mm} (h : ∀ j, j < 7 → f_12_isName 0 (1007 + j) ν = some 0) : ∀ (m j f : Nat), j + m = 7 → m < f → f_12_one_l88 rm 0 A ν f (-1) (nI j) = some (-1) := by
  intro m
  induction m with
  | zero =>
    intro j f h1 h2
    obtain ⟨q, rfl⟩ : ∃ q, f = q + 1 := ⟨f - 1, by omega⟩
    obtain rfl : j = 7 := by omega
    unfold f_12_one_l88
    rw [if_pos (show (7 : Int32) ≤ nI 7 from Int32.le_refl _)]
  | succ m ih =>
    intro j f h1 h2
    obtain ⟨q, rfl⟩ : ∃ q, f = q + 1 := ⟨f - 1, by omega⟩
    unfold f_12_one_l88
    rw [if_neg (show ¬ (7 : Int32) ≤ nI j from nI_ge (b := 7) (by omega) (by decide)), lda_2001 j (by omega), Option.bind_some, h j (by omega), Option.bind_some, if_pos rfl, nI_1]
    exact ih (j + 1) q (by omega) (by omega)
theorem fact_yes {rm : Nat → Nat → mm → Option mm} {A : Int32} {ν : mm} {s : Nat} (hs : s < 7) (h : ∀ j, j < 7 → f_12_isName 0 (1007 + j) ν = some (if j = s then 1 else 0)) : ∀ (m j f : Nat) (v : Int32), j + m = 7 → m < f → (s < j → v = nI s) → f_12_one_l88 rm 0 A ν f v (nI j) = some (nI s) := by
  intro m
  induction m with
  | zero =>
    intro j f v h1 h2 hv
    obtain ⟨q, rfl⟩ : ∃ q, f = q + 1 := ⟨f - 1, by omega⟩
    obtain rfl : j = 7 := by omega
    unfold f_12_one_l88
    rw [if_pos (show (7 : Int32) ≤ nI 7 from Int32.le_refl _), hv hs]
  | succ m ih =>
    intro j f v h1 h2 hv
    obtain ⟨q, rfl⟩ : ∃ q, f = q + 1 := ⟨f - 1, by omega⟩
    unfold f_12_one_l88
    rw [if_neg (show ¬ (7 : Int32) ≤ nI j from nI_ge (b := 7) (by omega) (by decide)), lda_2001 j (by omega), Option.bind_some, h j (by omega), Option.bind_some, nI_1]
    by_cases e : j = s
    · rw [if_pos e, if_neg (by decide)]
      exact ih (j + 1) q _ (by omega) (by omega) (fun _ => by rw [e])
    · rw [if_neg e, if_pos rfl]
      exact ih (j + 1) q _ (by omega) (by omega) (fun z => hv (by omega))
theorem sort_no {A : Int32} {ν : mm} (h : ∀ j, j < 7 → f_12_isName 0 (1000 + j) ν = some 0) : ∀ (m j f : Nat), j + m = 7 → m < f → f_12_lineAt_l4 0 A ν f (-1) (nI j) = some (-1) := by
  intro m
  induction m with
  | zero =>
    intro j f h1 h2
    obtain ⟨q, rfl⟩ : ∃ q, f = q + 1 := ⟨f - 1, by omega⟩
    obtain rfl : j = 7 := by omega
    unfold f_12_lineAt_l4
    rw [if_pos (show (7 : Int32) ≤ nI 7 from Int32.le_refl _)]
  | succ m ih =>
    intro j f h1 h2
    obtain ⟨q, rfl⟩ : ∃ q, f = q + 1 := ⟨f - 1, by omega⟩
    unfold f_12_lineAt_l4
    rw [if_neg (show ¬ (7 : Int32) ≤ nI j from nI_ge (b := 7) (by omega) (by decide)), lda_2000 j (by omega), Option.bind_some, h j (by omega), Option.bind_some, if_pos rfl, nI_1]
    exact ih (j + 1) q (by omega) (by omega)
theorem sort_yes {A : Int32} {ν : mm} {s : Nat} (hs : s < 7) (h : ∀ j, j < 7 → f_12_isName 0 (1000 + j) ν = some (if j = s then 1 else 0)) : ∀ (m j f : Nat) (v : Int32), j + m = 7 → m < f → (s < j → v = nI s) → f_12_lineAt_l4 0 A ν f v (nI j) = some (nI s) := by
  intro m
  induction m with
  | zero =>
    intro j f v h1 h2 hv
    obtain ⟨q, rfl⟩ : ∃ q, f = q + 1 := ⟨f - 1, by omega⟩
    obtain rfl : j = 7 := by omega
    unfold f_12_lineAt_l4
    rw [if_pos (show (7 : Int32) ≤ nI 7 from Int32.le_refl _), hv hs]
  | succ m ih =>
    intro j f v h1 h2 hv
    obtain ⟨q, rfl⟩ : ∃ q, f = q + 1 := ⟨f - 1, by omega⟩
    unfold f_12_lineAt_l4
    rw [if_neg (show ¬ (7 : Int32) ≤ nI j from nI_ge (b := 7) (by omega) (by decide)), lda_2000 j (by omega), Option.bind_some, h j (by omega), Option.bind_some, nI_1]
    by_cases e : j = s
    · rw [if_pos e, if_neg (by decide)]
      exact ih (j + 1) q _ (by omega) (by omega) (fun _ => by rw [e])
    · rw [if_neg e, if_pos rfl]
      exact ih (j + 1) q _ (by omega) (by omega) (fun z => hv (by omega))
def otst (rc : Nat → Nat → mm → Option (mm)) (a0 : Nat) (A : Int32) (ν : mm) : Option (mm) :=
  (f_12_one_l88 rc a0 A ν FU (-1) 0).bind fun z5 =>
      (if z5 < 0 then
          some 0
        else
          some 1).bind fun (z7 : Int32) =>
      (f_12_need a0 z7 ν).bind fun μ9 =>
      (f_12_isSign a0 60 μ9).bind fun x11 =>
      (if x11 = 0 then
          (f_12_isSign a0 61 μ9).bind fun x13 =>
          if x13 = 0 then
            some 2
          else
            some 1
        else
          some 0).bind fun (z14 : Int32) =>
      (f_12_isSign a0 60 μ9).bind fun x16 =>
      (if x16 = 0 then
          (f_12_isSign a0 61 μ9).bind fun x18 =>
          if x18 = 0 then
            (f_12_isSign a0 62 μ9).bind fun x20 =>
            if x20 = 0 then
              some 0
            else
              some 1
          else
            some 1
        else
          some 1).bind fun (z21 : Int32) =>
      (f_12_need a0 z21 μ9).bind fun μ23 =>
      (f_12_number a0 999 μ23).bind fun z25 =>
      (f_12_codes a0 (((3000 * z5) + (1000 * z14)) + z25.1) z25.2).bind fun μ27 =>
      some μ27
def obr (rc : Nat → Nat → mm → Option (mm)) (a0 : Nat) (ν : mm) : Option (mm) :=
  (pf ν a0 14 ((ν a0 14) + 1)).bind fun μ28 =>
      (if 4 < (μ28 a0 14) then
          some 0
        else
          some 1).bind fun (z30 : Int32) =>
      (f_12_need a0 z30 μ28).bind fun μ32 =>
      (rc 0 a0 μ32).bind fun μ34 =>
      (f_12_isSign a0 41 μ34).bind fun x36 =>
      (f_12_need a0 x36 μ34).bind fun μ38 =>
      (pf μ38 a0 14 ((μ38 a0 14) - 1)).bind fun μ39 =>
      some μ39
theorem one_eq {rc : Nat → Nat → mm → Option (mm)} {ν : mm} : f_12_one_b rc 0 ν = (f_12_one_l2 rc 0 FU 0 ν).bind fun z1 => (f_12_isSign 0 40 z1.2).bind fun x4 => (if x4 = 0 then otst rc 0 z1.1 z1.2 else obr rc 0 z1.2).bind fun (z41 : mm) => (f_12_one_l224 rc 0 z1.1 FU 0 z41).bind fun z42 => some z42 := rfl
theorem otst_X {rc : Nat → Nat → mm → Option (mm)} {A : Int32} {ν : mm} (h : ν 0 13 = 1) : otst rc 0 A ν = some ν := by
  have f := fact_no (rm := rc) (A := A) (ν := ν) (fun j _ => name_F h) 7 0 FU rfl (show 7 < 2000 by decide)
  rw [show nI 0 = 0 from rfl] at f
  have a1 : ((-1 : Int32) < 0) = True := eq_true (by decide)
  unfold otst
  simp only [f, bs, a1, need_X h, sign_F h, number_X h, codes_X h, if_true]
theorem one_X {rc : Nat → Nat → mm → Option (mm)} {ν : mm} (h : ν 0 13 = 1) : f_12_one_b rc 0 ν = some ν := by
  have l2 : f_12_one_l2 rc 0 FU 0 ν = some (0, ν) := by
    show f_12_one_l2 rc 0 (1999 + 1) 0 ν = some (0, ν)
    unfold f_12_one_l2
    rw [name_F h, Option.bind_some, if_pos rfl]
  have l3 : f_12_one_l224 rc 0 0 FU 0 ν = some ν := by
    show f_12_one_l224 rc 0 0 (1999 + 1) 0 ν = some ν
    unfold f_12_one_l224
    rw [if_pos (Int32.le_refl _)]
  rw [one_eq, l2, Option.bind_some]
  dsimp only
  rw [sign_F h, Option.bind_some, if_pos rfl, otst_X h, Option.bind_some, l3, Option.bind_some]
theorem oneG_X {k : Nat} {ν : mm} (h : ν 0 13 = 1) : f_12_either_G (k + 1) 2 0 ν = some ν := one_X h
theorem allG_X {k : Nat} {ν : mm} (h : ν 0 13 = 1) : f_12_either_G (k + 2) 1 0 ν = some ν := by
  show f_12_all_b (f_12_either_G (k + 1)) 0 ν = some ν
  have l4 : f_12_all_l4 (f_12_either_G (k + 1)) 0 FU ν = some ν := by
    show f_12_all_l4 (f_12_either_G (k + 1)) 0 (1999 + 1) ν = some ν
    unfold f_12_all_l4
    rw [name_F h, Option.bind_some, if_pos rfl]
  unfold f_12_all_b
  rw [oneG_X h, Option.bind_some, l4, Option.bind_some]
theorem eitherG_X {k : Nat} {ν : mm} (h : ν 0 13 = 1) : f_12_either_G (k + 3) 0 0 ν = some ν := by
  show f_12_either_b (f_12_either_G (k + 2)) 0 ν = some ν
  have l4 : f_12_either_l4 (f_12_either_G (k + 2)) 0 FU ν = some ν := by
    show f_12_either_l4 (f_12_either_G (k + 2)) 0 (1999 + 1) ν = some ν
    unfold f_12_either_l4
    rw [name_F h, Option.bind_some, if_pos rfl]
  unfold f_12_either_b
  rw [allG_X h, Option.bind_some, l4, Option.bind_some]
theorem nts_X {rc : Nat → Nat → mm → Option (mm)} {t : Nat} {ν : mm} (h : ν 0 13 = 1) (ht : t < 900) : ∀ (m j f : Nat), j + m = t → m < f → f_12_one_l224 rc 0 (nI t) f (nI j) ν = some ν := by
  intro m
  induction m with
  | zero =>
    intro j f h1 h2
    obtain ⟨q, rfl⟩ : ∃ q, f = q + 1 := ⟨f - 1, by omega⟩
    unfold f_12_one_l224
    rw [show j = t from by omega, if_pos (Int32.le_refl _)]
  | succ m ih =>
    intro j f h1 h2
    obtain ⟨q, rfl⟩ : ∃ q, f = q + 1 := ⟨f - 1, by omega⟩
    unfold f_12_one_l224
    rw [if_neg (lt_n1 (by omega) (by omega)), codes_X h, Option.bind_some, nI_1]
    exact ih (j + 1) q (by omega) (by omega)
theorem nts_M {rc : Nat → Nat → mm → Option (mm)} {t y : Nat} (hy : y + t ≤ 120) : ∀ (m j f : Nat) (ν : mm), j + m = t → m < f → ν 0 13 = 0 → ν 0 15 = nI (y + j) → ∃ ν', f_12_one_l224 rc 0 (nI t) f (nI j) ν = some ν' ∧ ν' 0 15 = nI (y + t) ∧ (∀ k, k ≠ 15 → ν' 0 k = ν 0 k) ∧ (∀ b, b ≠ 0 → b ≠ 8 → ν' b = ν b) ∧ (∀ k, k < y + j → ν' 8 k = ν 8 k) ∧ (∀ k, y + j ≤ k → k < y + t → ν' 8 k = 30000) := by
  intro m
  induction m with
  | zero =>
    intro j f ν h1 h2 hf e
    obtain ⟨q, rfl⟩ : ∃ q, f = q + 1 := ⟨f - 1, by omega⟩
    obtain rfl : j = t := by omega
    refine ⟨ν, ?_, e, fun _ _ => rfl, fun _ _ _ => rfl, fun _ _ => rfl, fun k a b => absurd a (by omega)⟩
    unfold f_12_one_l224
    rw [if_pos (Int32.le_refl _)]
  | succ m ih =>
    intro j f ν h1 h2 hf e
    obtain ⟨q, rfl⟩ : ∃ q, f = q + 1 := ⟨f - 1, by omega⟩
    obtain ⟨ν', k1, k2, k3, k4, k5, k6⟩ := ih (j + 1) q (up (up ν 8 (y + j) 30000) 0 15 (nI (y + j + 1))) (by omega) (by omega) (by rw [up_ns (by decide), up_ne (by decide)]; exact hf) up_at
    refine ⟨ν', ?_, k2, fun k hk => by rw [k3 k hk, up_ns hk, up_ne (by decide)], fun b b1 b2 => by rw [k4 b b1 b2, up_ne b1, up_ne b2], fun k hk => by rw [k5 k (by omega), up_ne (by decide), up_ns (by omega)], fun k a b => ?_⟩
    · unfold f_12_one_l224
      rw [if_neg (lt_n1 (by omega) (by omega)), codes_Y hf e (by omega), Option.bind_some, nI_1]
      exact k1
    · by_cases c : k = y + j
      · subst c
        rw [k5 _ (by omega), up_ne (by decide), up_at]
      · exact k6 k (by omega) b
theorem slc_rep {f : Nat → Int32} {x : Int32} : ∀ (m a : Nat), (∀ k, a ≤ k → k < a + m → f k = x) → slc f a m = List.replicate m x
  | 0, _, _ => rfl
  | m + 1, a, h => by
    rw [slc_1, slc_rep m (a + 1) (fun k p q => h k (by omega) (by omega)), h a (Nat.le_refl _) (by omega)]
    rfl
/-- the class lays a code -/
theorem PS_addC {T : Nat → Nat} {n c i o z y : Nat} {v : Int32} {μ ν : mm} (h : PS T n c i o z y μ ν) (hz : z < i) : f_5_addCode 26 v μ = some (up (up μ 31 z v) 26 5 (nI (z + 1))) ∧ PS T n c i o (z + 1) y (up (up μ 31 z v) 26 5 (nI (z + 1))) ν ∧ FC z μ (up (up μ 31 z v) 26 5 (nI (z + 1))) := by
  obtain ⟨⟨hK, h1, h2, h3, h4, h5⟩, hR⟩ := h
  have c300 := hK.1
  exact ⟨addC h4 (by omega), ⟨⟨TK_cg hK (by rw [up_ne (by decide), up_ne (by decide)]) (by rw [up_ne (by decide), up_ne (by decide)]) (by rw [up_ne (by decide), up_ne (by decide)]), h1, by rw [up_ne (by decide), up_ne (by decide)]; exact h2, by rw [up_ne (by decide), up_ne (by decide)]; exact h3, up_at, by omega⟩, hR⟩, fun b b1 b2 b3 => by rw [up_ne b2, up_ne b3], fun k k1 k2 => by rw [up_ne (by decide), up_ne (by decide)], fun k k1 => by rw [up_ns k1, up_ne (by decide)], fun k hk => by rw [up_ne (by decide), up_ns (by omega)]⟩
theorem PS_addM {T : Nat → Nat} {n c i o z y : Nat} {u : Int32} {μ ν : mm} (h : PS T n c i o z y μ ν) (hy : 3 * y + 3 ≤ pz T n i) : f_12_codes 0 u ν = some (up (up ν 8 y u) 0 15 (nI (y + 1))) ∧ PS T n c i o z (y + 1) μ (up (up ν 8 y u) 0 15 (nI (y + 1))) ∧ FM y ν (up (up ν 8 y u) 0 15 (nI (y + 1))) := by
  obtain ⟨hC, hMP, m1, m2, m3, m4⟩ := h
  have hpn := pz_le (T := T) (n := n) i
  have hn := hMP.1.1
  exact ⟨codes_Y m1 m3 (by omega), ⟨hC, MP_cg hMP (fun k hk => by rw [up_ns (by omega), up_ne (by decide)]) (by rw [up_ne (by decide), up_ne (by decide)]), by rw [up_ns (by decide), up_ne (by decide)]; exact m1, by rw [up_ns (by decide), up_ne (by decide)]; exact m2, up_at, by omega⟩, fun b b1 b2 => by rw [up_ne b1, up_ne b2], fun k k1 => by rw [up_ns (by omega), up_ne (by decide)], fun k hk => by rw [up_ne (by decide), up_ns (by omega)]⟩
theorem upTo {T : Nat → Nat} {n c i o z y M : Nat} {μ ν : mm} (h : PS T n c i o z y μ ν) (hM : M ≤ 999) : ((pz T n i < n ∧ (48 ≤ T (pz T n i) ∧ T (pz T n i) ≤ 57) ∧ vl T n (pz T n i) ≤ M) → f_8_isNumberUpTo 24 (nI M) μ = some 1 ∧ ld μ 34 (μ 24 6) = some (nI (vl T n (pz T n i)))) ∧ (¬ (pz T n i < n ∧ (48 ≤ T (pz T n i) ∧ T (pz T n i) ≤ 57) ∧ vl T n (pz T n i) ≤ M) → f_8_isNumberUpTo 24 (nI M) μ = some 0) := by
  obtain ⟨⟨hK, h1, h2, h3, h4, h5⟩, -⟩ := h
  have c300 := hK.1
  have hA := hK.2.2.2 i (by omega)
  by_cases c : pz T n i < n ∧ 48 ≤ T (pz T n i) ∧ T (pz T n i) ≤ 57
  · have e2 : μ 24 7 = -2 := h3.trans (cd_d.mpr c)
    have l : ld μ 34 (μ 24 6) = some (nI (vl T n (pz T n i))) := by rw [h2, ldL len_34 (by omega) (by decide), hA.2.2 c.2 c.1]
    have lv := vl_lt (T := T) c.1 c.2
    refine ⟨fun g => ⟨?_, l⟩, fun g => ?_⟩
    · unfold f_8_isNumberUpTo
      rw [if_pos e2, rf_24_5, l, Option.bind_some, if_neg (nI_nlt g.2.2 (by omega))]
    · unfold f_8_isNumberUpTo
      rw [if_pos e2, rf_24_5, l, Option.bind_some, if_pos (nI_lt (by
        rcases Nat.lt_or_ge M (vl T n (pz T n i)) with q | q
        · exact q
        · exact absurd ⟨c.1, c.2, q⟩ g) (by omega))]
  · refine ⟨fun g => absurd ⟨g.1, g.2.1⟩ c, fun g => ?_⟩
    unfold f_8_isNumberUpTo
    rw [if_neg (fun z => c (cd_d.mp (h3.symm.trans z)))]
set_option maxHeartbeats 1000000 in
theorem test_rel {T : Nat → Nat} {n c i o z y : Nat} {rc : Nat → Nat → mm → Option (mm)} {A : Int32} {μ ν : mm} (hP : PS T n c i o z y μ ν) : Rel T n c o 1 (f_8_readTest 24 μ) (otst rc 0 A ν) μ ν i z y := by
  have e7 := hP.1.2.2.2.1
  have hf := hP.2.2.1
  by_cases a : ∃ s, s < 7 ∧ cd T n (pz T n i) = nI (11 + s)
  · obtain ⟨s, hs, es⟩ := a
    obtain ⟨p1, p2⟩ := word_on (by omega) es
    have w3 := wl_3 (11 + s) (by omega) (by omega) (by omega)
    obtain ⟨μ2, ν2, s1, s2, hP2, ⟨s4, s5⟩, ⟨s6, s7⟩⟩ := PS_step hP p1
    have hnm : ∀ j, j < 7 → f_12_isName 0 (1007 + j) ν = some (if j = s then 1 else 0) := fun j hj => by
      have := name_M (k := 11 + j) hP.2.1 (by omega) hf
      rw [wI_11 j hj, es] at this
      rw [this]
      by_cases q : j = s
      · rw [if_pos (by rw [q]), if_pos q]
      · rw [if_neg (fun t => q (by have := (nI_eq (by omega) (by omega)).mp t; omega)), if_neg q]
    have fy := fact_yes (rm := rc) (A := A) hs hnm 7 0 FU (-1) rfl (show 7 < 2000 by decide) (fun t => absurd t (by omega))
    rw [show nI 0 = 0 from rfl] at fy
    have in1 : f_11_isIn (μ 24 7) 11 17 μ = some 1 := by rw [e7, es]; exact isIn_t ⟨nI_le (a := 11) (by omega) (by omega), nI_le (b := 17) (by omega) (by decide)⟩
    have e72 := hP2.1.2.2.2.1
    have hf2 := hP2.2.2.1
    have g60 := sign_M (v := 60) hP2.2.1 (by omega) hf2
    have g61 := sign_M (v := 61) hP2.2.1 (by omega) hf2
    have g62 := sign_M (v := 62) hP2.2.1 (by omega) hf2
    rw [show nI 60 = 60 from rfl] at g60
    rw [show nI 61 = 61 from rfl] at g61
    rw [show nI 62 = 62 from rfl] at g62
    have hO : otst rc 0 A ν = (f_12_isSign 0 60 ν2).bind fun x11 => (if x11 = 0 then (f_12_isSign 0 61 ν2).bind fun x13 => if x13 = 0 then some 2 else some 1 else some 0).bind fun (z14 : Int32) => (f_12_isSign 0 60 ν2).bind fun x16 => (if x16 = 0 then (f_12_isSign 0 61 ν2).bind fun x18 => if x18 = 0 then (f_12_isSign 0 62 ν2).bind fun x20 => if x20 = 0 then some 0 else some 1 else some 1 else some 1).bind fun (z21 : Int32) => (f_12_need 0 z21 ν2).bind fun μ23 => (f_12_number 0 999 μ23).bind fun z25 => (f_12_codes 0 (((3000 * nI s) + (1000 * z14)) + z25.1) z25.2).bind fun μ27 => some μ27 := by
      unfold otst
      rw [fy, Option.bind_some, if_neg (nI_pos (by omega)), Option.bind_some, need_Y hf, s2, Option.bind_some]
    have hC : f_8_readTest 24 μ = (f_11_isIn (μ2 24 7) 60 62 μ2).bind fun x6 => if x6 = 0 then some (0, μ2) else (f_8_step 24 μ2).bind fun μ8 => (f_8_isNumberUpTo 24 999 μ8).bind fun x10 => if x10 = 0 then some (0, μ8) else (ld μ8 34 (μ8 24 6)).bind fun x11 => (f_5_codeOfTest (nI s) ((μ2 24 7) - 60) x11 μ8).bind fun x14 => (f_5_addCode 26 x14 μ8).bind fun μ16 => (f_8_step 24 μ16).bind fun μ18 => some (1, μ18) := by
      unfold f_8_readTest
      rw [in1, Option.bind_some, if_neg (by decide), s1, Option.bind_some, rf_24_2, rf_24_5, e7, es, show (nI (11 + s) - 11 : Int32) = nI s from by rw [show (11 : Int32) = nI 11 from rfl, pk_sub (by omega), show 11 + s - 11 = s from by omega]]
    by_cases b : ∃ g, g < 3 ∧ cd T n (pz T n (i + 1)) = nI (60 + g)
    · obtain ⟨g, hg, eg⟩ := b
      have p3 := ((cd_g (v := 60 + g) (by omega)).mp eg).1
      have p4 := sign_on p3
      obtain ⟨μ3, ν3, t1, t2, hP3, ⟨t4, t5⟩, ⟨t6, t7⟩⟩ := PS_step hP2 p3
      have in2 : f_11_isIn (μ2 24 7) 60 62 μ2 = some 1 := by rw [e72, eg]; exact isIn_t ⟨nI_le (a := 60) (by omega) (by omega), nI_le (b := 62) (by omega) (by decide)⟩
      have sg : (μ2 24 7 - 60 : Int32) = nI g := by rw [e72, eg, show (60 : Int32) = nI 60 from rfl, pk_sub (by omega), show 60 + g - 60 = g from by omega]
      have hO2 : otst rc 0 A ν = (f_12_number 0 999 ν3).bind fun z25 => (f_12_codes 0 (((3000 * nI s) + (1000 * nI g)) + z25.1) z25.2).bind fun μ27 => some μ27 := by
        rw [hO, g60, g61, g62, eg]
        have g3 : g = 0 ∨ g = 1 ∨ g = 2 := by omega
        rcases g3 with rfl | rfl | rfl
        · rw [if_pos (show nI (60 + 0) = 60 from rfl), Option.bind_some, if_neg (show ¬ (1 : Int32) = 0 by decide), Option.bind_some, Option.bind_some, if_neg (show ¬ (1 : Int32) = 0 by decide), Option.bind_some, need_Y hf2, t2, Option.bind_some]
          rfl
        · rw [if_neg (show ¬ nI (60 + 1) = 60 by decide), if_pos (show nI (60 + 1) = 61 from rfl), Option.bind_some, if_pos (show (0 : Int32) = 0 from rfl), Option.bind_some, if_neg (show ¬ (1 : Int32) = 0 by decide), Option.bind_some, Option.bind_some, if_pos (show (0 : Int32) = 0 from rfl), Option.bind_some, if_neg (show ¬ (1 : Int32) = 0 by decide), Option.bind_some, need_Y hf2, t2, Option.bind_some]
          rfl
        · rw [if_neg (show ¬ nI (60 + 2) = 60 by decide), if_neg (show ¬ nI (60 + 2) = 61 by decide), if_pos (show nI (60 + 2) = 62 from rfl), Option.bind_some, if_pos (show (0 : Int32) = 0 from rfl), Option.bind_some, if_pos (show (0 : Int32) = 0 from rfl), Option.bind_some, Option.bind_some, if_pos (show (0 : Int32) = 0 from rfl), Option.bind_some, if_pos (show (0 : Int32) = 0 from rfl), Option.bind_some, if_neg (show ¬ (1 : Int32) = 0 by decide), Option.bind_some, need_Y hf2, t2, Option.bind_some]
          rfl
      have hC2 : f_8_readTest 24 μ = (f_8_isNumberUpTo 24 999 μ3).bind fun x10 => if x10 = 0 then some (0, μ3) else (ld μ3 34 (μ3 24 6)).bind fun x11 => (f_5_codeOfTest (nI s) (nI g) x11 μ3).bind fun x14 => (f_5_addCode 26 x14 μ3).bind fun μ16 => (f_8_step 24 μ16).bind fun μ18 => some (1, μ18) := by
        rw [hC, in2, Option.bind_some, if_neg (by decide), t1, Option.bind_some, sg]
      have hf3 := hP3.2.2.1
      obtain ⟨u1, u2⟩ := upTo (M := 999) hP3 (Nat.le_refl _)
      have nm := number_M (M := 999) hP3.2.1 (Nat.le_refl _) hf3
      rw [show nI 999 = 999 from rfl] at u1 u2 nm
      rcases nm with ⟨good, nm⟩ | ⟨bad, x, nm⟩
      · obtain ⟨u3, u4⟩ := u1 good
        have p5 := sign_on good.1
        have z3 := hP.1.2.2.2.2.2
        have y3 := hP.2.2.2.2.2
        obtain ⟨w, hw⟩ : ∃ w, w = vl T n (pz T n (i + 1 + 1)) := ⟨_, rfl⟩
        rw [← hw] at u4 nm
        have hw9 : w ≤ 999 := by rw [hw]; exact good.2.2
        have code1 : f_5_codeOfTest (nI s) (nI g) (nI w) μ3 = some (nI ((s * 3 + g) * 1000 + w)) := by
          unfold f_5_codeOfTest
          rw [show (3 : Int32) = nI 3 from rfl, pk_mul, nI_add, show (1000 : Int32) = nI 1000 from rfl, pk_mul, nI_add]
        have code2 : ((3000 * nI s) + (1000 * nI g)) + nI w = nI ((s * 3 + g) * 1000 + w) := by
          rw [show (3000 : Int32) = nI 3000 from rfl, pk_mul, show (1000 : Int32) = nI 1000 from rfl, pk_mul, nI_add, nI_add, show 3000 * s + 1000 * g + w = (s * 3 + g) * 1000 + w from by omega]
        obtain ⟨v1, v2, v3⟩ := PS_addC (v := nI ((s * 3 + g) * 1000 + w)) hP3 (by omega)
        obtain ⟨μ4, ν4, r1, r2, hP4, ⟨r4, r5⟩, ⟨r6, r7⟩⟩ := PS_step v2 good.1
        obtain ⟨m1, m2, m3⟩ := PS_addM (u := nI ((s * 3 + g) * 1000 + w)) hP4 (by omega)
        refine ⟨1, μ4, up (up ν4 8 y (nI ((s * 3 + g) * 1000 + w))) 0 15 (nI (y + 1)), ?_, ?_, Or.inl ⟨rfl, i + 1 + 1 + 1, z + 1, y + 1, m2, ⟨by omega, by omega, by omega, by omega, by omega⟩, ?_, ?_, ?_⟩⟩
        · rw [hC2, u3, Option.bind_some, if_neg (by decide), u4, Option.bind_some, code1, Option.bind_some, v1, Option.bind_some, r1, Option.bind_some]
        · rw [hO2, nm, r2, Option.bind_some, Option.bind_some]
          dsimp only
          rw [code2, m1, Option.bind_some]
        · exact FC_t s4 (FC_t t4 (FC_t v3 (FC_w r4 (Nat.le_succ _)) (Nat.le_refl _)) (Nat.le_refl _)) (Nat.le_refl _)
        · exact FM_t s6 (FM_t t6 (FM_t r6 m3 (Nat.le_refl _)) (Nat.le_refl _)) (Nat.le_refl _)
        · rw [show y + 1 - y = 1 from by omega, show z + 1 - z = 1 from by omega, slc_o, slc_o, up_ne (by decide), up_at, r5, up_ne (by decide), up_at]
          exact gq_test (by omega)
      · refine ⟨0, μ3, up ν3 0 13 1, ?_, ?_, Or.inr ⟨rfl, Bd_t s4 s6 (Bd_t t4 t6 (Bd_here hP3))⟩⟩
        · rw [hC2, u2 bad, Option.bind_some, if_pos rfl]
        · rw [hO2, nm, Option.bind_some]
          dsimp only
          rw [codes_X up_at, Option.bind_some]
    · have nb : ∀ v : Nat, (v = 60 ∨ v = 61 ∨ v = 62) → ¬ cd T n (pz T n (i + 1)) = nI v := fun v hv q => b ⟨v - 60, by omega, by rw [show 60 + (v - 60) = v from by omega]; exact q⟩
      have in2 : f_11_isIn (μ2 24 7) 60 62 μ2 = some 0 := isIn_f (fun q => by
        obtain ⟨j, hj, ej⟩ := nI_of (x := μ2 24 7) (Int32.not_lt.mpr (Int32.le_trans (by decide) q.1))
        rw [ej] at q
        have q1 := (nI_leI (a := 60) (by decide) hj).mp q.1
        have q2 := (nI_leI (b := 62) hj (by decide)).mp q.2
        exact nb j (by omega) (e72.symm.trans ej))
      have n0 : up ν2 0 13 1 0 13 = 1 := up_at
      refine ⟨0, μ2, up ν2 0 13 1, ?_, ?_, Or.inr ⟨rfl, Bd_t s4 s6 (Bd_here hP2)⟩⟩
      · rw [hC, in2, Option.bind_some, if_pos rfl]
      · rw [hO, g60, if_neg (show ¬ cd T n (pz T n (i + 1)) = 60 from nb 60 (by omega)), g61, if_neg (show ¬ cd T n (pz T n (i + 1)) = 61 from nb 61 (by omega)), g62, if_neg (show ¬ cd T n (pz T n (i + 1)) = 62 from nb 62 (by omega))]
        rw [Option.bind_some, if_pos rfl, Option.bind_some, if_pos rfl, Option.bind_some, Option.bind_some, if_pos rfl, Option.bind_some, if_pos rfl, Option.bind_some, if_pos rfl, Option.bind_some, need_N hf2, Option.bind_some, number_X n0, Option.bind_some]
        dsimp only
        rw [codes_X n0, Option.bind_some]
  · have na : ∀ j, j < 7 → ¬ cd T n (pz T n i) = nI (11 + j) := fun j hj q => a ⟨j, hj, q⟩
    have hnm : ∀ j, j < 7 → f_12_isName 0 (1007 + j) ν = some 0 := fun j hj => by
      have := name_M (k := 11 + j) hP.2.1 (by omega) hf
      rw [wI_11 j hj, if_neg (na j hj)] at this
      exact this
    have fn := fact_no (rm := rc) (A := A) hnm 7 0 FU rfl (show 7 < 2000 by decide)
    rw [show nI 0 = 0 from rfl] at fn
    have n0 : up ν 0 13 1 0 13 = 1 := up_at
    have in1 : f_11_isIn (μ 24 7) 11 17 μ = some 0 := isIn_f (fun q => by
      obtain ⟨j, hj, ej⟩ := nI_of (x := μ 24 7) (Int32.not_lt.mpr (Int32.le_trans (by decide) q.1))
      rw [ej] at q
      have q1 := (nI_leI (a := 11) (by decide) hj).mp q.1
      have q2 := (nI_leI (b := 17) hj (by decide)).mp q.2
      exact na (j - 11) (by omega) (by rw [show 11 + (j - 11) = j from by omega]; exact e7.symm.trans ej))
    have a1 : ((-1 : Int32) < 0) = True := eq_true (by decide)
    refine ⟨0, μ, up ν 0 13 1, ?_, ?_, Or.inr ⟨rfl, Bd_here hP⟩⟩
    · unfold f_8_readTest
      rw [in1, Option.bind_some, if_pos rfl]
    · unfold otst
      simp only [fn, bs, a1, need_N hf, sign_F n0, need_X n0, number_X n0, codes_X n0, if_true]
