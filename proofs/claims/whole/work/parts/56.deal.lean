/-! the call deal -/
theorem four_d {d : Int32} (h : 0 ≤ d ∧ d ≤ 3) : d = 0 ∨ d = 1 ∨ d = 2 ∨ d = 3 := by
  obtain ⟨j, hj, rfl⟩ := four_of h
  have : j = 0 ∨ j = 1 ∨ j = 2 ∨ j = 3 := by omega
  rcases this with rfl | rfl | rfl | rfl
  · exact Or.inl rfl
  · exact Or.inr (Or.inl rfl)
  · exact Or.inr (Or.inr (Or.inl rfl))
  · exact Or.inr (Or.inr (Or.inr rfl))
/-- both sides behind the dealer was met -/
theorem met_run {μ ν : mm} {K d x w z : Int32} {q : Nat} (h : Cp μ ν) (hq : q ≤ 15) (hK : K = 1 ∨ K = 2 ∨ K = 3 ∨ K = 4 ∨ K = 5 ∨ K = 6) (hd : d = 0 ∨ d = 1 ∨ d = 2 ∨ d = 3) : Ok ((f_0_run 35 d x (up (up (up (up μ 35 2 K) 35 3 (nI q)) 35 4 w) 35 5 z)).bind fun z41 => some (z41.1, z41.2)) fun y => Ok ((f_12_dealt_G 15 0 0 d x 0 (up (up (up (up (up ν 0 34 K) 0 35 (nI q)) 0 36 w) 0 37 z) 0 38 0)).bind fun z51 => if (z51.2 0 38) = 0 then some (z51.1, z51.2) else some ((-15), z51.2)) fun y2 => y.1 = y2.1 ∧ Cp y.2 y2.2 := by
  have hD : DI μ ν K q w z (up (up (up (up (up μ 35 2 K) 35 3 (nI q)) 35 4 w) 35 5 z) 35 6 0) (up (up (up (up (up ν 0 34 K) 0 35 (nI q)) 0 36 w) 0 37 z) 0 38 0) := by
    obtain ⟨n, hn, e1, e2, hk⟩ := h.2.2.2.2.2.2.2
    refine ⟨fun b q1 q2 => by rw [up_ne q1, up_ne q1, up_ne q1, up_ne q1, up_ne q1], fun b q1 q2 => by rw [up_ne q1, up_ne q1, up_ne q1, up_ne q1, up_ne q1], fun j hj => by rw [up_ns (by omega), up_ns (by omega), up_ns (by omega), up_ns (by omega), up_ns (by omega)], ?_, ?_, ?_, n, hn, ?_, ?_, ?_⟩
    · simp (disch := omega) only [up_at, up_ns]; trivial
    · simp (disch := omega) only [up_at, up_ns]; trivial
    · rw [up_at, up_at]; exact ⟨rfl, Or.inl rfl⟩
    · simp (disch := omega) only [up_ns]; exact e1
    · simp (disch := omega) only [up_ns]; exact e2
    · intro k hk2
      rw [up_ne (by decide), up_ne (by decide), up_ne (by decide), up_ne (by decide), up_ne (by decide), up_ne (by decide), up_ne (by decide), up_ne (by decide), up_ne (by decide), up_ne (by decide)]
      exact hk k hk2
  obtain ⟨r, μ', ν', g1, g2, g3⟩ := run_rel (d := d) (x := x) hq hK hd hD
  have k35 : up (up (up (up (up μ 35 2 K) 35 3 (nI q)) 35 4 w) 35 5 z) 35 6 0 35 2 = K := hD.2.2.2.1.1
  have k34 : up (up (up (up (up ν 0 34 K) 0 35 (nI q)) 0 36 w) 0 37 z) 0 38 0 0 34 = K := hD.2.2.2.2.1.1
  have hC : Cp μ' ν' := Cp_host h (fun b q => g3.1 b (by omega) (by omega)) (fun b q => g3.2.1 b (by omega) (by omega)) ⟨g3.2.2.1 3 (by decide), g3.2.2.1 5 (by decide), g3.2.2.1 8 (by decide), g3.2.2.1 9 (by decide)⟩ (Sh_cg (fun b q => g3.1 b (by omega) (by omega)) (fun b q => g3.2.1 b (by omega) (by omega)) h.2.2.2.2.2.1) (Sv_cg (fun b q => g3.1 b (by omega) (by omega)) (fun b q => g3.2.1 b (by omega) (by omega)) h.2.2.2.2.2.2.1) g3.2.2.2.2.2.2
  unfold f_0_run
  rw [bind_eta, pf_eq, Option.bind_some, k35, g1, Option.bind_some, show (15 : Nat) = 14 + 1 from rfl, G_dealt, k34, g2, Option.bind_some]
  dsimp only
  have e6 := g3.2.2.2.2.2.1.1
  by_cases e : ν' 0 38 = 0
  · rw [if_pos (e6.trans e), if_pos e]
    exact Ok_of rfl (Ok_of rfl ⟨rfl, hC⟩)
  · rw [if_neg (fun q => e (e6.symm.trans q)), if_neg e]
    exact Ok_of rfl (Ok_of rfl ⟨rfl, hC⟩)
theorem Cp_forget {μ ν : mm} (h : Cp μ ν) : Cp (up μ 35 1 0) (up ν 0 33 0) := Cp_host h (fun b q => up_ne (by omega)) (fun b q => up_ne (by omega)) ⟨up_ns (by decide), up_ns (by decide), up_ns (by decide), up_ns (by decide)⟩ (Sh_cg (fun b q => up_ne (by omega)) (fun b q => up_ne (by omega)) h.2.2.2.2.2.1) (Sv_cg (fun b q => up_ne (by omega)) (fun b q => up_ne (by omega)) h.2.2.2.2.2.2.1) ⟨0, by decide, up_at, up_at, fun k hk => absurd hk (by omega)⟩
set_option maxHeartbeats 2000000 in
theorem deal_met {μ ν : mm} {s : Nat} {d x : Int32} (h : Cp μ ν) (hs : s < 4) (hd : 0 ≤ d ∧ d ≤ 3) (hr : μ 46 s ≠ 3) {q : Nat} {K : Int32} (hq : q ≤ 15) (k3 : μ 47 s = nI q) (k4 : ν 20 s = nI q) (k5 : f_11_kindOn 23 (nI s) μ = some K) (hK : shK μ ν s q K) : Ok ((ld μ (rf 23 15) (nI s)).bind fun x11 =>
          (ld μ (rf 23 14) (nI s)).bind fun x13 =>
          (if x13 = 0 then
              (f_11_kindOn 23 (nI s) μ).bind fun x16 =>
              (lda (rf (rf 23 0) 10) x11).bind fun r17 =>
              (lda (rf (rf 23 0) 10) x11).bind fun r19 =>
              (f_0_meet (rf 23 5) x16 x11 (μ r17 0) (μ r19 2) μ).bind fun μ22 =>
              some μ22
            else if x13 = 1 then
              (f_11_kindOn 23 (nI s) μ).bind fun x24 =>
              (lda (rf (rf 23 0) 9) x11).bind fun r25 =>
              (lda (rf (rf 23 0) 9) x11).bind fun r27 =>
              (f_0_meet (rf 23 5) x24 x11 (μ r25 0) (μ r27 1) μ).bind fun μ30 =>
              some μ30
            else 
              (f_11_kindOn 23 (nI s) μ).bind fun x32 =>
              (lda (rf (rf 23 0) 8) x11).bind fun r33 =>
              (lda (rf (rf 23 0) 8) x11).bind fun r35 =>
              (f_0_meet (rf 23 5) x32 x11 (μ r33 0) (μ r35 3) μ).bind fun μ38 =>
              some μ38).bind fun (z39 : mm) =>
          (f_0_run (rf 23 5) d x z39).bind fun z41 =>
          some (z41.1, z41.2)) fun y => Ok ((pf ν 0 34 K).bind fun μ10 =>
    (ld μ10 (rf 0 30) (nI s)).bind fun x12 =>
    (pf μ10 0 35 x12).bind fun μ14 =>
    (ld μ14 (rf 0 29) (nI s)).bind fun x16 =>
    (if x16 = 1 then
        some 1
      else
        some 0).bind fun (z18 : Int32) =>
    (ld μ14 (rf 0 29) (nI s)).bind fun x19 =>
    (if x19 = 2 then
        some 1
      else
        some 0).bind fun (z21 : Int32) =>
    (if z18 = 0 then
        if z21 = 0 then
          (f_12_ofPit (μ14 0 35) 0 μ14).bind fun x23 =>
          (ld μ14 (rf 0 0) x23).bind fun x24 =>
          some x24
        else
          (f_12_ofShop (μ14 0 35) 0 μ14).bind fun x27 =>
          (ld μ14 (rf 0 0) x27).bind fun x28 =>
          some x28
      else
        (f_12_house 0 (μ14 0 35) 0 μ14).bind fun x31 =>
        some x31).bind fun (z32 : Int32) =>
    (pf μ14 0 36 z32).bind fun μ33 =>
    (if z18 = 0 then
        if z21 = 0 then
          (f_12_ofPit (μ33 0 35) 4 μ33).bind fun x36 =>
          (ld μ33 (rf 0 0) x36).bind fun x37 =>
          some x37
        else
          (f_12_ofShop (μ33 0 35) 1 μ33).bind fun x40 =>
          (ld μ33 (rf 0 0) x40).bind fun x41 =>
          some x41
      else
        (f_12_house 0 (μ33 0 35) 2 μ33).bind fun x44 =>
        some x44).bind fun (z45 : Int32) =>
    (pf μ33 0 37 z45).bind fun μ46 =>
    (pf μ46 0 38 0).bind fun μ48 =>
    (f_12_dealt_G 15 0 0 d x 0 μ48).bind fun z51 =>
    if (z51.2 0 38) = 0 then
      some (z51.1, z51.2)
    else
      some ((-15), z51.2)) fun y2 => y.1 = y2.1 ∧ Cp y.2 y2.2 := by
  have M := fun w z => met_run (w := w) (z := z) (d := d) (x := x) h hq (shK_k hK) (four_d hd)
  obtain ⟨-, -, v3, v4, v5, -⟩ := h.1
  have hN := IV_nn h.2.1
  have l1 : ld μ 46 (nI s) = some (μ 46 s) := ldL len_46 hs (by decide)
  have l2 : ld μ 47 (nI s) = some (nI q) := by rw [ldL len_47 hs (by decide), k3]
  have l3 : ∀ ν' : mm, ν' 19 = ν 19 → ld ν' 19 (nI s) = some (ν 19 s) := fun ν' e => by rw [ldL len_19 hs (by decide), e]
  have l4 : ∀ ν' : mm, ν' 20 = ν 20 → ld ν' 20 (nI s) = some (nI q) := fun ν' e => by rw [ldL len_20 hs (by decide), e, k4]
  rw [rf_23_15, rf_23_14, rf_23_5, rf_23_0, rf_49_10, rf_49_9, rf_49_8, l1, l2, k5, rf_0_30, rf_0_29, rf_0_0]
  simp only [Option.bind_some, pf_eq, bind_id, f_0_meet]
  rw [l4 _ (up_ne (by decide))]
  simp only [Option.bind_some]
  rw [l3 _ (by rw [up_ne (by decide), up_ne (by decide)])]
  simp only [Option.bind_some, up_at]
  rcases hK with ⟨s1, s2, s3, -⟩ | ⟨s1, s2, s3, -⟩ | ⟨s1, s2, s3, -⟩
  · have la : lda 59 (nI q) = some (109 + q) := aV_10 (v := 49) isV_now (by omega)
    have f0 : ν 1 (96 + 12 * q + 0) = μ (109 + q) 0 := v5 q 0 s3 (by decide)
    have f2 : ν 1 (96 + 12 * q + 2) = μ (109 + q) 2 := v5 q 2 s3 (by decide)
    have h0 : ∀ ν' : mm, ν' 1 = ν 1 → f_12_house 0 (nI q) 0 ν' = some (μ (109 + q) 0) := fun ν' e => by rw [show f_12_house 0 (nI q) 0 ν' = _ from house1 (f := 0) (by omega), e, f0]
    have h2 : ∀ ν' : mm, ν' 1 = ν 1 → f_12_house 0 (nI q) 2 ν' = some (μ (109 + q) 2) := fun ν' e => by rw [show f_12_house 0 (nI q) 2 ν' = _ from house1 (f := 2) (by omega), e, f2]
    have g0 := h0 (up (up ν 0 34 K) 0 35 (nI q)) (by rw [up_ne (by decide), up_ne (by decide)])
    have g2 := fun y => h2 (up (up (up ν 0 34 K) 0 35 (nI q)) 0 36 y) (by rw [up_ne (by decide), up_ne (by decide), up_ne (by decide)])
    have g3 := fun y => show up (up (up ν 0 34 K) 0 35 (nI q)) 0 36 y 0 35 = nI q from by rw [up_ns (by decide), up_at]
    simp only [s1, s2, la, Option.bind_some, g0, g2, g3, show ((1 : Int32) = 0) = False from by decide, show ((1 : Int32) = 2) = False from by decide, show ((2 : Int32) = 1) = False from by decide, show ((3 : Int32) = 1) = False from by decide, show ((3 : Int32) = 2) = False from by decide, show ((2 : Int32) = 0) = False from by decide, if_true, if_false]
    exact M _ _
  · have la : lda 58 (nI q) = some (105 + q) := aV_9 (v := 49) isV_now (by omega)
    have f0 : ν 1 (84 + 3 * q + 0) = μ (105 + q) 0 := v4 q 0 s3 (by decide)
    have f1 : ν 1 (84 + 3 * q + 1) = μ (105 + q) 1 := v4 q 1 s3 (by decide)
    have h0 : ∀ ν' : mm, ν' 1 = ν 1 → ld ν' 1 (84 + 3 * nI q + 0) = some (μ (105 + q) 0) := fun ν' e => by rw [ix_84_, nI_p0, ld1 (by omega), e, ← f0]; rfl
    have h1 : ∀ ν' : mm, ν' 1 = ν 1 → ld ν' 1 (84 + 3 * nI q + 1) = some (μ (105 + q) 1) := fun ν' e => by rw [ix_84_, nI_1, ld1 (by omega), e, f1]
    have g0 := h0 (up (up ν 0 34 K) 0 35 (nI q)) (by rw [up_ne (by decide), up_ne (by decide)])
    have g2 := fun y => h1 (up (up (up ν 0 34 K) 0 35 (nI q)) 0 36 y) (by rw [up_ne (by decide), up_ne (by decide), up_ne (by decide)])
    have g3 := fun y => show up (up (up ν 0 34 K) 0 35 (nI q)) 0 36 y 0 35 = nI q from by rw [up_ns (by decide), up_at]
    simp only [s1, s2, la, Option.bind_some, f_12_ofShop, g0, g2, g3, show ((1 : Int32) = 0) = False from by decide, show ((1 : Int32) = 2) = False from by decide, show ((2 : Int32) = 1) = False from by decide, show ((3 : Int32) = 1) = False from by decide, show ((3 : Int32) = 2) = False from by decide, show ((2 : Int32) = 0) = False from by decide, if_true, if_false]
    exact M _ _
  · have la : lda 57 (nI q) = some (101 + q) := aV_8 (v := 49) isV_now (by omega)
    obtain ⟨f0, -, -, -, f4, -⟩ := pitF v3 s3
    have h0 : ∀ ν' : mm, ν' 1 = ν 1 → ld ν' 1 (56 + 7 * nI q + 0) = some (μ (101 + q) 0) := fun ν' e => by rw [ix_56_, nI_p0, ld1 (by omega), e, ← f0]; rfl
    have h4 : ∀ ν' : mm, ν' 1 = ν 1 → ld ν' 1 (56 + 7 * nI q + 4) = some (μ (101 + q) 3) := fun ν' e => by rw [ix_56_, nI_p4, ld1 (by omega), e, f4]
    have g0 := h0 (up (up ν 0 34 K) 0 35 (nI q)) (by rw [up_ne (by decide), up_ne (by decide)])
    have g2 := fun y => h4 (up (up (up ν 0 34 K) 0 35 (nI q)) 0 36 y) (by rw [up_ne (by decide), up_ne (by decide), up_ne (by decide)])
    have g3 := fun y => show up (up (up ν 0 34 K) 0 35 (nI q)) 0 36 y 0 35 = nI q from by rw [up_ns (by decide), up_at]
    simp only [s1, s2, la, Option.bind_some, f_12_ofPit, g0, g2, g3, show ((1 : Int32) = 0) = False from by decide, show ((1 : Int32) = 2) = False from by decide, show ((2 : Int32) = 1) = False from by decide, show ((3 : Int32) = 1) = False from by decide, show ((3 : Int32) = 2) = False from by decide, show ((2 : Int32) = 0) = False from by decide, if_true, if_false]
    exact M _ _
theorem T_deal {μ ν : mm} (a d x : Int32) (h : Cp μ ν) : Ok (f_11_deal 23 a d x μ) fun z => Ok (f_12_deal 0 a d x ν) fun w => z.1 = w.1 ∧ Cp z.2 w.2 := by
  have h' := Cp_forget h
  unfold f_11_deal f_12_deal f_0_forget
  rw [rf_23_5, pf_eq, Option.bind_some, Option.bind_some, pf_eq, Option.bind_some, isShelf_eq, isFour_eq, Option.bind_some, Option.bind_some]
  generalize up μ 35 1 0 = μ2 at h' ⊢
  generalize up ν 0 33 0 = ν2 at h' ⊢
  by_cases c1 : 0 ≤ a ∧ a ≤ 3
  · obtain ⟨s, hs, rfl⟩ := four_of c1
    rw [if_pos c1, if_neg (by decide), if_neg (by decide), isFour_eq, Option.bind_some]
    by_cases c2 : 0 ≤ d ∧ d ≤ 3
    · rw [isIn_t c2, Option.bind_some, if_neg (by decide), if_pos c2, if_neg (by decide)]
      obtain ⟨q1, q2, q3, q4⟩ := h'.2.2.2.2.2.2.1 s hs
      have l1 : ld μ2 46 (nI s) = some (μ2 46 s) := ldL len_46 hs (by decide)
      by_cases d3 : μ2 46 s = 3
      · have d4 : μ2 46 s ≠ 4 := by rw [d3]; decide
        obtain ⟨r1, r2, r3⟩ := q3 d4
        have hb : f_11_isBare 23 (nI s) μ2 = some 0 := by simp [f_11_isBare, rf_23_14, l1, d3]
        have l3 : ld ν2 19 (nI s) = some 4 := by rw [ldL len_19 hs (by decide), r1, d3]; rfl
        have l4 : ld ν2 20 (nI s) = some (ν2 20 s) := ldL len_20 hs (by decide)
        have hk : f_12_kindOn 0 (nI s) ν2 = some (-1) := by simp [f_12_kindOn, rf_0_29, rf_0_30, l3, l4]
        rw [hb, Option.bind_some, if_pos rfl, rf_23_14, l1, Option.bind_some, if_pos d3, hk, Option.bind_some, Option.bind_some, if_neg (by decide)]
        exact Ok_of rfl (Ok_of rfl ⟨rfl, h'⟩)
      · rcases kind_rel h' hs d3 with ⟨k1, k2⟩ | ⟨k1, q, K, hq, k3, k4, k5, k6, k7⟩
        · rw [k1, Option.bind_some, if_neg (by decide), k2, Option.bind_some, Option.bind_some, if_neg (by decide)]
          exact Ok_of rfl (Ok_of rfl ⟨rfl, h'⟩)
        · have kp : 0 ≤ K := by rcases shK_k k7 with rfl | rfl | rfl | rfl | rfl | rfl <;> decide
          rw [k1, Option.bind_some, if_pos rfl, k6, Option.bind_some, Option.bind_some, if_pos kp]
          rw [show ld μ2 (rf 23 14) (nI s) = some (μ2 46 s) from by rw [rf_23_14]; exact l1, Option.bind_some, if_neg d3]
          have D := deal_met (x := x) h' hs c2 d3 hq k3 k4 k5 k7
          rw [show ld μ2 (rf 23 14) (nI s) = some (μ2 46 s) from by rw [rf_23_14]; exact l1, rf_23_5] at D
          exact D
    · rw [isIn_f c2, Option.bind_some, if_pos rfl, if_neg c2, if_pos rfl, Option.bind_some, if_neg (by decide)]
      exact Ok_of rfl (Ok_of rfl ⟨rfl, h'⟩)
  · rw [if_neg c1, if_pos rfl, if_pos rfl, Option.bind_some, if_neg (by decide)]
    exact Ok_of rfl (Ok_of rfl ⟨rfl, h'⟩)
