/-! evictions, the tape -/
theorem up_same {μ : mm} {a k : Nat} {x : Int32} (h : μ a k = x) : up μ a k x = μ := by
  funext b
  by_cases e : b = a
  · subst e
    funext j
    by_cases e2 : j = k
    · subst e2
      rw [up_at, h]
    · rw [up_ns e2]
  · rw [up_ne e]
set_option maxHeartbeats 2000000 in
theorem T_evict {μ ν : mm} (a : Int32) (h : Cp μ ν) : Ok (f_11_evict 23 a μ) fun z => Ok (f_12_evict 0 a ν) fun z2 => z.1 = z2.1 ∧ Cp z.2 z2.2 := by
  obtain ⟨n11, hn11, en11, nn11⟩ := cnt_of (m := 16) (by decide) h.2.1.2.1.2.2.2.1
  have em11 : μ 49 4 = nI n11 := (h.1.1 11 (by decide)).symm.trans en11
  obtain ⟨n13, hn13, en13, nn13⟩ := cnt_of (m := 12) (by decide) h.2.1.2.1.2.2.2.2.2.1
  have em13 : μ 64 4 = nI n13 := (h.1.1 13 (by decide)).symm.trans en13
  have e0 : ν 1 0 = μ 49 0 := h.1.1 0 (by decide)
  have hN := IV_nn h.2.1
  obtain ⟨⟨v1, v2, v3, v4, v5, v6, v7, v8, v9, v10, v11, v12⟩, ⟨i1, i2, i3, i4, i5, i6, i7, i8, i9, i10, i11, i12⟩, -⟩ := id h
  have hR := Cp_RS h
  by_cases c1 : 0 ≤ a ∧ a ≤ nI n13 - 1
  · obtain ⟨j, hj, rfl⟩ := in_of (by omega) c1
    obtain ⟨q1, q2, q3⟩ := (v7 j (by omega)).2 (by omega)
    obtain ⟨r1, r2, r3⟩ := i8 j (by omega)
    rw [en11] at r1
    obtain ⟨p, hp, ep⟩ : ∃ p, p < n11 ∧ ν 1 (807 + 3 * j) = nI p := by
      obtain ⟨p, hp, e⟩ := nI_of (Int32.not_lt.mpr r1.1)
      rw [e] at r1
      exact ⟨p, (nI_ltI hp (by omega)).mp r1.2, e⟩
    have m1 : ld μ 68 (nI j) = some (nI p) := by rw [ldL len_68 (by omega) (by decide), ← ep, q1]
    have m2 : ∀ (μ : mm), ld μ 69 (nI j) = some (μ 69 j) := fun μ => ldL len_69 (by omega) (by decide)
    have m3 : ∀ (μ : mm), ld μ 70 (nI j) = some (μ 70 j) := fun μ => ldL len_70 (by omega) (by decide)
    have m4 : sto μ 70 (nI j) 1 = some (up μ 70 j 1) := stoL len_70 (by omega) (by decide)
    have l1 : lda 59 (nI p) = some (109 + p) := aV_10 (v := 49) isV_now (by omega)
    have f10 : ν 1 (96 + 12 * p + 10) = μ (109 + p) 10 := v5 p 10 (by omega) (by decide)
    have f11 : ν 1 (96 + 12 * p + 11) = μ (109 + p) 11 := v5 p 11 (by omega) (by decide)
    obtain ⟨-, -, -, -, -, -, -, b10, b11, -⟩ := i6 p (by omega)
    rw [show 106 + 12 * p = 96 + 12 * p + 10 from by omega, f10] at b10
    rw [show 107 + 12 * p = 96 + 12 * p + 11 from by omega, f11] at b11
    have q2' : ν 1 (807 + 3 * j + 1) = μ 69 j := q2
    have q3' : ν 1 (807 + 3 * j + 2) = μ 70 j := q3
    rw [show 809 + 3 * j = 807 + 3 * j + 2 from by omega, q3'] at r3
    have x1 : ld ν 1 (nI (807 + 3 * j)) = some (nI p) := by rw [ld1 (by omega), ep]
    have x2 : ld ν 1 (nI (807 + 3 * j + 1)) = some (μ 69 j) := by rw [ld1 (by omega), q2']
    have x3 : ld ν 1 (nI (807 + 3 * j + 2)) = some (μ 70 j) := by rw [ld1 (by omega), q3']
    by_cases c2 : μ (109 + p) 10 = 1 ∨ μ (109 + p) 11 = 1
    · refine Ok_of (y := (-4, μ)) ?_ (Ok_of (y := (-4, ν)) (by simp [f_12_evict, is_13, en13, c1, rf_0_0, ix_807_, x1, gone_eq (ν := ν) (p := p) (by omega), f10, f11, c2]) ⟨rfl, h⟩)
      rcases b11 with b11 | b11
      · rcases b10 with b10 | b10
        · rw [b10, b11] at c2
          exact absurd c2 (by decide)
        · simp [f_11_evict, isIn_t c1, rf_23_0, rf_49_13, rf_49_10, rf_64_5, em13, m1, l1, b10, b11]
      · simp [f_11_evict, isIn_t c1, rf_23_0, rf_49_13, rf_49_10, rf_64_5, em13, m1, l1, b11]
    · have b10 : μ (109 + p) 10 = 0 := b10.resolve_right (fun q => c2 (Or.inl q))
      have b11 : μ (109 + p) 11 = 0 := b11.resolve_right (fun q => c2 (Or.inr q))
      have hg0 := gone_eq (ν := ν) (p := p) (by omega)
      rw [f10, f11, if_neg c2] at hg0
      have cw : f_9_evictWeeks 49 μ = some (noS (ν 1) 2 4 12) := C_weeks hR
      have mw := M_ruled2 hR
      generalize noS (ν 1) 2 4 12 = W at cw mw
      by_cases t1 : μ 49 0 ≤ μ 69 j + 7 * W
      · rcases r3 with r3 | r3
        · by_cases t2 : μ 69 j + 7 * W ≤ μ 49 0
          · have t3 : μ 49 0 = μ 69 j + 7 * W := Int32.le_antisymm t1 t2
            refine Ok_of (y := (1, up (up μ (109 + p) (11) (1)) (109 + p) (3) (0))) (by simp [f_11_evict, f_7_findPaper, f_1_leaveHome, isIn_t c1, rf_23_0, rf_49_13, rf_49_10, rf_64_5, rf_64_6, rf_64_7, em13, m1, m2, m3, l1, b10, b11, cw, t1, r3, ← t3, pf_eq]) ?_
            refine Ok_of (y := (1, up (up ν (1) (96 + 12 * p + 11) (1)) (1) (96 + 12 * p + 3) (0))) (by simp (disch := omega) [f_12_evict, is_13, en13, c1, rf_0_0, ix_807_, nI_1, nI_p2, x1, x2, x3, hg0, mw, l_0, e0, t1, t2, r3, ix_96_, nI_p11, nI_p3, sto1]) ?_
            dsimp only
            have hm : ∀ b, (b ≠ 109 + p) → (up (up μ (109 + p) (11) (1)) (109 + p) (3) (0)) b = μ b := fun b q => by rw [up_ne (by omega), up_ne (by omega)]
            have hg : ∀ k, (k ≠ 96 + 12 * p + 11 ∧ k ≠ 96 + 12 * p + 3) → (up (up ν (1) (96 + 12 * p + 11) (1)) (1) (96 + 12 * p + 3) (0)) 1 k = ν 1 k := fun k q => by rw [up_ns (by omega), up_ns (by omega)]
            have hn1 : ∀ b, b ≠ 1 → (up (up ν (1) (96 + 12 * p + 11) (1)) (1) (96 + 12 * p + 3) (0)) b = ν b := fun b q => by rw [up_ne q, up_ne q]
            refine ⟨rfl, Cp_now h (fun b q => hm b (by omega)) hn1 ?_ ?_⟩
            · refine ⟨?_, ?_, ?_, ?_, ?_, ?_, ?_, ?_, ?_, ?_, ?_, ?_⟩
              · exact V1_cg hN (fun k a => hg k (by omega)) (fun b a => hm b (by omega)) v1
              · exact V2_cg hN (fun k a => hg k (by omega)) (fun b a => hm b (by omega)) v2
              · exact V3_cg hN (fun k a => hg k (by omega)) (fun b a => hm b (by omega)) v3
              · exact V4_cg hN (fun k a => hg k (by omega)) (fun b a => hm b (by omega)) v4
              · intro q f hq hf
                rw [hg 11 (by omega)] at hq
                have q1 := v5 q f hq hf
                by_cases e : q = p
                · subst e
                  rw [show 49 + 60 + q = 109 + q from by omega] at q1 ⊢
                  by_cases e3 : f = 3
                  · subst e3
                    rw [up_at, up_at]
                  · rw [up_ns (a := 1) (k := 96 + 12 * q + 3) (by omega), up_ns (a := 109 + q) (k := 3) e3]
                    by_cases e11 : f = 11
                    · subst e11
                      rw [up_at, up_at]
                    · rw [up_ns (by omega), up_ns e11]
                      exact q1
                · rw [hg _ (by omega), hm _ (by omega)]
                  exact q1
              · exact V6_cg hN (fun k a => hg k (by omega)) (fun b a => hm b (by omega)) v6
              · exact V7_cg hN (fun k a => hg k (by omega)) (fun b a => hm b (by omega)) v7
              · exact V8_cg hN (fun k a => hg k (by omega)) (fun b a => hm b (by omega)) v8
              · exact V9_cg hN (fun k a => hg k (by omega)) (fun b a => hm b (by omega)) v9
              · exact V10_cg hN (fun k a => hg k (by omega)) (fun b a => hm b (by omega)) v10
              · exact V11_cg hN (fun k a => hg k (by omega)) (fun b a => hm b (by omega)) v11
              · exact V12_cg hN (fun k a => hg k (by omega)) (fun b a => hm b (by omega)) v12
            · refine ⟨?_, ?_, ?_, ?_, ?_, ?_, ?_, ?_, ?_, ?_, ?_, ?_⟩
              · exact I1_cg hN (fun k a => hg k (by omega)) i1
              · exact I2_cg hN (fun k a => hg k (by omega)) i2
              · exact I3_cg hN (fun k a => hg k (by omega)) i3
              · exact I4_cg hN (fun k a => hg k (by omega)) i4
              · exact I5_cg hN (fun k a => hg k (by omega)) i5
              · intro q hq
                rw [hg 11 (by omega)] at hq
                have q1 := i6 q hq
                rw [hg 8 (by omega), hg 9 (by omega), hg (96 + 12 * q) (by omega), hg (97 + 12 * q) (by omega), hg (98 + 12 * q) (by omega), hg (100 + 12 * q) (by omega), hg (101 + 12 * q) (by omega), hg (102 + 12 * q) (by omega), hg (106 + 12 * q) (by omega)]
                obtain ⟨a1, a2, a3, a4, a5, a6, a7, a8, a9, a10⟩ := q1
                by_cases e : q = p
                · subst e
                  rw [show 99 + 12 * q = 96 + 12 * q + 3 from by omega, show 107 + 12 * q = 96 + 12 * q + 11 from by omega, up_at, up_ns (by omega), up_at]
                  exact ⟨a1, a2, a3, by decide, a5, a6, a7, a8, Or.inr rfl, fun _ => rfl⟩
                · rw [hg (99 + 12 * q) (by omega), hg (107 + 12 * q) (by omega)]
                  exact ⟨a1, a2, a3, a4, a5, a6, a7, a8, a9, a10⟩
              · exact I7_cg hN (fun k a => hg k (by omega)) i7
              · exact I8_cg hN (fun k a => hg k (by omega)) i8
              · exact I9_cg hN (fun k a => hg k (by omega)) i9
              · exact I10_cg hN (fun k a => hg k (by omega)) i10
              · exact I11_cg hN (fun k a => hg k (by omega)) i11
              · exact I12_cg hN (fun k a => hg k (by omega)) i12
          · have t3 : ¬ μ 49 0 = μ 69 j + 7 * W := fun z => t2 (by rw [z]; exact Int32.le_refl _)
            refine Ok_of (y := (0, μ)) (by simp [f_11_evict, f_7_findPaper, isIn_t c1, rf_23_0, rf_49_13, rf_49_10, rf_64_5, rf_64_6, rf_64_7, em13, m1, m2, m3, l1, b10, b11, cw, t1, r3, t3]) ?_
            exact Ok_of (y := (0, ν)) (by simp [f_12_evict, is_13, en13, c1, rf_0_0, ix_807_, nI_1, nI_p2, x1, x2, x3, hg0, mw, l_0, e0, t1, t2, r3]) ⟨rfl, h⟩
        · refine Ok_of (y := (2, μ)) (by simp [f_11_evict, f_7_findPaper, isIn_t c1, rf_23_0, rf_49_13, rf_49_10, rf_64_5, rf_64_6, rf_64_7, em13, m1, m2, m3, l1, b10, b11, cw, t1, r3]) ?_
          refine Ok_of (y := (2, up ν 1 (807 + 3 * j + 2) 1)) (by simp (disch := omega) [f_12_evict, f_12_evict_b88, is_13, en13, c1, rf_0_0, ix_807_, nI_1, nI_p2, x1, x2, x3, hg0, mw, r3, sto1]) ?_
          rw [up_same (by rw [q3', r3])]
          exact ⟨rfl, h⟩
      · refine Ok_of (y := (2, up μ (70) (j) (1))) (by simp [f_11_evict, f_7_findPaper, isIn_t c1, rf_23_0, rf_49_13, rf_49_10, rf_64_5, rf_64_6, rf_64_7, em13, m1, m2, m3, m4, l1, b10, b11, cw, t1, up_at]) ?_
        refine Ok_of (y := (2, up ν (1) (807 + 3 * j + 2) (1))) ?_ ?_
        · rcases r3 with r3 | r3 <;> simp (disch := omega) [f_12_evict, f_12_evict_b88, is_13, en13, c1, rf_0_0, ix_807_, nI_1, nI_p2, x1, x2, x3, hg0, mw, l_0, e0, t1, r3, sto1]
        dsimp only
        have hm : ∀ b, (b ≠ 70) → (up μ (70) (j) (1)) b = μ b := fun b q => by rw [up_ne (by omega)]
        have hg : ∀ k, (k ≠ 807 + 3 * j + 2) → (up ν (1) (807 + 3 * j + 2) (1)) 1 k = ν 1 k := fun k q => by rw [up_ns (by omega)]
        have hn1 : ∀ b, b ≠ 1 → (up ν (1) (807 + 3 * j + 2) (1)) b = ν b := fun b q => by rw [up_ne q]
        refine ⟨rfl, Cp_now h (fun b q => hm b (by omega)) hn1 ?_ ?_⟩
        · refine ⟨?_, ?_, ?_, ?_, ?_, ?_, ?_, ?_, ?_, ?_, ?_, ?_⟩
          · exact V1_cg hN (fun k a => hg k (by omega)) (fun b a => hm b (by omega)) v1
          · exact V2_cg hN (fun k a => hg k (by omega)) (fun b a => hm b (by omega)) v2
          · exact V3_cg hN (fun k a => hg k (by omega)) (fun b a => hm b (by omega)) v3
          · exact V4_cg hN (fun k a => hg k (by omega)) (fun b a => hm b (by omega)) v4
          · exact V5_cg hN (fun k a => hg k (by omega)) (fun b a => hm b (by omega)) v5
          · exact V6_cg hN (fun k a => hg k (by omega)) (fun b a => hm b (by omega)) v6
          · intro q hu12
            have u1 := v7 q hu12
            by_cases e : q = j
            · subst e
              rw [show 49 + 21 = 70 from rfl, up_at]
              refine ⟨Or.inr rfl, fun hq => ?_⟩
              rw [hg 13 (by omega)] at hq
              have u2 := u1.2 hq
              rw [hg (807 + 3 * q) (by omega), hg (807 + 3 * q + 1) (by omega), hm (49 + 19) (by omega), hm (49 + 20) (by omega), up_at]
              exact ⟨u2.1, u2.2.1, rfl⟩
            · rw [show 49 + 21 = 70 from rfl, up_ns (a := 70) e]
              refine ⟨u1.1, fun hq => ?_⟩
              rw [hg 13 (by omega)] at hq
              have u2 := u1.2 hq
              rw [hg (807 + 3 * q) (by omega), hg (807 + 3 * q + 1) (by omega), hm (49 + 19) (by omega), hm (49 + 20) (by omega), hg (807 + 3 * q + 2) (by omega)]
              exact u2
          · exact V8_cg hN (fun k a => hg k (by omega)) (fun b a => hm b (by omega)) v8
          · exact V9_cg hN (fun k a => hg k (by omega)) (fun b a => hm b (by omega)) v9
          · exact V10_cg hN (fun k a => hg k (by omega)) (fun b a => hm b (by omega)) v10
          · exact V11_cg hN (fun k a => hg k (by omega)) (fun b a => hm b (by omega)) v11
          · exact V12_cg hN (fun k a => hg k (by omega)) (fun b a => hm b (by omega)) v12
        · refine ⟨?_, ?_, ?_, ?_, ?_, ?_, ?_, ?_, ?_, ?_, ?_, ?_⟩
          · exact I1_cg hN (fun k a => hg k (by omega)) i1
          · exact I2_cg hN (fun k a => hg k (by omega)) i2
          · exact I3_cg hN (fun k a => hg k (by omega)) i3
          · exact I4_cg hN (fun k a => hg k (by omega)) i4
          · exact I5_cg hN (fun k a => hg k (by omega)) i5
          · exact I6_cg hN (fun k a => hg k (by omega)) i6
          · exact I7_cg hN (fun k a => hg k (by omega)) i7
          · intro q hq
            rw [hg 13 (by omega)] at hq
            have q1 := i8 q hq
            rw [hg 11 (by omega), hg (807 + 3 * q) (by omega), hg (808 + 3 * q) (by omega)]
            refine ⟨q1.1, q1.2.1, ?_⟩
            by_cases e : q = j
            · subst e
              rw [show 809 + 3 * q = 807 + 3 * q + 2 from by omega, up_at]
              exact Or.inr rfl
            · rw [hg _ (by omega)]
              exact q1.2.2
          · exact I9_cg hN (fun k a => hg k (by omega)) i9
          · exact I10_cg hN (fun k a => hg k (by omega)) i10
          · exact I11_cg hN (fun k a => hg k (by omega)) i11
          · exact I12_cg hN (fun k a => hg k (by omega)) i12
  · exact Ok_of (y := (-1, μ)) (by simp [f_11_evict, isIn_f c1, rf_23_0, rf_49_13, em13]) (Ok_of (y := (-1, ν)) (by simp [f_12_evict, is_13, en13, c1]) ⟨rfl, h⟩)
/-! the tape -/
theorem byteM {n k : Nat} (hn : n < 2 ^ 64) (hk : k ≤ 56) : ((lN n >>> ((nI k).toInt64 &&& 63)) &&& 255) = lN (n / 2 ^ k % 256) := by
  rw [wb_c k (by omega)]
  apply wb_inj
  apply BitVec.eq_of_getLsbD_eq
  intro i hi
  rw [Int64.toBitVec_and, BitVec.getLsbD_and, Int64.toBitVec_shiftRight, wb_tb, wb_tb, wb_tb, wb_sm k (by omega)]
  show (((BitVec.ofNat 64 n).sshiftRight (BitVec.ofNat 64 k).toNat).getLsbD i && (BitVec.ofNat 64 255).getLsbD i) = _
  rw [BitVec.toNat_ofNat, Nat.mod_eq_of_lt (show k < 2 ^ 64 by omega), BitVec.getLsbD_sshiftRight, BitVec.getLsbD_ofNat, BitVec.getLsbD_ofNat, BitVec.getLsbD_ofNat, show (256 : Nat) = 2 ^ 8 from rfl, Nat.testBit_mod_two_pow, Nat.testBit_div_two_pow, show (255 : Nat) = 2 ^ 8 - 1 from rfl, Nat.testBit_two_pow_sub_one]
  by_cases h8 : i < 8
  · have : k + i < 64 := by omega
    simp [h8, this, hi, Nat.add_comm]
  · simp [h8]
theorem byteC {n k : Nat} (hn : n < 2 ^ 64) (hk : k ≤ 56) : ((lN n).toUInt64 >>> ((nI k).toInt64.toUInt64 &&& Int64.toUInt64 63)).toInt64.toInt32.toInt8.toInt32 = (nI (n / 2 ^ k % 256)).toInt8.toInt32 := by
  rw [wb_shr hn (by omega), lN_i, ← fa_byte_low (nI (n / 2 ^ k)), show (255 : Int32) = nI (2 ^ 8 - 1) from rfl, fa_mask]
/-- a call that changes the tape alone -/
theorem Cp_tape {μ μ' ν ν' : mm} (h : Cp μ ν) (hm : ∀ b, b ≠ 24 → b ≠ 25 → μ' b = μ b) (hn : ∀ b, b ≠ 0 → b ≠ 4 → ν' b = ν b) (hn0 : ν' 0 3 = ν 0 3 ∧ ν' 0 8 = ν 0 8 ∧ ν' 0 9 = ν 0 9 ∧ ν' 0 33 = ν 0 33) (hT : Tp μ' ν') : Cp μ' ν' := by
  obtain ⟨h1, h2, ⟨k1, k2, k3⟩, -, hr, hs, hv, hc⟩ := h
  have m23 := hm 23 (by omega) (by omega)
  refine ⟨?_, ?_, ⟨by rw [m23, hn0.1]; exact k1, by rw [m23]; exact k2, fun e => ?_⟩, hT, ?_, ?_, ?_, ?_⟩
  · rw [hn 1 (by omega) (by omega)]
    exact VP_congr (fun _ _ => rfl) (fun b q1 q2 => hm b (by omega) (by omega)) (IV_nn h2) h1
  · rw [hn 1 (by omega) (by omega)]
    exact h2
  · rw [m23] at e
    obtain ⟨q1, q2⟩ := k3 e
    rw [hn 2 (by omega) (by omega)]
    exact ⟨VP_congr (fun _ _ => rfl) (fun b q1 q2 => hm b (by omega) (by omega)) (IV_nn q2) q1, q2⟩
  · unfold Rw
    rw [m23, hn0.2.1, hn0.2.2.1, hm 37 (by omega) (by omega), hm 38 (by omega) (by omega), hn 5 (by omega) (by omega), hn 6 (by omega) (by omega)]
    exact hr
  · exact Sh_cg (fun b q => hm b (by omega) (by omega)) (fun b q => hn b (by omega) (by omega)) hs
  · exact Sv_cg (fun b q => hm b (by omega) (by omega)) (fun b q => hn b (by omega) (by omega)) hv
  · exact Tc_cg ⟨hm 35 (by omega) (by omega), hm 36 (by omega) (by omega)⟩ ⟨hn0.2.2.2, hn 22 (by omega) (by omega)⟩ hc
/-- what the loop of feed keeps: T bytes lie there; all else as it was -/
def FI (μ0 ν0 μ ν : mm) (T : Nat) : Prop := (∀ b, b ≠ 24 → b ≠ 25 → μ b = μ0 b) ∧ (∀ b, b ≠ 0 → b ≠ 4 → ν b = ν0 b) ∧ (∀ j, j ≠ 5 → ν 0 j = ν0 0 j) ∧ μ 24 1 = nI T ∧ ν 0 5 = nI T ∧ ∀ k, k < T → (0 ≤ ν 4 k ∧ ν 4 k ≤ 255) ∧ μ 25 k = (ν 4 k).toInt8.toInt32
theorem feed_l {μ0 ν0 : mm} {w n : Nat} (hw : w < 2 ^ 64) (hn : n ≤ 8) : ∀ (m i T f1 f2 : Nat) (μ ν : mm), i + m = n → T + m ≤ 300 → m < f1 → m < f2 → FI μ0 ν0 μ ν T → ∃ μ' ν', f_11_feed_l33 23 (lN w) (nI n) f1 (nI i) μ = some μ' ∧ f_12_feed_l30 0 (lN w) (nI n) f2 (nI i) ν = some ν' ∧ FI μ0 ν0 μ' ν' (T + m) := by
  intro m
  induction m with
  | zero =>
    intro i T f1 f2 μ ν h1 h2 h3 h4 hI
    obtain ⟨a, rfl⟩ : ∃ a, f1 = a + 1 := ⟨f1 - 1, by omega⟩
    obtain ⟨b, rfl⟩ : ∃ b, f2 = b + 1 := ⟨f2 - 1, by omega⟩
    obtain rfl : i = n := by omega
    refine ⟨μ, ν, ?_, ?_, hI⟩
    · unfold f_11_feed_l33
      rw [if_pos (Int32.le_refl _)]
    · unfold f_12_feed_l30
      rw [if_pos (Int32.le_refl _)]
  | succ m ih =>
    intro i T f1 f2 μ ν h1 h2 h3 h4 hI
    obtain ⟨a, rfl⟩ : ∃ a, f1 = a + 1 := ⟨f1 - 1, by omega⟩
    obtain ⟨b, rfl⟩ : ∃ b, f2 = b + 1 := ⟨f2 - 1, by omega⟩
    obtain ⟨p1, p2, p3, p4, p5, p6⟩ := hI
    have d : ¬ nI n ≤ nI i := lt_n1 (by omega) (by omega)
    have d3 : ¬ (300 : Int32) ≤ nI T := nI_ge (b := 300) (by omega) (by decide)
    have i8 : (8 * nI i : Int32) = nI (8 * i) := by rw [show (8 : Int32) = nI 8 from rfl, pk_mul]
    have bC := byteC (n := w) (k := 8 * i) hw (by omega)
    have bM := byteM (n := w) (k := 8 * i) hw (by omega)
    have hb : w / 2 ^ (8 * i) % 256 < 256 := Nat.mod_lt _ (by decide)
    generalize w / 2 ^ (8 * i) % 256 = x at bC bM hb
    unfold f_11_feed_l33 f_12_feed_l30 f_8_take
    rw [if_neg d, if_neg d, i8, rf_23_4, p4, if_neg d3, rf_24_0, bC, bM, lN_i, fb_byte_twice, stoL len_25 (by omega) (by decide), Option.bind_some, pf_eq, Option.bind_some, Option.bind_some, rf_0_4, p5, stoL len_4 (by omega) (by decide), Option.bind_some, pf_eq, Option.bind_some, nI_1, up_nc (by decide), up_nc (by decide), p4, p5, nI_1, show T + (m + 1) = T + 1 + m from by omega]
    refine ih (i + 1) (T + 1) a b _ _ (by omega) (by omega) (by omega) (by omega) ⟨?_, ?_, ?_, up_at, up_at, ?_⟩
    · intro b q1 q2
      rw [up_ne q1, up_ne q2]
      exact p1 b q1 q2
    · intro b q1 q2
      rw [up_ne q1, up_ne q2]
      exact p2 b q1 q2
    · intro j q
      rw [up_ns q, up_nc (by decide)]
      exact p3 j q
    · intro k hk
      rw [up_ne (a := 0) (b := 4) (by decide), up_ne (a := 24) (b := 25) (by decide)]
      by_cases e : k = T
      · subst e
        rw [up_at, up_at]
        exact ⟨le_lit (m := 255) (by omega) (by decide), rfl⟩
      · rw [up_ns e, up_ns e]
        exact p6 k (by omega)
theorem T_feed {μ ν : mm} (w : Int64) (a : Int32) (h : Cp μ ν) : Ok (f_11_feed 23 w a μ) fun z => Ok (f_12_feed 0 w a ν) fun z2 => z.1 = z2.1 ∧ Cp z.2 z2.2 := by
  obtain ⟨T, hT, e1, e2, hk⟩ := h.2.2.2.1
  by_cases c1 : 1 ≤ a ∧ a ≤ 8
  · obtain ⟨n, hn, rfl⟩ := nI_of2 (M := 8) (n := 8) (by decide) (Int32.not_lt.mpr (Int32.le_trans (by decide) c1.1)) c1.2
    obtain ⟨x, hx, rfl⟩ := wb_of w
    by_cases c2 : T + n ≤ 300
    · have c3 : nI T + nI n ≤ 300 := by rw [nI_add]; exact nI_le (b := 300) c2 (by decide)
      obtain ⟨μ', ν', g1, g2, p1, p2, p3, p4, p5, p6⟩ := feed_l (μ0 := μ) (ν0 := ν) hx hn n 0 T FU FU μ ν (by omega) c2 (show n < 2000 by omega) (show n < 2000 by omega) ⟨fun _ _ _ => rfl, fun _ _ _ => rfl, fun _ _ => rfl, e1, e2, hk⟩
      rw [show nI 0 = 0 from rfl] at g1 g2
      refine Ok_of (y := (nI (T + n), μ')) ?_ (Ok_of (y := (nI (T + n), ν')) ?_ ⟨rfl, Cp_tape h p1 p2 ⟨p3 3 (by decide), p3 8 (by decide), p3 9 (by decide), p3 33 (by decide)⟩ ⟨T + n, c2, p4, p5, p6⟩⟩)
      · unfold f_11_feed
        rw [isIn_t c1, Option.bind_some, if_neg (by decide), rf_23_4, e1, if_pos c3, g1, Option.bind_some, p4]
      · unfold f_12_feed
        rw [within_t c1, Option.bind_some, if_neg (by decide), e2, if_pos c3, g2, Option.bind_some, p5]
    · have c3 : ¬ nI T + nI n ≤ 300 := by rw [nI_add]; exact nI_ge (b := T + n) (a := 300) (by omega) (by omega)
      refine Ok_of (y := (-2, μ)) ?_ (Ok_of (y := (-2, ν)) ?_ ⟨rfl, h⟩)
      · unfold f_11_feed
        rw [isIn_t c1, Option.bind_some, if_neg (by decide), rf_23_4, e1, if_neg c3]
      · unfold f_12_feed
        rw [within_t c1, Option.bind_some, if_neg (by decide), e2, if_neg c3]
  · exact Ok_of (y := (-1, μ)) (by simp [f_11_feed, isIn_f c1]) (Ok_of (y := (-1, ν)) (by simp [f_12_feed, within_f c1]) ⟨rfl, h⟩)
