/-! the call read, whole -/
set_option maxHeartbeats 1000000 in
theorem T_read {μ ν : mm} (a : Int32) (h : Cp μ ν) : Ok (f_11_read 23 a μ) fun z => Ok (f_12_read 0 a ν) fun w => z.1 = w.1 ∧ Cp z.2 w.2 := by
  obtain ⟨x, μ', ν', k1, k2, k3, k4, k5, k6, k7⟩ := use_rel (A := a) h.2.2.2.1
  obtain ⟨νz, hz⟩ : ∃ νz, νz = up ν' 0 5 0 := ⟨_, rfl⟩
  have z0 : ∀ k, k ≠ 5 → νz 0 k = ν' 0 k := fun k hk => by rw [hz, up_ns hk]
  have zb : ∀ b, b ≠ 0 → νz b = ν' b := fun b hb => by rw [hz, up_ne hb]
  have hCp : Cp μ' νz := Cp_used h k4 k5 (fun b b1 b2 b3 => by rw [zb b b1, k6 b b1 b2 b3]) (by rw [hz, up_at]) (fun k e1 e2 => by rw [z0 k e1, k7 k e2])
  have hM : f_12_read 0 a ν = (f_12_within a 0 2 νz).bind fun x18 => if x18 = 0 then some ((-1), νz) else if (νz 0 13) = 0 then (sto νz 1 (288 + (161 * a)) (νz 0 16)).bind fun μ19 => (f_12_read_l147 0 (288 + (161 * a)) FU 0 μ19).bind fun z21 => (f_12_read_l181 0 (288 + (161 * a)) FU 0 z21).bind fun z23 => some ((z23 0 16), z23) else some (((-100) - (ν' 0 10)), νz) := by
    have e : f_12_read 0 a ν = (some ν').bind fun z13 => (pf z13 0 5 0).bind fun μ15 => (f_12_within a 0 2 μ15).bind fun x18 => if x18 = 0 then some ((-1), μ15) else if (μ15 0 13) = 0 then (sto μ15 (rf 0 0) (288 + (161 * a)) (μ15 0 16)).bind fun μ19 => (f_12_read_l147 0 (288 + (161 * a)) FU 0 μ19).bind fun z21 => (f_12_read_l181 0 (288 + (161 * a)) FU 0 z21).bind fun z23 => some ((z23 0 16), z23) else some (((-100) - (z13 0 10)), μ15) := by
      rw [← k2, Option.bind_assoc, pf_eq, Option.bind_some, Option.bind_assoc, pf_eq, Option.bind_some, Option.bind_assoc, pf_eq, Option.bind_some, Option.bind_assoc, pf_eq, Option.bind_some, Option.bind_assoc, pf_eq, Option.bind_some, Option.bind_assoc]
      unfold f_12_read
      rw [pf_eq, Option.bind_some, pf_eq, Option.bind_some, pf_eq, Option.bind_some, pf_eq, Option.bind_some, pf_eq, Option.bind_some]
    rw [e, Option.bind_some, pf_eq, Option.bind_some, rf_0_0, ← hz]
  have hC : f_11_read 23 a μ = (f_11_isIn a 0 2 μ').bind fun x4 => if x4 = 0 then some ((-1), μ') else if x = (-1) then (lda 60 a).bind fun r5 => (f_5_takeFrom r5 26 μ').bind fun μ8 => (lda 60 a).bind fun r9 => some ((μ8 r9 0), μ8) else some (((-100) - x), μ') := by
    unfold f_11_read
    rw [rf_23_4, k1, Option.bind_some, rf_23_0, rf_49_11, rf_24_2]
  by_cases c : 0 ≤ a ∧ a ≤ 2
  · obtain ⟨s, hs, rfl⟩ := three_of c
    rcases k3 with ⟨rfl, f0, l, z, y, hl, hz3, hy, e0, e5, e16, e15, hLR⟩ | ⟨f1, p, hp, rfl, e10⟩
    · obtain ⟨μ'', d1, d2, d3, d4, d5, d6⟩ := draft_C hs hl hz3 e0 e5
      obtain ⟨B, hB⟩ : ∃ B, B = 288 + 161 * s := ⟨_, rfl⟩
      obtain ⟨νa, ha⟩ : ∃ νa, νa = up νz 1 B (nI l) := ⟨_, rfl⟩
      obtain ⟨νb, hb⟩ : ∃ νb, νb = cpK νa 7 (B + 1) 0 40 := ⟨_, rfl⟩
      obtain ⟨νc, hc⟩ : ∃ νc, νc = cpK νb 8 (B + 41) 0 y := ⟨_, rfl⟩
      have nb : ∀ b, b ≠ 1 → νc b = νz b := fun b q => by rw [hc, cpK_ne q, hb, cpK_ne q, ha, up_ne q]
      have g0 : νc 1 B = nI l := by rw [hc, cpK_out (by omega), hb, cpK_out (by omega), ha, up_at]
      have g7 : ∀ j, j < 40 → νc 1 (B + 1 + j) = ν' 7 j := fun j hj => by rw [hc, cpK_out (by omega), hb, cpK_in (by omega), ha, up_ne (by decide), zb 7 (by decide), show B + 1 + j - (B + 1) = j from by omega]
      have g8 : ∀ j, j < y → νc 1 (B + 41 + j) = ν' 8 j := fun j hj => by rw [hc, cpK_in (by omega), hb, cpK_ne (by decide), ha, up_ne (by decide), zb 8 (by decide), show B + 41 + j - (B + 41) = j from by omega]
      have gx : ∀ k, ¬ (B ≤ k ∧ k < B + 161) → νc 1 k = νz 1 k := fun k hk => by rw [hc, cpK_out (by omega), hb, cpK_out (by omega), ha, up_ns (by omega)]
      have i1 : (288 + 161 * nI s : Int32) = nI B := by rw [hB]; exact ix_288 s
      have q1 := copy_40 (B := B) (by omega) 40 0 FU νa rfl (show 40 < 2000 by decide)
      have q2 := copy_c (B := B) (y := y) (by omega) (by omega) y 0 FU νb (by omega) (show y < 2000 by omega) (by rw [hb, cpK_ne (by decide), ha, up_ne (by decide), z0 15 (by decide)]; exact e15)
      rw [show nI 0 = 0 from rfl, ← hb] at q1
      rw [show nI 0 = 0 from rfl, ← hc] at q2
      have hMe : f_12_read 0 (nI s) ν = some (nI l, νc) := by
        rw [hM, within_t c, Option.bind_some, if_neg (by decide), z0 13 (by decide), if_pos f0, i1, z0 16 (by decide), e16, sto1 (by omega), ← ha, Option.bind_some, q1, Option.bind_some, q2, Option.bind_some, nb 0 (by decide), z0 16 (by decide), e16]
      have lk : lda 60 (nI s) = some (125 + 6 * s) := by
        have := aV_11 isV_now hs
        rw [show 49 + 76 + 6 * s = 125 + 6 * s from by omega] at this
        exact this
      have hCe : f_11_read 23 (nI s) μ = some (nI l, μ'') := by
        rw [hC, isIn_t c, Option.bind_some, if_neg (by decide), if_pos rfl, lk, Option.bind_some, d1, Option.bind_some, Option.bind_some, d2]
      rw [hCe, hMe]
      refine Ok_of rfl (Ok_of rfl ⟨rfl, Cp_now hCp (fun b hb => d6 b (by omega)) nb ?_ ?_⟩)
      · obtain ⟨v1, v2, v3, v4, v5, v6, v7, v8, v9, v10, v11, v12⟩ := hCp.1
        have hN := IV_nn hCp.2.1
        refine ⟨V1_cg hN (fun k e => gx k (by omega)) (fun b e => d6 b (by omega)) v1, V2_cg hN (fun k e => gx k (by omega)) (fun b e => d6 b (by omega)) v2, V3_cg hN (fun k e => gx k (by omega)) (fun b e => d6 b (by omega)) v3, V4_cg hN (fun k e => gx k (by omega)) (fun b e => d6 b (by omega)) v4, V5_cg hN (fun k e => gx k (by omega)) (fun b e => d6 b (by omega)) v5, V6_cg hN (fun k e => gx k (by omega)) (fun b e => d6 b (by omega)) v6, V7_cg hN (fun k e => gx k (by omega)) (fun b e => d6 b (by omega)) v7, V8_cg hN (fun k e => gx k (by omega)) (fun b e => d6 b (by omega)) v8, V9_cg hN (fun k e => gx k (by omega)) (fun b e => d6 b (by omega)) v9, V10_cg hN (fun k e => gx k (by omega)) (fun b e => d6 b (by omega)) v10, V11_cg hN (fun k e => gx k (by omega)) (fun b e => d6 b (by omega)) v11, fun t ht => ?_⟩
        by_cases e : t = s
        · subst e
          refine ⟨l, z, hl, hz3, ?_, ?_, ?_, fun k hk => ?_⟩
          · rw [← hB]; exact g0
          · rw [show 49 + 76 + 6 * t = 125 + 6 * t from by omega]; exact d2
          · rw [show 49 + 76 + 6 * t = 125 + 6 * t from by omega]; exact d3
          · obtain ⟨r, v, fm, tm, fc, tc, ⟨o1, o2, o3⟩, ⟨b1, b2, b3, b4⟩, ⟨c1, c2, c3, c4⟩, ⟨t1, t2, t3, t4, t5⟩, t6⟩ := hLR k hk
            obtain ⟨w1, w2, w3, w4⟩ := d4 k hk
            have m1 : μ'' (49 + 77 + 6 * t) k = nI r := by rw [show 49 + 77 + 6 * t = 126 + 6 * t from by omega, w1, b1]
            have m2 : μ'' (49 + 78 + 6 * t) k = nI v := by rw [show 49 + 78 + 6 * t = 127 + 6 * t from by omega, w2, b2]
            have m3 : μ'' (49 + 79 + 6 * t) k = nI fc := by rw [show 49 + 79 + 6 * t = 128 + 6 * t from by omega, w3, b3]
            have m4 : μ'' (49 + 80 + 6 * t) k = nI tc := by rw [show 49 + 80 + 6 * t = 129 + 6 * t from by omega, w4, b4]
            have n1 : νc 1 (288 + 161 * t + 1 + 4 * k) = nI r := by rw [← hB, g7 (4 * k) (by omega), c1]
            have n2 : νc 1 (288 + 161 * t + 2 + 4 * k) = if r = 5 then -9 else nI v := by rw [← hB, show B + 2 + 4 * k = B + 1 + (4 * k + 1) from by omega, g7 _ (by omega), c2]
            have n3 : νc 1 (288 + 161 * t + 3 + 4 * k) = nI fm := by rw [← hB, show B + 3 + 4 * k = B + 1 + (4 * k + 2) from by omega, g7 _ (by omega), c3]
            have n4 : νc 1 (288 + 161 * t + 4 + 4 * k) = nI tm := by rw [← hB, show B + 4 + 4 * k = B + 1 + (4 * k + 3) from by omega, g7 _ (by omega), c4]
            have r5 : (nI r = 5) ↔ r = 5 := nI_eq (b := 5) (by omega) (by decide)
            dsimp only
            refine ⟨n1.trans m1.symm, by rw [m1]; exact le_lit (m := 6) o1 (by decide), ?_, by rw [m2]; exact le_lit (m := 999) o2 (by decide), fun q => ?_, fm, tm, fc, tc, n3, n4, m3, m4, t1, by omega, t3, by omega, t5, fun q => ?_⟩
            · rw [n2]
              by_cases q : r = 5
              · rw [if_pos q, if_pos (m1.trans (r5.mpr q))]
              · rw [if_neg q, if_neg (fun t => q (r5.mp (m1.symm.trans t))), m2]
            · rw [m2]
              exact nI_le (b := 9) (o3 ((nI_eq (b := 1) (by omega) (by decide)).mp (m1.symm.trans q))) (by decide)
            · obtain ⟨φ, p1, p2⟩ := t6 q
              refine ⟨φ, ?_, ?_⟩
              · have e6 : slc (fun i => νc 1 (288 + 161 * t + 41 + i)) fm (tm - fm) = slc (ν' 8) fm (tm - fm) := slc_cg (fun j q1 q2 => by
                  show νc 1 (288 + 161 * t + 41 + j) = ν' 8 j
                  rw [← hB]
                  exact g8 j (by omega))
                rw [e6]
                exact p1
              · have e7 : slc (μ'' (49 + 81 + 6 * t)) fc (tc - fc) = slc (μ' 31) fc (tc - fc) := slc_cg (fun j q1 q2 => by rw [show 49 + 81 + 6 * t = 130 + 6 * t from by omega]; exact d5 j (by omega))
                rw [e7]
                exact p2
        · exact RC_cg2 (fun k e1 e2 => gx k (by omega)) (fun b e1 e2 => d6 b (by omega)) (v12 t ht)
      · obtain ⟨i1, i2, i3, i4, i5, i6, i7, i8, i9, i10, i11, i12⟩ := hCp.2.1
        have hN := IV_nn hCp.2.1
        exact ⟨I1_cg hN (fun k e => gx k (by omega)) i1, I2_cg hN (fun k e => gx k (by omega)) i2, I3_cg hN (fun k e => gx k (by omega)) i3, I4_cg hN (fun k e => gx k (by omega)) i4, I5_cg hN (fun k e => gx k (by omega)) i5, I6_cg hN (fun k e => gx k (by omega)) i6, I7_cg hN (fun k e => gx k (by omega)) i7, I8_cg hN (fun k e => gx k (by omega)) i8, I9_cg hN (fun k e => gx k (by omega)) i9, I10_cg hN (fun k e => gx k (by omega)) i10, I11_cg hN (fun k e => gx k (by omega)) i11, I12_cg hN (fun k e => gx k (by omega)) i12⟩
    · refine Ok_of (y := (-100 - nI p, μ')) ?_ (Ok_of (y := (-100 - nI p, νz)) ?_ ⟨rfl, hCp⟩)
      · rw [hC, isIn_t c, Option.bind_some, if_neg (by decide), if_neg (ne_m1 (by omega))]
      · rw [hM, within_t c, Option.bind_some, if_neg (by decide), z0 13 (by decide), f1, if_neg (by decide), e10]
  · refine Ok_of (y := (-1, μ')) ?_ (Ok_of (y := (-1, νz)) ?_ ⟨rfl, hCp⟩)
    · rw [hC, isIn_f c, Option.bind_some, if_pos rfl]
    · rw [hM, within_f c, Option.bind_some, if_pos rfl]
