/-! LongStrike.of(II)I -/
def tab_11_of : List (Nat × Instr × Nat) := [(0, .aload_n 0, 1), (1, .getfield 10, 3), (4, .iload_n 1, 1), (5, .invokevirtual 145, 3), (8, .ifCond .ne 5, 3), (11, .iconst (-1), 1), (12, .ireturn, 1), (13, .aload_n 0, 1), (14, .getfield 10, 3), (17, .getfield 135, 3), (20, .iload_n 1, 1), (21, .aaload, 1), (22, .astore_n 3, 1), (23, .iload_n 2, 1), (24, .tableswitch 185 0 15 #[80, 85, 90, 95, 100, 105, 110, 115, 120, 125, 130, 138, 146, 155, 164, 173], 80), (104, .aload_n 3, 1), (105, .getfield 148, 3), (108, .ireturn, 1), (109, .aload_n 3, 1), (110, .getfield 151, 3), (113, .ireturn, 1), (114, .aload_n 3, 1), (115, .getfield 154, 3), (118, .ireturn, 1), (119, .aload_n 3, 1), (120, .getfield 157, 3), (123, .ireturn, 1), (124, .aload_n 3, 1), (125, .getfield 160, 3), (128, .ireturn, 1), (129, .aload_n 3, 1), (130, .getfield 163, 3), (133, .ireturn, 1), (134, .aload_n 3, 1), (135, .getfield 166, 3), (138, .ireturn, 1), (139, .aload_n 3, 1), (140, .getfield 169, 3), (143, .ireturn, 1), (144, .aload_n 3, 1), (145, .getfield 172, 3), (148, .ireturn, 1), (149, .aload_n 3, 1), (150, .getfield 175, 3), (153, .ireturn, 1), (154, .aload_n 3, 1), (155, .getfield 178, 3), (158, .invokestatic 181, 3), (161, .ireturn, 1), (162, .aload_n 3, 1), (163, .getfield 185, 3), (166, .invokestatic 181, 3), (169, .ireturn, 1), (170, .aload_n 0, 1), (171, .getfield 10, 3), (174, .aload_n 3, 1), (175, .invokevirtual 188, 3), (178, .ireturn, 1), (179, .aload_n 0, 1), (180, .getfield 10, 3), (183, .aload_n 3, 1), (184, .invokevirtual 192, 3), (187, .ireturn, 1), (188, .aload_n 0, 1), (189, .getfield 10, 3), (192, .aload_n 3, 1), (193, .invokevirtual 195, 3), (196, .ireturn, 1), (197, .aload_n 0, 1), (198, .getfield 10, 3), (201, .aload_n 3, 1), (202, .invokevirtual 198, 3), (205, .invokestatic 181, 3), (208, .ireturn, 1), (209, .iconst (-1), 1), (210, .ireturn, 1)]
set_option maxRecDepth 100000 in
theorem dt_11_of : ∀ q ∈ tab_11_of, decode m_11_of.2.1 q.1 = .ok q.2 := by decide +kernel
def f_11_of (a0 : Nat) (a1 : Int32) (a2 : Int32) (μ : mm) : Option (Int32) :=
  (f_9_hasHousehold (rf a0 0) a1 μ).bind fun x2 =>
  if x2 = 0 then
    some (-1)
  else
    (lda (rf (rf a0 0) 10) a1).bind fun r3 =>
    if a2 = 0 then
      some (μ r3 0)
    else if a2 = 1 then
      some (μ r3 1)
    else if a2 = 2 then
      some (μ r3 2)
    else if a2 = 3 then
      some (μ r3 3)
    else if a2 = 4 then
      some (μ r3 4)
    else if a2 = 5 then
      some (μ r3 5)
    else if a2 = 6 then
      some (μ r3 6)
    else if a2 = 7 then
      some (μ r3 7)
    else if a2 = 8 then
      some (μ r3 8)
    else if a2 = 9 then
      some (μ r3 9)
    else if a2 = 10 then
      (f_11_asBit (μ r3 10) μ).bind fun x6 =>
      some x6
    else if a2 = 11 then
      (f_11_asBit (μ r3 11) μ).bind fun x8 =>
      some x8
    else if a2 = 12 then
      (f_9_ticketOf (rf a0 0) r3 μ).bind fun x10 =>
      some x10
    else if a2 = 13 then
      (f_9_rankOf (rf a0 0) r3 μ).bind fun x12 =>
      some x12
    else if a2 = 14 then
      (f_9_reliefOf (rf a0 0) r3 μ).bind fun x14 =>
      some x14
    else if a2 = 15 then
      (f_9_mayVote (rf a0 0) r3 μ).bind fun x16 =>
      (f_11_asBit x16 μ).bind fun x18 =>
      some x18
    else 
      some (-1)
set_option maxRecDepth 100000 in
set_option maxHeartbeats 4000000 in
theorem ok_11_of {l : Launch} {E : ce} {d : Nat}  {a0 : Nat} {a1 : Int32} {a2 : Int32} {μ : mm} {r : Int32} {Q : Option Value → mm → Prop} (h : f_11_of a0 a1 a2 μ = some r) (k0 : kd a0 = 11) (hQ : Q (some (.int r)) μ) : Ct l E (d + 5) yX11_of m_11_of [.ref a0, .int a1, .int a2] μ Q := by
  refine Ct_of (lv := [some (.ref a0), some (.int a1), some (.int a2), none]) (by decide) rfl (Nat.le_of_ble_eq_true rfl) rfl ?_
  unfold f_11_of at h
  refine R_aload_n (dd dt_11_of 0 rfl) 0 rfl rfl ?_
  refine g_11_10 rfl k0 (dd dt_11_of 1 rfl) ?_
  refine R_iload_n (dd dt_11_of 2 rfl) 1 rfl rfl ?_
  obtain ⟨x2, e1, h⟩ := bi_el h
  refine c_11_145 (As := [.int a1]) (st1 := [.int x2]) rfl (fun Q1 hq => ok_9_hasHousehold e1 (ty_11_0 k0) hq) (ty_11_0 k0) rfl rfl (Nat.le_of_ble_eq_true rfl) (dd dt_11_of 3 rfl) rfl ?_
  refine R_ifne (dd dt_11_of 4 rfl) (tgt := 13) rfl (fun hc => ?_) (fun hc => ?_)
  · rw [if_neg hc] at h
    refine R_aload_n (dd dt_11_of 7 rfl) 0 rfl rfl ?_
    refine g_11_10 rfl k0 (dd dt_11_of 8 rfl) ?_
    refine g_11_135 rfl (ty_11_0 k0) (dd dt_11_of 9 rfl) ?_
    refine R_iload_n (dd dt_11_of 10 rfl) 1 rfl rfl ?_
    obtain ⟨r3, e4, h⟩ := bi_el h
    refine R_aald (t0 := 6) e4 (ty_9_10 (ty_11_0 k0)) (by decide) (by decide) rfl rfl (dd dt_11_of 11 rfl) ?_
    refine R_astore_n (lv' := [some (.ref a0), some (.int a1), some (.int a2), some (.ref r3)]) (dd dt_11_of 12 rfl) 3 rfl (by decide) rfl rfl ?_
    refine R_iload_n (dd dt_11_of 13 rfl) 2 rfl rfl ?_
    by_cases hs0 : a2 = 0
    · refine R_tabIn (off := 80) (tgt := 104) (dd dt_11_of 14 rfl) (by rw [hs0]; decide) (by rw [hs0]; decide) (by rw [hs0]; rfl) rfl ?_
      rw [if_pos hs0] at h
      refine R_aload_n (dd dt_11_of 15 rfl) 3 rfl rfl ?_
      refine g_11_148 rfl (tl_26 e4 (ty_9_10 (ty_11_0 k0))) (dd dt_11_of 16 rfl) ?_
      obtain rfl := Option.some.inj h
      exact R_iret rfl (dd dt_11_of 17 rfl) hQ
    rw [if_neg hs0] at h
    by_cases hs1 : a2 = 1
    · refine R_tabIn (off := 85) (tgt := 109) (dd dt_11_of 14 rfl) (by rw [hs1]; decide) (by rw [hs1]; decide) (by rw [hs1]; rfl) rfl ?_
      rw [if_pos hs1] at h
      refine R_aload_n (dd dt_11_of 18 rfl) 3 rfl rfl ?_
      refine g_11_151 rfl (tl_26 e4 (ty_9_10 (ty_11_0 k0))) (dd dt_11_of 19 rfl) ?_
      obtain rfl := Option.some.inj h
      exact R_iret rfl (dd dt_11_of 20 rfl) hQ
    rw [if_neg hs1] at h
    by_cases hs2 : a2 = 2
    · refine R_tabIn (off := 90) (tgt := 114) (dd dt_11_of 14 rfl) (by rw [hs2]; decide) (by rw [hs2]; decide) (by rw [hs2]; rfl) rfl ?_
      rw [if_pos hs2] at h
      refine R_aload_n (dd dt_11_of 21 rfl) 3 rfl rfl ?_
      refine g_11_154 rfl (tl_26 e4 (ty_9_10 (ty_11_0 k0))) (dd dt_11_of 22 rfl) ?_
      obtain rfl := Option.some.inj h
      exact R_iret rfl (dd dt_11_of 23 rfl) hQ
    rw [if_neg hs2] at h
    by_cases hs3 : a2 = 3
    · refine R_tabIn (off := 95) (tgt := 119) (dd dt_11_of 14 rfl) (by rw [hs3]; decide) (by rw [hs3]; decide) (by rw [hs3]; rfl) rfl ?_
      rw [if_pos hs3] at h
      refine R_aload_n (dd dt_11_of 24 rfl) 3 rfl rfl ?_
      refine g_11_157 rfl (tl_26 e4 (ty_9_10 (ty_11_0 k0))) (dd dt_11_of 25 rfl) ?_
      obtain rfl := Option.some.inj h
      exact R_iret rfl (dd dt_11_of 26 rfl) hQ
    rw [if_neg hs3] at h
    by_cases hs4 : a2 = 4
    · refine R_tabIn (off := 100) (tgt := 124) (dd dt_11_of 14 rfl) (by rw [hs4]; decide) (by rw [hs4]; decide) (by rw [hs4]; rfl) rfl ?_
      rw [if_pos hs4] at h
      refine R_aload_n (dd dt_11_of 27 rfl) 3 rfl rfl ?_
      refine g_11_160 rfl (tl_26 e4 (ty_9_10 (ty_11_0 k0))) (dd dt_11_of 28 rfl) ?_
      obtain rfl := Option.some.inj h
      exact R_iret rfl (dd dt_11_of 29 rfl) hQ
    rw [if_neg hs4] at h
    by_cases hs5 : a2 = 5
    · refine R_tabIn (off := 105) (tgt := 129) (dd dt_11_of 14 rfl) (by rw [hs5]; decide) (by rw [hs5]; decide) (by rw [hs5]; rfl) rfl ?_
      rw [if_pos hs5] at h
      refine R_aload_n (dd dt_11_of 30 rfl) 3 rfl rfl ?_
      refine g_11_163 rfl (tl_26 e4 (ty_9_10 (ty_11_0 k0))) (dd dt_11_of 31 rfl) ?_
      obtain rfl := Option.some.inj h
      exact R_iret rfl (dd dt_11_of 32 rfl) hQ
    rw [if_neg hs5] at h
    by_cases hs6 : a2 = 6
    · refine R_tabIn (off := 110) (tgt := 134) (dd dt_11_of 14 rfl) (by rw [hs6]; decide) (by rw [hs6]; decide) (by rw [hs6]; rfl) rfl ?_
      rw [if_pos hs6] at h
      refine R_aload_n (dd dt_11_of 33 rfl) 3 rfl rfl ?_
      refine g_11_166 rfl (tl_26 e4 (ty_9_10 (ty_11_0 k0))) (dd dt_11_of 34 rfl) ?_
      obtain rfl := Option.some.inj h
      exact R_iret rfl (dd dt_11_of 35 rfl) hQ
    rw [if_neg hs6] at h
    by_cases hs7 : a2 = 7
    · refine R_tabIn (off := 115) (tgt := 139) (dd dt_11_of 14 rfl) (by rw [hs7]; decide) (by rw [hs7]; decide) (by rw [hs7]; rfl) rfl ?_
      rw [if_pos hs7] at h
      refine R_aload_n (dd dt_11_of 36 rfl) 3 rfl rfl ?_
      refine g_11_169 rfl (tl_26 e4 (ty_9_10 (ty_11_0 k0))) (dd dt_11_of 37 rfl) ?_
      obtain rfl := Option.some.inj h
      exact R_iret rfl (dd dt_11_of 38 rfl) hQ
    rw [if_neg hs7] at h
    by_cases hs8 : a2 = 8
    · refine R_tabIn (off := 120) (tgt := 144) (dd dt_11_of 14 rfl) (by rw [hs8]; decide) (by rw [hs8]; decide) (by rw [hs8]; rfl) rfl ?_
      rw [if_pos hs8] at h
      refine R_aload_n (dd dt_11_of 39 rfl) 3 rfl rfl ?_
      refine g_11_172 rfl (tl_26 e4 (ty_9_10 (ty_11_0 k0))) (dd dt_11_of 40 rfl) ?_
      obtain rfl := Option.some.inj h
      exact R_iret rfl (dd dt_11_of 41 rfl) hQ
    rw [if_neg hs8] at h
    by_cases hs9 : a2 = 9
    · refine R_tabIn (off := 125) (tgt := 149) (dd dt_11_of 14 rfl) (by rw [hs9]; decide) (by rw [hs9]; decide) (by rw [hs9]; rfl) rfl ?_
      rw [if_pos hs9] at h
      refine R_aload_n (dd dt_11_of 42 rfl) 3 rfl rfl ?_
      refine g_11_175 rfl (tl_26 e4 (ty_9_10 (ty_11_0 k0))) (dd dt_11_of 43 rfl) ?_
      obtain rfl := Option.some.inj h
      exact R_iret rfl (dd dt_11_of 44 rfl) hQ
    rw [if_neg hs9] at h
    by_cases hs10 : a2 = 10
    · refine R_tabIn (off := 130) (tgt := 154) (dd dt_11_of 14 rfl) (by rw [hs10]; decide) (by rw [hs10]; decide) (by rw [hs10]; rfl) rfl ?_
      rw [if_pos hs10] at h
      refine R_aload_n (dd dt_11_of 45 rfl) 3 rfl rfl ?_
      refine g_11_178 rfl (tl_26 e4 (ty_9_10 (ty_11_0 k0))) (dd dt_11_of 46 rfl) ?_
      obtain ⟨x6, e5, h⟩ := bi_el h
      refine c_11_181 (As := [.int (μ r3 10)]) (st1 := [.int x6]) rfl (fun Q1 hq => ok_11_asBit e5 hq) rfl rfl (Nat.le_of_ble_eq_true rfl) (dd dt_11_of 47 rfl) rfl ?_
      obtain rfl := Option.some.inj h
      exact R_iret rfl (dd dt_11_of 48 rfl) hQ
    rw [if_neg hs10] at h
    by_cases hs11 : a2 = 11
    · refine R_tabIn (off := 138) (tgt := 162) (dd dt_11_of 14 rfl) (by rw [hs11]; decide) (by rw [hs11]; decide) (by rw [hs11]; rfl) rfl ?_
      rw [if_pos hs11] at h
      refine R_aload_n (dd dt_11_of 49 rfl) 3 rfl rfl ?_
      refine g_11_185 rfl (tl_26 e4 (ty_9_10 (ty_11_0 k0))) (dd dt_11_of 50 rfl) ?_
      obtain ⟨x8, e7, h⟩ := bi_el h
      refine c_11_181 (As := [.int (μ r3 11)]) (st1 := [.int x8]) rfl (fun Q1 hq => ok_11_asBit e7 hq) rfl rfl (Nat.le_of_ble_eq_true rfl) (dd dt_11_of 51 rfl) rfl ?_
      obtain rfl := Option.some.inj h
      exact R_iret rfl (dd dt_11_of 52 rfl) hQ
    rw [if_neg hs11] at h
    by_cases hs12 : a2 = 12
    · refine R_tabIn (off := 146) (tgt := 170) (dd dt_11_of 14 rfl) (by rw [hs12]; decide) (by rw [hs12]; decide) (by rw [hs12]; rfl) rfl ?_
      rw [if_pos hs12] at h
      refine R_aload_n (dd dt_11_of 53 rfl) 0 rfl rfl ?_
      refine g_11_10 rfl k0 (dd dt_11_of 54 rfl) ?_
      refine R_aload_n (dd dt_11_of 55 rfl) 3 rfl rfl ?_
      obtain ⟨x10, e9, h⟩ := bi_el h
      refine c_11_188 (As := [.ref r3]) (st1 := [.int x10]) rfl (fun Q1 hq => ok_9_ticketOf e9 (ty_11_0 k0) (tl_26 e4 (ty_9_10 (ty_11_0 k0))) hq) (ty_11_0 k0) rfl rfl (Nat.le_of_ble_eq_true rfl) (dd dt_11_of 56 rfl) rfl ?_
      obtain rfl := Option.some.inj h
      exact R_iret rfl (dd dt_11_of 57 rfl) hQ
    rw [if_neg hs12] at h
    by_cases hs13 : a2 = 13
    · refine R_tabIn (off := 155) (tgt := 179) (dd dt_11_of 14 rfl) (by rw [hs13]; decide) (by rw [hs13]; decide) (by rw [hs13]; rfl) rfl ?_
      rw [if_pos hs13] at h
      refine R_aload_n (dd dt_11_of 58 rfl) 0 rfl rfl ?_
      refine g_11_10 rfl k0 (dd dt_11_of 59 rfl) ?_
      refine R_aload_n (dd dt_11_of 60 rfl) 3 rfl rfl ?_
      obtain ⟨x12, e11, h⟩ := bi_el h
      refine c_11_192 (As := [.ref r3]) (st1 := [.int x12]) rfl (fun Q1 hq => ok_9_rankOf e11 (ty_11_0 k0) (tl_26 e4 (ty_9_10 (ty_11_0 k0))) hq) (ty_11_0 k0) rfl rfl (Nat.le_of_ble_eq_true rfl) (dd dt_11_of 61 rfl) rfl ?_
      obtain rfl := Option.some.inj h
      exact R_iret rfl (dd dt_11_of 62 rfl) hQ
    rw [if_neg hs13] at h
    by_cases hs14 : a2 = 14
    · refine R_tabIn (off := 164) (tgt := 188) (dd dt_11_of 14 rfl) (by rw [hs14]; decide) (by rw [hs14]; decide) (by rw [hs14]; rfl) rfl ?_
      rw [if_pos hs14] at h
      refine R_aload_n (dd dt_11_of 63 rfl) 0 rfl rfl ?_
      refine g_11_10 rfl k0 (dd dt_11_of 64 rfl) ?_
      refine R_aload_n (dd dt_11_of 65 rfl) 3 rfl rfl ?_
      obtain ⟨x14, e13, h⟩ := bi_el h
      refine c_11_195 (As := [.ref r3]) (st1 := [.int x14]) rfl (fun Q1 hq => ok_9_reliefOf e13 (ty_11_0 k0) (tl_26 e4 (ty_9_10 (ty_11_0 k0))) hq) (ty_11_0 k0) rfl rfl (Nat.le_of_ble_eq_true rfl) (dd dt_11_of 66 rfl) rfl ?_
      obtain rfl := Option.some.inj h
      exact R_iret rfl (dd dt_11_of 67 rfl) hQ
    rw [if_neg hs14] at h
    by_cases hs15 : a2 = 15
    · refine R_tabIn (off := 173) (tgt := 197) (dd dt_11_of 14 rfl) (by rw [hs15]; decide) (by rw [hs15]; decide) (by rw [hs15]; rfl) rfl ?_
      rw [if_pos hs15] at h
      refine R_aload_n (dd dt_11_of 68 rfl) 0 rfl rfl ?_
      refine g_11_10 rfl k0 (dd dt_11_of 69 rfl) ?_
      refine R_aload_n (dd dt_11_of 70 rfl) 3 rfl rfl ?_
      obtain ⟨x16, e15, h⟩ := bi_el h
      refine c_11_198 (As := [.ref r3]) (st1 := [.int x16]) rfl (fun Q1 hq => ok_9_mayVote e15 (ty_11_0 k0) (tl_26 e4 (ty_9_10 (ty_11_0 k0))) hq) (ty_11_0 k0) rfl rfl (Nat.le_of_ble_eq_true rfl) (dd dt_11_of 71 rfl) rfl ?_
      obtain ⟨x18, e17, h⟩ := bi_el h
      refine c_11_181 (As := [.int x16]) (st1 := [.int x18]) rfl (fun Q1 hq => ok_11_asBit e17 hq) rfl rfl (Nat.le_of_ble_eq_true rfl) (dd dt_11_of 72 rfl) rfl ?_
      obtain rfl := Option.some.inj h
      exact R_iret rfl (dd dt_11_of 73 rfl) hQ
    rw [if_neg hs15] at h
    refine R_tabOut (tgt := 209) (dd dt_11_of 14 rfl) (by have hn0 := lv_neT hs0 (a := 0) (by decide); have hn1 := lv_neT hs1 (a := 1) (by decide); have hn2 := lv_neT hs2 (a := 2) (by decide); have hn3 := lv_neT hs3 (a := 3) (by decide); have hn4 := lv_neT hs4 (a := 4) (by decide); have hn5 := lv_neT hs5 (a := 5) (by decide); have hn6 := lv_neT hs6 (a := 6) (by decide); have hn7 := lv_neT hs7 (a := 7) (by decide); have hn8 := lv_neT hs8 (a := 8) (by decide); have hn9 := lv_neT hs9 (a := 9) (by decide); have hn10 := lv_neT hs10 (a := 10) (by decide); have hn11 := lv_neT hs11 (a := 11) (by decide); have hn12 := lv_neT hs12 (a := 12) (by decide); have hn13 := lv_neT hs13 (a := 13) (by decide); have hn14 := lv_neT hs14 (a := 14) (by decide); have hn15 := lv_neT hs15 (a := 15) (by decide); omega) rfl ?_
    refine R_iconst (v := (-1)) (dd dt_11_of 74 rfl) ic_m1 ?_
    obtain rfl := Option.some.inj h
    exact R_iret rfl (dd dt_11_of 75 rfl) hQ
  · rw [if_pos hc] at h
    refine R_iconst (v := (-1)) (dd dt_11_of 5 rfl) ic_m1 ?_
    obtain rfl := Option.some.inj h
    exact R_iret rfl (dd dt_11_of 6 rfl) hQ
/-! LongStrike$Pit.daysAbove(I)I -/
def tab_4_daysAbove : List (Nat × Instr × Nat) := [(0, .aload_n 0, 1), (1, .invokevirtual 31, 3), (4, .ifCond .eq 5, 3), (7, .iconst 0, 1), (8, .ireturn, 1), (9, .aload_n 0, 1), (10, .getfield 22, 3), (13, .istore_n 2, 1), (14, .iconst 0, 1), (15, .istore_n 3, 1), (16, .iload_n 3, 1), (17, .sipush 500, 3), (20, .if_icmp .ge 26, 3), (23, .aload_n 0, 1), (24, .iload_n 2, 1), (25, .iload_n 1, 1), (26, .invokevirtual 35, 3), (29, .istore_n 2, 1), (30, .iload_n 2, 1), (31, .aload_n 0, 1), (32, .getfield 19, 3), (35, .if_icmp .le 5, 3), (38, .iload_n 3, 1), (39, .ireturn, 1), (40, .iinc 3 1, 3), (43, .goto (-27), 3), (46, .sipush 500, 3), (49, .ireturn, 1)]
set_option maxRecDepth 100000 in
theorem dt_4_daysAbove : ∀ q ∈ tab_4_daysAbove, decode m_4_daysAbove.2.1 q.1 = .ok q.2 := by decide +kernel
def f_4_daysAbove_l16 (a0 : Nat) (a1 : Int32) (μ : mm) : Nat → Int32 → Int32 → Option (Int32)
  | 0, _, _ => none
  | n + 1, v2, v3 => if 500 ≤ v3 then
      some 500
    else
      (f_4_waterAfter a0 v2 a1 μ).bind fun x2 =>
      if x2 ≤ (μ a0 3) then
        f_4_daysAbove_l16 a0 a1 μ n x2 (v3 + 1)
      else
        some v3
set_option maxRecDepth 100000 in
theorem ok_4_daysAbove_l16 {l : Launch} {E : ce} {d : Nat} {Q : Option Value → mm → Prop} (a0 : Nat) (a1 : Int32) (μ : mm) (k0 : kd a0 = 4) : ∀ (n : Nat) (v2 : Int32) (v3 : Int32) (r : Int32), f_4_daysAbove_l16 a0 a1 μ n v2 v3 = some r → Q (some (.int r)) μ → Rj l E (d + 1) m_4_daysAbove 16 [some (.ref a0), some (.int a1), some (.int v2), some (.int v3)] [] μ Q
  | 0, _, _, z, h, _ => by
    rw [f_4_daysAbove_l16] at h
    cases h
  | n + 1, v2, v3, r, h, hQ => by
    rw [f_4_daysAbove_l16] at h
    refine R_iload_n (dd dt_4_daysAbove 10 rfl) 3 rfl rfl ?_
    refine R_sipush (v := 500) (dd dt_4_daysAbove 11 rfl) sp_500 ?_
    refine R_cmpge (dd dt_4_daysAbove 12 rfl) (tgt := 46) rfl (fun hc => ?_) (fun hc => ?_)
    · rw [if_pos hc] at h
      refine R_sipush (v := 500) (dd dt_4_daysAbove 26 rfl) sp_500 ?_
      obtain rfl := Option.some.inj h
      exact R_iret rfl (dd dt_4_daysAbove 27 rfl) hQ
    · rw [if_neg hc] at h
      refine R_aload_n (dd dt_4_daysAbove 13 rfl) 0 rfl rfl ?_
      refine R_iload_n (dd dt_4_daysAbove 14 rfl) 2 rfl rfl ?_
      refine R_iload_n (dd dt_4_daysAbove 15 rfl) 1 rfl rfl ?_
      obtain ⟨x2, e1, h⟩ := bi_el h
      refine c_4_35 (As := [.int v2, .int a1]) (st1 := [.int x2]) rfl (fun Q1 hq => ok_4_waterAfter e1 k0 hq) k0 rfl rfl (Nat.le_of_ble_eq_true rfl) (dd dt_4_daysAbove 16 rfl) rfl ?_
      refine R_istore_n (lv' := [some (.ref a0), some (.int a1), some (.int x2), some (.int v3)]) (dd dt_4_daysAbove 17 rfl) 2 rfl (by decide) rfl rfl ?_
      refine R_iload_n (dd dt_4_daysAbove 18 rfl) 2 rfl rfl ?_
      refine R_aload_n (dd dt_4_daysAbove 19 rfl) 0 rfl rfl ?_
      refine g_4_19 rfl k0 (dd dt_4_daysAbove 20 rfl) ?_
      refine R_cmple (dd dt_4_daysAbove 21 rfl) (tgt := 40) rfl (fun hc => ?_) (fun hc => ?_)
      · rw [if_pos hc] at h
        refine R_iinc (v := 1) (lv' := [some (.ref a0), some (.int a1), some (.int x2), some (.int (v3 + 1))]) (dd dt_4_daysAbove 24 rfl) (by decide) rfl rfl ic_1 rfl ?_
        refine R_goto (dd dt_4_daysAbove 25 rfl) (tgt := 16) rfl ?_
        exact R_mask [true, true, true, true] rfl (ok_4_daysAbove_l16 a0 a1 μ k0 n x2 (v3 + 1) _ h hQ)
      · rw [if_neg hc] at h
        refine R_iload_n (dd dt_4_daysAbove 22 rfl) 3 rfl rfl ?_
        obtain rfl := Option.some.inj h
        exact R_iret rfl (dd dt_4_daysAbove 23 rfl) hQ
def f_4_daysAbove (a0 : Nat) (a1 : Int32) (μ : mm) : Option (Int32) :=
  (f_4_isLost a0 μ).bind fun x2 =>
  if x2 = 0 then
    f_4_daysAbove_l16 a0 a1 μ FU (μ a0 4) 0
  else
    some 0
set_option maxRecDepth 100000 in
set_option maxHeartbeats 4000000 in
theorem ok_4_daysAbove {l : Launch} {E : ce} {d : Nat}  {a0 : Nat} {a1 : Int32} {μ : mm} {r : Int32} {Q : Option Value → mm → Prop} (h : f_4_daysAbove a0 a1 μ = some r) (k0 : kd a0 = 4) (hQ : Q (some (.int r)) μ) : Ct l E (d + 1) yX4_daysAbove m_4_daysAbove [.ref a0, .int a1] μ Q := by
  refine Ct_of (lv := [some (.ref a0), some (.int a1), none, none]) (by decide) rfl (Nat.le_of_ble_eq_true rfl) rfl ?_
  unfold f_4_daysAbove at h
  refine R_aload_n (dd dt_4_daysAbove 0 rfl) 0 rfl rfl ?_
  obtain ⟨x2, e1, h⟩ := bi_el h
  refine c_4_31 (As := []) (st1 := [.int x2]) rfl (fun Q1 hq => ok_4_isLost e1 k0 hq) k0 rfl rfl (Nat.le_of_ble_eq_true rfl) (dd dt_4_daysAbove 1 rfl) rfl ?_
  refine R_ifeq (dd dt_4_daysAbove 2 rfl) (tgt := 9) rfl (fun hc => ?_) (fun hc => ?_)
  · rw [if_pos hc] at h
    refine R_aload_n (dd dt_4_daysAbove 5 rfl) 0 rfl rfl ?_
    refine g_4_22 rfl k0 (dd dt_4_daysAbove 6 rfl) ?_
    refine R_istore_n (lv' := [some (.ref a0), some (.int a1), some (.int (μ a0 4)), none]) (dd dt_4_daysAbove 7 rfl) 2 rfl (by decide) rfl rfl ?_
    refine R_iconst (v := 0) (dd dt_4_daysAbove 8 rfl) ic_0 ?_
    refine R_istore_n (lv' := [some (.ref a0), some (.int a1), some (.int (μ a0 4)), some (.int 0)]) (dd dt_4_daysAbove 9 rfl) 3 rfl (by decide) rfl rfl ?_
    exact R_mask [true, true, true, true] rfl (ok_4_daysAbove_l16 a0 a1 μ k0 FU (μ a0 4) 0 _ h hQ)
  · rw [if_neg hc] at h
    refine R_iconst (v := 0) (dd dt_4_daysAbove 3 rfl) ic_0 ?_
    obtain rfl := Option.some.inj h
    exact R_iret rfl (dd dt_4_daysAbove 4 rfl) hQ
/-! LongStrike.pitOf(II)I -/
def tab_11_pitOf : List (Nat × Instr × Nat) := [(0, .aload_n 0, 1), (1, .getfield 10, 3), (4, .iload_n 1, 1), (5, .invokevirtual 129, 3), (8, .ifCond .ne 5, 3), (11, .iconst (-1), 1), (12, .ireturn, 1), (13, .aload_n 0, 1), (14, .getfield 10, 3), (17, .getfield 106, 3), (20, .iload_n 1, 1), (21, .aaload, 1), (22, .astore_n 3, 1), (23, .iload_n 2, 1), (24, .tableswitch 80 0 4 #[36, 41, 46, 63, 68], 36), (60, .aload_n 3, 1), (61, .getfield 202, 3), (64, .ireturn, 1), (65, .aload_n 3, 1), (66, .getfield 203, 3), (69, .ireturn, 1), (70, .aload_n 3, 1), (71, .invokevirtual 206, 3), (74, .ifCond .eq 10, 3), (77, .aload_n 3, 1), (78, .getfield 210, 3), (81, .goto 5, 3), (84, .bipush (-3), 2), (86, .ireturn, 1), (87, .aload_n 3, 1), (88, .getfield 213, 3), (91, .ireturn, 1), (92, .aload_n 3, 1), (93, .aload_n 0, 1), (94, .getfield 10, 3), (97, .invokevirtual 216, 3), (100, .invokevirtual 220, 3), (103, .ireturn, 1), (104, .iconst (-1), 1), (105, .ireturn, 1)]
set_option maxRecDepth 100000 in
theorem dt_11_pitOf : ∀ q ∈ tab_11_pitOf, decode m_11_pitOf.2.1 q.1 = .ok q.2 := by decide +kernel
def f_11_pitOf (a0 : Nat) (a1 : Int32) (a2 : Int32) (μ : mm) : Option (Int32) :=
  (f_9_hasPit (rf a0 0) a1 μ).bind fun x2 =>
  if x2 = 0 then
    some (-1)
  else
    (lda (rf (rf a0 0) 8) a1).bind fun r3 =>
    if a2 = 0 then
      some (μ r3 0)
    else if a2 = 1 then
      some (μ r3 4)
    else if a2 = 2 then
      (f_4_isLost r3 μ).bind fun x6 =>
      if x6 = 0 then
        some (-3)
      else
        some (μ r3 5)
    else if a2 = 3 then
      some (μ r3 6)
    else if a2 = 4 then
      (f_9_safety (rf a0 0) μ).bind fun x8 =>
      (f_4_daysAbove r3 x8 μ).bind fun x10 =>
      some x10
    else 
      some (-1)
set_option maxRecDepth 100000 in
set_option maxHeartbeats 4000000 in
theorem ok_11_pitOf {l : Launch} {E : ce} {d : Nat}  {a0 : Nat} {a1 : Int32} {a2 : Int32} {μ : mm} {r : Int32} {Q : Option Value → mm → Prop} (h : f_11_pitOf a0 a1 a2 μ = some r) (k0 : kd a0 = 11) (hQ : Q (some (.int r)) μ) : Ct l E (d + 3) yX11_pitOf m_11_pitOf [.ref a0, .int a1, .int a2] μ Q := by
  refine Ct_of (lv := [some (.ref a0), some (.int a1), some (.int a2), none]) (by decide) rfl (Nat.le_of_ble_eq_true rfl) rfl ?_
  unfold f_11_pitOf at h
  refine R_aload_n (dd dt_11_pitOf 0 rfl) 0 rfl rfl ?_
  refine g_11_10 rfl k0 (dd dt_11_pitOf 1 rfl) ?_
  refine R_iload_n (dd dt_11_pitOf 2 rfl) 1 rfl rfl ?_
  obtain ⟨x2, e1, h⟩ := bi_el h
  refine c_11_129 (As := [.int a1]) (st1 := [.int x2]) rfl (fun Q1 hq => ok_9_hasPit e1 (ty_11_0 k0) hq) (ty_11_0 k0) rfl rfl (Nat.le_of_ble_eq_true rfl) (dd dt_11_pitOf 3 rfl) rfl ?_
  refine R_ifne (dd dt_11_pitOf 4 rfl) (tgt := 13) rfl (fun hc => ?_) (fun hc => ?_)
  · rw [if_neg hc] at h
    refine R_aload_n (dd dt_11_pitOf 7 rfl) 0 rfl rfl ?_
    refine g_11_10 rfl k0 (dd dt_11_pitOf 8 rfl) ?_
    refine g_11_106 rfl (ty_11_0 k0) (dd dt_11_pitOf 9 rfl) ?_
    refine R_iload_n (dd dt_11_pitOf 10 rfl) 1 rfl rfl ?_
    obtain ⟨r3, e4, h⟩ := bi_el h
    refine R_aald (t0 := 4) e4 (ty_9_8 (ty_11_0 k0)) (by decide) (by decide) rfl rfl (dd dt_11_pitOf 11 rfl) ?_
    refine R_astore_n (lv' := [some (.ref a0), some (.int a1), some (.int a2), some (.ref r3)]) (dd dt_11_pitOf 12 rfl) 3 rfl (by decide) rfl rfl ?_
    refine R_iload_n (dd dt_11_pitOf 13 rfl) 2 rfl rfl ?_
    by_cases hs0 : a2 = 0
    · refine R_tabIn (off := 36) (tgt := 60) (dd dt_11_pitOf 14 rfl) (by rw [hs0]; decide) (by rw [hs0]; decide) (by rw [hs0]; rfl) rfl ?_
      rw [if_pos hs0] at h
      refine R_aload_n (dd dt_11_pitOf 15 rfl) 3 rfl rfl ?_
      refine g_11_202 rfl (tl_24 e4 (ty_9_8 (ty_11_0 k0))) (dd dt_11_pitOf 16 rfl) ?_
      obtain rfl := Option.some.inj h
      exact R_iret rfl (dd dt_11_pitOf 17 rfl) hQ
    rw [if_neg hs0] at h
    by_cases hs1 : a2 = 1
    · refine R_tabIn (off := 41) (tgt := 65) (dd dt_11_pitOf 14 rfl) (by rw [hs1]; decide) (by rw [hs1]; decide) (by rw [hs1]; rfl) rfl ?_
      rw [if_pos hs1] at h
      refine R_aload_n (dd dt_11_pitOf 18 rfl) 3 rfl rfl ?_
      refine g_11_203 rfl (tl_24 e4 (ty_9_8 (ty_11_0 k0))) (dd dt_11_pitOf 19 rfl) ?_
      obtain rfl := Option.some.inj h
      exact R_iret rfl (dd dt_11_pitOf 20 rfl) hQ
    rw [if_neg hs1] at h
    by_cases hs2 : a2 = 2
    · refine R_tabIn (off := 46) (tgt := 70) (dd dt_11_pitOf 14 rfl) (by rw [hs2]; decide) (by rw [hs2]; decide) (by rw [hs2]; rfl) rfl ?_
      rw [if_pos hs2] at h
      refine R_aload_n (dd dt_11_pitOf 21 rfl) 3 rfl rfl ?_
      obtain ⟨x6, e5, h⟩ := bi_el h
      refine c_11_206 (As := []) (st1 := [.int x6]) rfl (fun Q1 hq => ok_4_isLost e5 (tl_24 e4 (ty_9_8 (ty_11_0 k0))) hq) (tl_24 e4 (ty_9_8 (ty_11_0 k0))) rfl rfl (Nat.le_of_ble_eq_true rfl) (dd dt_11_pitOf 22 rfl) rfl ?_
      refine R_ifeq (dd dt_11_pitOf 23 rfl) (tgt := 84) rfl (fun hc => ?_) (fun hc => ?_)
      · rw [if_pos hc] at h
        refine R_bipush (v := (-3)) (dd dt_11_pitOf 27 rfl) bp_m3 ?_
        obtain rfl := Option.some.inj h
        exact R_iret rfl (dd dt_11_pitOf 28 rfl) hQ
      · rw [if_neg hc] at h
        refine R_aload_n (dd dt_11_pitOf 24 rfl) 3 rfl rfl ?_
        refine g_11_210 rfl (tl_24 e4 (ty_9_8 (ty_11_0 k0))) (dd dt_11_pitOf 25 rfl) ?_
        refine R_goto (dd dt_11_pitOf 26 rfl) (tgt := 86) rfl ?_
        obtain rfl := Option.some.inj h
        exact R_iret rfl (dd dt_11_pitOf 28 rfl) hQ
    rw [if_neg hs2] at h
    by_cases hs3 : a2 = 3
    · refine R_tabIn (off := 63) (tgt := 87) (dd dt_11_pitOf 14 rfl) (by rw [hs3]; decide) (by rw [hs3]; decide) (by rw [hs3]; rfl) rfl ?_
      rw [if_pos hs3] at h
      refine R_aload_n (dd dt_11_pitOf 29 rfl) 3 rfl rfl ?_
      refine g_11_213 rfl (tl_24 e4 (ty_9_8 (ty_11_0 k0))) (dd dt_11_pitOf 30 rfl) ?_
      obtain rfl := Option.some.inj h
      exact R_iret rfl (dd dt_11_pitOf 31 rfl) hQ
    rw [if_neg hs3] at h
    by_cases hs4 : a2 = 4
    · refine R_tabIn (off := 68) (tgt := 92) (dd dt_11_pitOf 14 rfl) (by rw [hs4]; decide) (by rw [hs4]; decide) (by rw [hs4]; rfl) rfl ?_
      rw [if_pos hs4] at h
      refine R_aload_n (dd dt_11_pitOf 32 rfl) 3 rfl rfl ?_
      refine R_aload_n (dd dt_11_pitOf 33 rfl) 0 rfl rfl ?_
      refine g_11_10 rfl k0 (dd dt_11_pitOf 34 rfl) ?_
      obtain ⟨x8, e7, h⟩ := bi_el h
      refine c_11_216 (As := []) (st1 := [.int x8, .ref r3]) rfl (fun Q1 hq => ok_9_safety e7 (ty_11_0 k0) hq) (ty_11_0 k0) rfl rfl (Nat.le_of_ble_eq_true rfl) (dd dt_11_pitOf 35 rfl) rfl ?_
      obtain ⟨x10, e9, h⟩ := bi_el h
      refine c_11_220 (As := [.int x8]) (st1 := [.int x10]) rfl (fun Q1 hq => ok_4_daysAbove e9 (tl_24 e4 (ty_9_8 (ty_11_0 k0))) hq) (tl_24 e4 (ty_9_8 (ty_11_0 k0))) rfl rfl (Nat.le_of_ble_eq_true rfl) (dd dt_11_pitOf 36 rfl) rfl ?_
      obtain rfl := Option.some.inj h
      exact R_iret rfl (dd dt_11_pitOf 37 rfl) hQ
    rw [if_neg hs4] at h
    refine R_tabOut (tgt := 104) (dd dt_11_pitOf 14 rfl) (by have hn0 := lv_neT hs0 (a := 0) (by decide); have hn1 := lv_neT hs1 (a := 1) (by decide); have hn2 := lv_neT hs2 (a := 2) (by decide); have hn3 := lv_neT hs3 (a := 3) (by decide); have hn4 := lv_neT hs4 (a := 4) (by decide); omega) rfl ?_
    refine R_iconst (v := (-1)) (dd dt_11_pitOf 38 rfl) ic_m1 ?_
    obtain rfl := Option.some.inj h
    exact R_iret rfl (dd dt_11_pitOf 39 rfl) hQ
  · rw [if_pos hc] at h
    refine R_iconst (v := (-1)) (dd dt_11_pitOf 5 rfl) ic_m1 ?_
    obtain rfl := Option.some.inj h
    exact R_iret rfl (dd dt_11_pitOf 6 rfl) hQ
/-! LongStrike$Valley.hasShop(I)Z -/
def tab_9_hasShop : List (Nat × Instr × Nat) := [(0, .iload_n 1, 1), (1, .iconst 0, 1), (2, .aload_n 0, 1), (3, .getfield 21, 3), (6, .iconst 1, 1), (7, .isub, 1), (8, .invokestatic 142, 3), (11, .ireturn, 1)]
set_option maxRecDepth 100000 in
theorem dt_9_hasShop : ∀ q ∈ tab_9_hasShop, decode m_9_hasShop.2.1 q.1 = .ok q.2 := by decide +kernel
def f_9_hasShop (a0 : Nat) (a1 : Int32) (μ : mm) : Option (Int32) :=
  (f_11_isIn a1 0 ((μ a0 3) - 1) μ).bind fun x2 =>
  (gb x2).bind fun _ =>
  some x2
set_option maxRecDepth 100000 in
set_option maxHeartbeats 4000000 in
theorem ok_9_hasShop {l : Launch} {E : ce} {d : Nat}  {a0 : Nat} {a1 : Int32} {μ : mm} {r : Int32} {Q : Option Value → mm → Prop} (h : f_9_hasShop a0 a1 μ = some r) (k0 : kd a0 = 9) (hQ : Q (some (.int r)) μ) : Ct l E (d + 1) yX9_hasShop m_9_hasShop [.ref a0, .int a1] μ Q := by
  refine Ct_of (lv := [some (.ref a0), some (.int a1)]) (by decide) rfl (Nat.le_of_ble_eq_true rfl) rfl ?_
  unfold f_9_hasShop at h
  refine R_iload_n (dd dt_9_hasShop 0 rfl) 1 rfl rfl ?_
  refine R_iconst (v := 0) (dd dt_9_hasShop 1 rfl) ic_0 ?_
  refine R_aload_n (dd dt_9_hasShop 2 rfl) 0 rfl rfl ?_
  refine g_9_21 rfl k0 (dd dt_9_hasShop 3 rfl) ?_
  refine R_iconst (v := 1) (dd dt_9_hasShop 4 rfl) ic_1 ?_
  refine R_isub (dd dt_9_hasShop 5 rfl) ?_
  obtain ⟨x2, e1, h⟩ := bi_el h
  refine c_9_142 (As := [.int a1, .int 0, .int ((μ a0 3) - 1)]) (st1 := [.int x2]) rfl (fun Q1 hq => ok_11_isIn e1 hq) rfl rfl (Nat.le_of_ble_eq_true rfl) (dd dt_9_hasShop 6 rfl) rfl ?_
  obtain ⟨_, q3, h⟩ := bi_el h
  obtain rfl := Option.some.inj h
  exact R_zret rfl (bo_narrow (gb_el q3).1) (dd dt_9_hasShop 7 rfl) hQ
/-! LongStrike.shopOf(II)I -/
def tab_11_shopOf : List (Nat × Instr × Nat) := [(0, .aload_n 0, 1), (1, .getfield 10, 3), (4, .iload_n 1, 1), (5, .invokevirtual 224, 3), (8, .ifCond .ne 5, 3), (11, .iconst (-1), 1), (12, .ireturn, 1), (13, .iload_n 2, 1), (14, .tableswitch 65 0 2 #[26, 39, 52], 26), (40, .aload_n 0, 1), (41, .getfield 10, 3), (44, .getfield 119, 3), (47, .iload_n 1, 1), (48, .aaload, 1), (49, .getfield 227, 3), (52, .ireturn, 1), (53, .aload_n 0, 1), (54, .getfield 10, 3), (57, .getfield 119, 3), (60, .iload_n 1, 1), (61, .aaload, 1), (62, .getfield 228, 3), (65, .ireturn, 1), (66, .aload_n 0, 1), (67, .getfield 10, 3), (70, .getfield 119, 3), (73, .iload_n 1, 1), (74, .aaload, 1), (75, .getfield 231, 3), (78, .ireturn, 1), (79, .iconst (-1), 1), (80, .ireturn, 1)]
set_option maxRecDepth 100000 in
theorem dt_11_shopOf : ∀ q ∈ tab_11_shopOf, decode m_11_shopOf.2.1 q.1 = .ok q.2 := by decide +kernel
def f_11_shopOf (a0 : Nat) (a1 : Int32) (a2 : Int32) (μ : mm) : Option (Int32) :=
  (f_9_hasShop (rf a0 0) a1 μ).bind fun x2 =>
  if x2 = 0 then
    some (-1)
  else
    if a2 = 0 then
      (lda (rf (rf a0 0) 9) a1).bind fun r3 =>
      some (μ r3 0)
    else if a2 = 1 then
      (lda (rf (rf a0 0) 9) a1).bind fun r5 =>
      some (μ r5 1)
    else if a2 = 2 then
      (lda (rf (rf a0 0) 9) a1).bind fun r7 =>
      some (μ r7 2)
    else 
      some (-1)
set_option maxRecDepth 100000 in
set_option maxHeartbeats 4000000 in
theorem ok_11_shopOf {l : Launch} {E : ce} {d : Nat}  {a0 : Nat} {a1 : Int32} {a2 : Int32} {μ : mm} {r : Int32} {Q : Option Value → mm → Prop} (h : f_11_shopOf a0 a1 a2 μ = some r) (k0 : kd a0 = 11) (hQ : Q (some (.int r)) μ) : Ct l E (d + 2) yX11_shopOf m_11_shopOf [.ref a0, .int a1, .int a2] μ Q := by
  refine Ct_of (lv := [some (.ref a0), some (.int a1), some (.int a2)]) (by decide) rfl (Nat.le_of_ble_eq_true rfl) rfl ?_
  unfold f_11_shopOf at h
  refine R_aload_n (dd dt_11_shopOf 0 rfl) 0 rfl rfl ?_
  refine g_11_10 rfl k0 (dd dt_11_shopOf 1 rfl) ?_
  refine R_iload_n (dd dt_11_shopOf 2 rfl) 1 rfl rfl ?_
  obtain ⟨x2, e1, h⟩ := bi_el h
  refine c_11_224 (As := [.int a1]) (st1 := [.int x2]) rfl (fun Q1 hq => ok_9_hasShop e1 (ty_11_0 k0) hq) (ty_11_0 k0) rfl rfl (Nat.le_of_ble_eq_true rfl) (dd dt_11_shopOf 3 rfl) rfl ?_
  refine R_ifne (dd dt_11_shopOf 4 rfl) (tgt := 13) rfl (fun hc => ?_) (fun hc => ?_)
  · rw [if_neg hc] at h
    refine R_iload_n (dd dt_11_shopOf 7 rfl) 2 rfl rfl ?_
    by_cases hs0 : a2 = 0
    · refine R_tabIn (off := 26) (tgt := 40) (dd dt_11_shopOf 8 rfl) (by rw [hs0]; decide) (by rw [hs0]; decide) (by rw [hs0]; rfl) rfl ?_
      rw [if_pos hs0] at h
      refine R_aload_n (dd dt_11_shopOf 9 rfl) 0 rfl rfl ?_
      refine g_11_10 rfl k0 (dd dt_11_shopOf 10 rfl) ?_
      refine g_11_119 rfl (ty_11_0 k0) (dd dt_11_shopOf 11 rfl) ?_
      refine R_iload_n (dd dt_11_shopOf 12 rfl) 1 rfl rfl ?_
      obtain ⟨r3, e4, h⟩ := bi_el h
      refine R_aald (t0 := 5) e4 (ty_9_9 (ty_11_0 k0)) (by decide) (by decide) rfl rfl (dd dt_11_shopOf 13 rfl) ?_
      refine g_11_227 rfl (tl_25 e4 (ty_9_9 (ty_11_0 k0))) (dd dt_11_shopOf 14 rfl) ?_
      obtain rfl := Option.some.inj h
      exact R_iret rfl (dd dt_11_shopOf 15 rfl) hQ
    rw [if_neg hs0] at h
    by_cases hs1 : a2 = 1
    · refine R_tabIn (off := 39) (tgt := 53) (dd dt_11_shopOf 8 rfl) (by rw [hs1]; decide) (by rw [hs1]; decide) (by rw [hs1]; rfl) rfl ?_
      rw [if_pos hs1] at h
      refine R_aload_n (dd dt_11_shopOf 16 rfl) 0 rfl rfl ?_
      refine g_11_10 rfl k0 (dd dt_11_shopOf 17 rfl) ?_
      refine g_11_119 rfl (ty_11_0 k0) (dd dt_11_shopOf 18 rfl) ?_
      refine R_iload_n (dd dt_11_shopOf 19 rfl) 1 rfl rfl ?_
      obtain ⟨r5, e6, h⟩ := bi_el h
      refine R_aald (t0 := 5) e6 (ty_9_9 (ty_11_0 k0)) (by decide) (by decide) rfl rfl (dd dt_11_shopOf 20 rfl) ?_
      refine g_11_228 rfl (tl_25 e6 (ty_9_9 (ty_11_0 k0))) (dd dt_11_shopOf 21 rfl) ?_
      obtain rfl := Option.some.inj h
      exact R_iret rfl (dd dt_11_shopOf 22 rfl) hQ
    rw [if_neg hs1] at h
    by_cases hs2 : a2 = 2
    · refine R_tabIn (off := 52) (tgt := 66) (dd dt_11_shopOf 8 rfl) (by rw [hs2]; decide) (by rw [hs2]; decide) (by rw [hs2]; rfl) rfl ?_
      rw [if_pos hs2] at h
      refine R_aload_n (dd dt_11_shopOf 23 rfl) 0 rfl rfl ?_
      refine g_11_10 rfl k0 (dd dt_11_shopOf 24 rfl) ?_
      refine g_11_119 rfl (ty_11_0 k0) (dd dt_11_shopOf 25 rfl) ?_
      refine R_iload_n (dd dt_11_shopOf 26 rfl) 1 rfl rfl ?_
      obtain ⟨r7, e8, h⟩ := bi_el h
      refine R_aald (t0 := 5) e8 (ty_9_9 (ty_11_0 k0)) (by decide) (by decide) rfl rfl (dd dt_11_shopOf 27 rfl) ?_
      refine g_11_231 rfl (tl_25 e8 (ty_9_9 (ty_11_0 k0))) (dd dt_11_shopOf 28 rfl) ?_
      obtain rfl := Option.some.inj h
      exact R_iret rfl (dd dt_11_shopOf 29 rfl) hQ
    rw [if_neg hs2] at h
    refine R_tabOut (tgt := 79) (dd dt_11_shopOf 8 rfl) (by have hn0 := lv_neT hs0 (a := 0) (by decide); have hn1 := lv_neT hs1 (a := 1) (by decide); have hn2 := lv_neT hs2 (a := 2) (by decide); omega) rfl ?_
    refine R_iconst (v := (-1)) (dd dt_11_shopOf 30 rfl) ic_m1 ?_
    obtain rfl := Option.some.inj h
    exact R_iret rfl (dd dt_11_shopOf 31 rfl) hQ
  · rw [if_pos hc] at h
    refine R_iconst (v := (-1)) (dd dt_11_shopOf 5 rfl) ic_m1 ?_
    obtain rfl := Option.some.inj h
    exact R_iret rfl (dd dt_11_shopOf 6 rfl) hQ
/-! LongStrike.chooseBurn(I)I -/
def tab_11_chooseBurn : List (Nat × Instr × Nat) := [(0, .iload_n 1, 1), (1, .iconst 0, 1), (2, .sipush 999, 3), (5, .invokestatic 83, 3), (8, .ifCond .ne 5, 3), (11, .iconst (-1), 1), (12, .ireturn, 1), (13, .aload_n 0, 1), (14, .getfield 10, 3), (17, .getfield 250, 3), (20, .getfield 254, 3), (23, .istore_n 2, 1), (24, .aload_n 0, 1), (25, .getfield 10, 3), (28, .getfield 250, 3), (31, .iload_n 1, 1), (32, .putfield 254, 3), (35, .iload_n 2, 1), (36, .ireturn, 1)]
set_option maxRecDepth 100000 in
theorem dt_11_chooseBurn : ∀ q ∈ tab_11_chooseBurn, decode m_11_chooseBurn.2.1 q.1 = .ok q.2 := by decide +kernel
def f_11_chooseBurn (a0 : Nat) (a1 : Int32) (μ : mm) : Option (Int32 × mm) :=
  (f_11_isIn a1 0 999 μ).bind fun x2 =>
  if x2 = 0 then
    some ((-1), μ)
  else
    (pf μ (rf (rf a0 0) 12) 1 a1).bind fun μ3 =>
    some ((μ (rf (rf a0 0) 12) 1), μ3)
set_option maxRecDepth 100000 in
set_option maxHeartbeats 4000000 in
theorem ok_11_chooseBurn {l : Launch} {E : ce} {d : Nat}  {a0 : Nat} {a1 : Int32} {μ : mm} {r : Int32 × mm} {Q : Option Value → mm → Prop} (h : f_11_chooseBurn a0 a1 μ = some r) (k0 : kd a0 = 11) (hQ : Q (some (.int r.1)) r.2) : Ct l E (d + 1) yX11_chooseBurn m_11_chooseBurn [.ref a0, .int a1] μ Q := by
  refine Ct_of (lv := [some (.ref a0), some (.int a1), none]) (by decide) rfl (Nat.le_of_ble_eq_true rfl) rfl ?_
  unfold f_11_chooseBurn at h
  refine R_iload_n (dd dt_11_chooseBurn 0 rfl) 1 rfl rfl ?_
  refine R_iconst (v := 0) (dd dt_11_chooseBurn 1 rfl) ic_0 ?_
  refine R_sipush (v := 999) (dd dt_11_chooseBurn 2 rfl) sp_999 ?_
  obtain ⟨x2, e1, h⟩ := bi_el h
  refine c_11_83 (As := [.int a1, .int 0, .int 999]) (st1 := [.int x2]) rfl (fun Q1 hq => ok_11_isIn e1 hq) rfl rfl (Nat.le_of_ble_eq_true rfl) (dd dt_11_chooseBurn 3 rfl) rfl ?_
  refine R_ifne (dd dt_11_chooseBurn 4 rfl) (tgt := 13) rfl (fun hc => ?_) (fun hc => ?_)
  · rw [if_neg hc] at h
    refine R_aload_n (dd dt_11_chooseBurn 7 rfl) 0 rfl rfl ?_
    refine g_11_10 rfl k0 (dd dt_11_chooseBurn 8 rfl) ?_
    refine g_11_250 rfl (ty_11_0 k0) (dd dt_11_chooseBurn 9 rfl) ?_
    refine g_11_254 rfl (ty_9_12 (ty_11_0 k0)) (dd dt_11_chooseBurn 10 rfl) ?_
    refine R_istore_n (lv' := [some (.ref a0), some (.int a1), some (.int (μ (rf (rf a0 0) 12) 1))]) (dd dt_11_chooseBurn 11 rfl) 2 rfl (by decide) rfl rfl ?_
    refine R_aload_n (dd dt_11_chooseBurn 12 rfl) 0 rfl rfl ?_
    refine g_11_10 rfl k0 (dd dt_11_chooseBurn 13 rfl) ?_
    refine g_11_250 rfl (ty_11_0 k0) (dd dt_11_chooseBurn 14 rfl) ?_
    refine R_iload_n (dd dt_11_chooseBurn 15 rfl) 1 rfl rfl ?_
    obtain ⟨μ3, e4, h⟩ := bi_el h
    refine p_11_254 rfl (ty_9_12 (ty_11_0 k0)) (dd dt_11_chooseBurn 16 rfl) e4 ?_
    refine R_iload_n (dd dt_11_chooseBurn 17 rfl) 2 rfl rfl ?_
    obtain rfl := Option.some.inj h
    exact R_iret rfl (dd dt_11_chooseBurn 18 rfl) hQ
  · rw [if_pos hc] at h
    refine R_iconst (v := (-1)) (dd dt_11_chooseBurn 5 rfl) ic_m1 ?_
    obtain rfl := Option.some.inj h
    exact R_iret rfl (dd dt_11_chooseBurn 6 rfl) hQ
/-! LongStrike.chooseCold(I)I -/
def tab_11_chooseCold : List (Nat × Instr × Nat) := [(0, .iload_n 1, 1), (1, .iconst 0, 1), (2, .iconst 1, 1), (3, .invokestatic 83, 3), (6, .ifCond .ne 5, 3), (9, .iconst (-1), 1), (10, .ireturn, 1), (11, .aload_n 0, 1), (12, .getfield 10, 3), (15, .getfield 247, 3), (18, .invokestatic 181, 3), (21, .istore_n 2, 1), (22, .aload_n 0, 1), (23, .getfield 10, 3), (26, .iload_n 1, 1), (27, .iconst 1, 1), (28, .if_icmp .ne 7, 3), (31, .iconst 1, 1), (32, .goto 4, 3), (35, .iconst 0, 1), (36, .putfield 247, 3), (39, .iload_n 2, 1), (40, .ireturn, 1)]
set_option maxRecDepth 100000 in
theorem dt_11_chooseCold : ∀ q ∈ tab_11_chooseCold, decode m_11_chooseCold.2.1 q.1 = .ok q.2 := by decide +kernel
def f_11_chooseCold (a0 : Nat) (a1 : Int32) (μ : mm) : Option (Int32 × mm) :=
  (f_11_isIn a1 0 1 μ).bind fun x2 =>
  if x2 = 0 then
    some ((-1), μ)
  else
    (f_11_asBit (μ (rf a0 0) 6) μ).bind fun x4 =>
    (if a1 = 1 then
        some 1
      else
        some 0).bind fun (z5 : Int32) =>
    (gb z5).bind fun _ =>
    (pf μ (rf a0 0) 6 z5).bind fun μ6 =>
    some (x4, μ6)
set_option maxRecDepth 100000 in
set_option maxHeartbeats 4000000 in
theorem ok_11_chooseCold {l : Launch} {E : ce} {d : Nat}  {a0 : Nat} {a1 : Int32} {μ : mm} {r : Int32 × mm} {Q : Option Value → mm → Prop} (h : f_11_chooseCold a0 a1 μ = some r) (k0 : kd a0 = 11) (hQ : Q (some (.int r.1)) r.2) : Ct l E (d + 1) yX11_chooseCold m_11_chooseCold [.ref a0, .int a1] μ Q := by
  refine Ct_of (lv := [some (.ref a0), some (.int a1), none]) (by decide) rfl (Nat.le_of_ble_eq_true rfl) rfl ?_
  unfold f_11_chooseCold at h
  refine R_iload_n (dd dt_11_chooseCold 0 rfl) 1 rfl rfl ?_
  refine R_iconst (v := 0) (dd dt_11_chooseCold 1 rfl) ic_0 ?_
  refine R_iconst (v := 1) (dd dt_11_chooseCold 2 rfl) ic_1 ?_
  obtain ⟨x2, e1, h⟩ := bi_el h
  refine c_11_83 (As := [.int a1, .int 0, .int 1]) (st1 := [.int x2]) rfl (fun Q1 hq => ok_11_isIn e1 hq) rfl rfl (Nat.le_of_ble_eq_true rfl) (dd dt_11_chooseCold 3 rfl) rfl ?_
  refine R_ifne (dd dt_11_chooseCold 4 rfl) (tgt := 11) rfl (fun hc => ?_) (fun hc => ?_)
  · rw [if_neg hc] at h
    refine R_aload_n (dd dt_11_chooseCold 7 rfl) 0 rfl rfl ?_
    refine g_11_10 rfl k0 (dd dt_11_chooseCold 8 rfl) ?_
    refine g_11_247 rfl (ty_11_0 k0) (dd dt_11_chooseCold 9 rfl) ?_
    obtain ⟨x4, e3, h⟩ := bi_el h
    refine c_11_181 (As := [.int (μ (rf a0 0) 6)]) (st1 := [.int x4]) rfl (fun Q1 hq => ok_11_asBit e3 hq) rfl rfl (Nat.le_of_ble_eq_true rfl) (dd dt_11_chooseCold 10 rfl) rfl ?_
    refine R_istore_n (lv' := [some (.ref a0), some (.int a1), some (.int x4)]) (dd dt_11_chooseCold 11 rfl) 2 rfl (by decide) rfl rfl ?_
    refine R_aload_n (dd dt_11_chooseCold 12 rfl) 0 rfl rfl ?_
    refine g_11_10 rfl k0 (dd dt_11_chooseCold 13 rfl) ?_
    refine R_iload_n (dd dt_11_chooseCold 14 rfl) 1 rfl rfl ?_
    refine R_iconst (v := 1) (dd dt_11_chooseCold 15 rfl) ic_1 ?_
    obtain ⟨z5, hz5, h⟩ := bi_el h
    have K5 : Rj l E (d + 1) m_11_chooseCold 36 [none, none, some (.int x4)] [.int z5, .ref (rf a0 0)] μ Q := by
      clear hz5
      obtain ⟨_, q8, h⟩ := bi_el h
      obtain ⟨μ6, e7, h⟩ := bi_el h
      refine p_11_247 rfl (ty_11_0 k0) (gb_el q8).1 (dd dt_11_chooseCold 20 rfl) e7 ?_
      refine R_iload_n (dd dt_11_chooseCold 21 rfl) 2 rfl rfl ?_
      obtain rfl := Option.some.inj h
      exact R_iret rfl (dd dt_11_chooseCold 22 rfl) hQ
    clear h
    have h := hz5
    clear hz5
    refine R_cmpne (dd dt_11_chooseCold 16 rfl) (tgt := 35) rfl (fun hc => ?_) (fun hc => ?_)
    · rw [if_neg hc] at h
      refine R_iconst (v := 0) (dd dt_11_chooseCold 19 rfl) ic_0 ?_
      obtain rfl := Option.some.inj h
      exact R_mask [false, false, true] rfl K5
    · rw [if_pos hc] at h
      refine R_iconst (v := 1) (dd dt_11_chooseCold 17 rfl) ic_1 ?_
      refine R_goto (dd dt_11_chooseCold 18 rfl) (tgt := 36) rfl ?_
      obtain rfl := Option.some.inj h
      exact R_mask [false, false, true] rfl K5
  · rw [if_pos hc] at h
    refine R_iconst (v := (-1)) (dd dt_11_chooseCold 5 rfl) ic_m1 ?_
    obtain rfl := Option.some.inj h
    exact R_iret rfl (dd dt_11_chooseCold 6 rfl) hQ
/-! LongStrike.chooseMiles(I)I -/
def tab_11_chooseMiles : List (Nat × Instr × Nat) := [(0, .iload_n 1, 1), (1, .iconst 0, 1), (2, .bipush 9, 2), (4, .invokestatic 83, 3), (7, .ifCond .ne 5, 3), (10, .iconst (-1), 1), (11, .ireturn, 1), (12, .aload_n 0, 1), (13, .getfield 10, 3), (16, .getfield 259, 3), (19, .getfield 263, 3), (22, .istore_n 2, 1), (23, .aload_n 0, 1), (24, .getfield 10, 3), (27, .getfield 259, 3), (30, .iload_n 1, 1), (31, .putfield 263, 3), (34, .iload_n 2, 1), (35, .ireturn, 1)]
set_option maxRecDepth 100000 in
theorem dt_11_chooseMiles : ∀ q ∈ tab_11_chooseMiles, decode m_11_chooseMiles.2.1 q.1 = .ok q.2 := by decide +kernel
def f_11_chooseMiles (a0 : Nat) (a1 : Int32) (μ : mm) : Option (Int32 × mm) :=
  (f_11_isIn a1 0 9 μ).bind fun x2 =>
  if x2 = 0 then
    some ((-1), μ)
  else
    (pf μ (rf (rf a0 0) 14) 0 a1).bind fun μ3 =>
    some ((μ (rf (rf a0 0) 14) 0), μ3)
set_option maxRecDepth 100000 in
set_option maxHeartbeats 4000000 in
theorem ok_11_chooseMiles {l : Launch} {E : ce} {d : Nat}  {a0 : Nat} {a1 : Int32} {μ : mm} {r : Int32 × mm} {Q : Option Value → mm → Prop} (h : f_11_chooseMiles a0 a1 μ = some r) (k0 : kd a0 = 11) (hQ : Q (some (.int r.1)) r.2) : Ct l E (d + 1) yX11_chooseMiles m_11_chooseMiles [.ref a0, .int a1] μ Q := by
  refine Ct_of (lv := [some (.ref a0), some (.int a1), none]) (by decide) rfl (Nat.le_of_ble_eq_true rfl) rfl ?_
  unfold f_11_chooseMiles at h
  refine R_iload_n (dd dt_11_chooseMiles 0 rfl) 1 rfl rfl ?_
  refine R_iconst (v := 0) (dd dt_11_chooseMiles 1 rfl) ic_0 ?_
  refine R_bipush (v := 9) (dd dt_11_chooseMiles 2 rfl) bp_9 ?_
  obtain ⟨x2, e1, h⟩ := bi_el h
  refine c_11_83 (As := [.int a1, .int 0, .int 9]) (st1 := [.int x2]) rfl (fun Q1 hq => ok_11_isIn e1 hq) rfl rfl (Nat.le_of_ble_eq_true rfl) (dd dt_11_chooseMiles 3 rfl) rfl ?_
  refine R_ifne (dd dt_11_chooseMiles 4 rfl) (tgt := 12) rfl (fun hc => ?_) (fun hc => ?_)
  · rw [if_neg hc] at h
    refine R_aload_n (dd dt_11_chooseMiles 7 rfl) 0 rfl rfl ?_
    refine g_11_10 rfl k0 (dd dt_11_chooseMiles 8 rfl) ?_
    refine g_11_259 rfl (ty_11_0 k0) (dd dt_11_chooseMiles 9 rfl) ?_
    refine g_11_263 rfl (ty_9_14 (ty_11_0 k0)) (dd dt_11_chooseMiles 10 rfl) ?_
    refine R_istore_n (lv' := [some (.ref a0), some (.int a1), some (.int (μ (rf (rf a0 0) 14) 0))]) (dd dt_11_chooseMiles 11 rfl) 2 rfl (by decide) rfl rfl ?_
    refine R_aload_n (dd dt_11_chooseMiles 12 rfl) 0 rfl rfl ?_
    refine g_11_10 rfl k0 (dd dt_11_chooseMiles 13 rfl) ?_
    refine g_11_259 rfl (ty_11_0 k0) (dd dt_11_chooseMiles 14 rfl) ?_
    refine R_iload_n (dd dt_11_chooseMiles 15 rfl) 1 rfl rfl ?_
    obtain ⟨μ3, e4, h⟩ := bi_el h
    refine p_11_263 rfl (ty_9_14 (ty_11_0 k0)) (dd dt_11_chooseMiles 16 rfl) e4 ?_
    refine R_iload_n (dd dt_11_chooseMiles 17 rfl) 2 rfl rfl ?_
    obtain rfl := Option.some.inj h
    exact R_iret rfl (dd dt_11_chooseMiles 18 rfl) hQ
  · rw [if_pos hc] at h
    refine R_iconst (v := (-1)) (dd dt_11_chooseMiles 5 rfl) ic_m1 ?_
    obtain rfl := Option.some.inj h
    exact R_iret rfl (dd dt_11_chooseMiles 6 rfl) hQ
/-! LongStrike.chooseWant(II)I -/
def tab_11_chooseWant : List (Nat × Instr × Nat) := [(0, .iload_n 1, 1), (1, .bipush 10, 2), (3, .bipush 13, 2), (5, .invokestatic 83, 3), (8, .ifCond .eq 28, 3), (11, .aload_n 0, 1), (12, .getfield 10, 3), (15, .iload_n 1, 1), (16, .bipush 10, 2), (18, .isub, 1), (19, .invokevirtual 129, 3), (22, .ifCond .eq 14, 3), (25, .iload_n 2, 1), (26, .iconst 0, 1), (27, .sipush 900, 3), (30, .invokestatic 83, 3), (33, .ifCond .ne 5, 3), (36, .iconst (-1), 1), (37, .ireturn, 1), (38, .aload_n 0, 1), (39, .getfield 10, 3), (42, .getfield 106, 3), (45, .iload_n 1, 1), (46, .bipush 10, 2), (48, .isub, 1), (49, .aaload, 1), (50, .astore_n 3, 1), (51, .aload_n 3, 1), (52, .getfield 213, 3), (55, .istore 4, 2), (57, .aload_n 3, 1), (58, .iload_n 2, 1), (59, .putfield 213, 3), (62, .iload 4, 2), (64, .ireturn, 1)]
set_option maxRecDepth 100000 in
theorem dt_11_chooseWant : ∀ q ∈ tab_11_chooseWant, decode m_11_chooseWant.2.1 q.1 = .ok q.2 := by decide +kernel
def f_11_chooseWant (a0 : Nat) (a1 : Int32) (a2 : Int32) (μ : mm) : Option (Int32 × mm) :=
  (f_11_isIn a1 10 13 μ).bind fun x2 =>
  if x2 = 0 then
    some ((-1), μ)
  else
    (f_9_hasPit (rf a0 0) (a1 - 10) μ).bind fun x4 =>
    if x4 = 0 then
      some ((-1), μ)
    else
      (f_11_isIn a2 0 900 μ).bind fun x6 =>
      if x6 = 0 then
        some ((-1), μ)
      else
        (lda (rf (rf a0 0) 8) (a1 - 10)).bind fun r7 =>
        (pf μ r7 6 a2).bind fun μ9 =>
        some ((μ r7 6), μ9)
set_option maxRecDepth 100000 in
set_option maxHeartbeats 4000000 in
theorem ok_11_chooseWant {l : Launch} {E : ce} {d : Nat}  {a0 : Nat} {a1 : Int32} {a2 : Int32} {μ : mm} {r : Int32 × mm} {Q : Option Value → mm → Prop} (h : f_11_chooseWant a0 a1 a2 μ = some r) (k0 : kd a0 = 11) (hQ : Q (some (.int r.1)) r.2) : Ct l E (d + 2) yX11_chooseWant m_11_chooseWant [.ref a0, .int a1, .int a2] μ Q := by
  refine Ct_of (lv := [some (.ref a0), some (.int a1), some (.int a2), none, none]) (by decide) rfl (Nat.le_of_ble_eq_true rfl) rfl ?_
  unfold f_11_chooseWant at h
  refine R_iload_n (dd dt_11_chooseWant 0 rfl) 1 rfl rfl ?_
  refine R_bipush (v := 10) (dd dt_11_chooseWant 1 rfl) bp_10 ?_
  refine R_bipush (v := 13) (dd dt_11_chooseWant 2 rfl) bp_13 ?_
  obtain ⟨x2, e1, h⟩ := bi_el h
  refine c_11_83 (As := [.int a1, .int 10, .int 13]) (st1 := [.int x2]) rfl (fun Q1 hq => ok_11_isIn e1 hq) rfl rfl (Nat.le_of_ble_eq_true rfl) (dd dt_11_chooseWant 3 rfl) rfl ?_
  refine R_ifeq (dd dt_11_chooseWant 4 rfl) (tgt := 36) rfl (fun hc => ?_) (fun hc => ?_)
  · rw [if_pos hc] at h
    refine R_iconst (v := (-1)) (dd dt_11_chooseWant 17 rfl) ic_m1 ?_
    obtain rfl := Option.some.inj h
    exact R_iret rfl (dd dt_11_chooseWant 18 rfl) hQ
  · rw [if_neg hc] at h
    refine R_aload_n (dd dt_11_chooseWant 5 rfl) 0 rfl rfl ?_
    refine g_11_10 rfl k0 (dd dt_11_chooseWant 6 rfl) ?_
    refine R_iload_n (dd dt_11_chooseWant 7 rfl) 1 rfl rfl ?_
    refine R_bipush (v := 10) (dd dt_11_chooseWant 8 rfl) bp_10 ?_
    refine R_isub (dd dt_11_chooseWant 9 rfl) ?_
    obtain ⟨x4, e3, h⟩ := bi_el h
    refine c_11_129 (As := [.int (a1 - 10)]) (st1 := [.int x4]) rfl (fun Q1 hq => ok_9_hasPit e3 (ty_11_0 k0) hq) (ty_11_0 k0) rfl rfl (Nat.le_of_ble_eq_true rfl) (dd dt_11_chooseWant 10 rfl) rfl ?_
    refine R_ifeq (dd dt_11_chooseWant 11 rfl) (tgt := 36) rfl (fun hc => ?_) (fun hc => ?_)
    · rw [if_pos hc] at h
      refine R_iconst (v := (-1)) (dd dt_11_chooseWant 17 rfl) ic_m1 ?_
      obtain rfl := Option.some.inj h
      exact R_iret rfl (dd dt_11_chooseWant 18 rfl) hQ
    · rw [if_neg hc] at h
      refine R_iload_n (dd dt_11_chooseWant 12 rfl) 2 rfl rfl ?_
      refine R_iconst (v := 0) (dd dt_11_chooseWant 13 rfl) ic_0 ?_
      refine R_sipush (v := 900) (dd dt_11_chooseWant 14 rfl) sp_900 ?_
      obtain ⟨x6, e5, h⟩ := bi_el h
      refine c_11_83 (As := [.int a2, .int 0, .int 900]) (st1 := [.int x6]) rfl (fun Q1 hq => ok_11_isIn e5 hq) rfl rfl (Nat.le_of_ble_eq_true rfl) (dd dt_11_chooseWant 15 rfl) rfl ?_
      refine R_ifne (dd dt_11_chooseWant 16 rfl) (tgt := 38) rfl (fun hc => ?_) (fun hc => ?_)
      · rw [if_neg hc] at h
        refine R_aload_n (dd dt_11_chooseWant 19 rfl) 0 rfl rfl ?_
        refine g_11_10 rfl k0 (dd dt_11_chooseWant 20 rfl) ?_
        refine g_11_106 rfl (ty_11_0 k0) (dd dt_11_chooseWant 21 rfl) ?_
        refine R_iload_n (dd dt_11_chooseWant 22 rfl) 1 rfl rfl ?_
        refine R_bipush (v := 10) (dd dt_11_chooseWant 23 rfl) bp_10 ?_
        refine R_isub (dd dt_11_chooseWant 24 rfl) ?_
        obtain ⟨r7, e8, h⟩ := bi_el h
        refine R_aald (t0 := 4) e8 (ty_9_8 (ty_11_0 k0)) (by decide) (by decide) rfl rfl (dd dt_11_chooseWant 25 rfl) ?_
        refine R_astore_n (lv' := [some (.ref a0), some (.int a1), some (.int a2), some (.ref r7), none]) (dd dt_11_chooseWant 26 rfl) 3 rfl (by decide) rfl rfl ?_
        refine R_aload_n (dd dt_11_chooseWant 27 rfl) 3 rfl rfl ?_
        refine g_11_213 rfl (tl_24 e8 (ty_9_8 (ty_11_0 k0))) (dd dt_11_chooseWant 28 rfl) ?_
        refine R_istore (lv' := [some (.ref a0), some (.int a1), some (.int a2), some (.ref r7), some (.int (μ r7 6))]) (dd dt_11_chooseWant 29 rfl) (by decide) rfl rfl ?_
        refine R_aload_n (dd dt_11_chooseWant 30 rfl) 3 rfl rfl ?_
        refine R_iload_n (dd dt_11_chooseWant 31 rfl) 2 rfl rfl ?_
        obtain ⟨μ9, e10, h⟩ := bi_el h
        refine p_11_213 rfl (tl_24 e8 (ty_9_8 (ty_11_0 k0))) (dd dt_11_chooseWant 32 rfl) e10 ?_
        refine R_iload (dd dt_11_chooseWant 33 rfl) rfl ?_
        obtain rfl := Option.some.inj h
        exact R_iret rfl (dd dt_11_chooseWant 34 rfl) hQ
      · rw [if_pos hc] at h
        refine R_iconst (v := (-1)) (dd dt_11_chooseWant 17 rfl) ic_m1 ?_
        obtain rfl := Option.some.inj h
        exact R_iret rfl (dd dt_11_chooseWant 18 rfl) hQ
/-! LongStrike.set(II)I -/
def tab_11_set : List (Nat × Instr × Nat) := [(0, .iload_n 1, 1), (1, .tableswitch 45 0 2 #[27, 33, 39], 27), (28, .aload_n 0, 1), (29, .iload_n 2, 1), (30, .invokevirtual 234, 3), (33, .ireturn, 1), (34, .aload_n 0, 1), (35, .iload_n 2, 1), (36, .invokevirtual 237, 3), (39, .ireturn, 1), (40, .aload_n 0, 1), (41, .iload_n 2, 1), (42, .invokevirtual 240, 3), (45, .ireturn, 1), (46, .aload_n 0, 1), (47, .iload_n 1, 1), (48, .iload_n 2, 1), (49, .invokevirtual 243, 3), (52, .ireturn, 1)]
set_option maxRecDepth 100000 in
theorem dt_11_set : ∀ q ∈ tab_11_set, decode m_11_set.2.1 q.1 = .ok q.2 := by decide +kernel
def f_11_set (a0 : Nat) (a1 : Int32) (a2 : Int32) (μ : mm) : Option (Int32 × mm) :=
  if a1 = 0 then
    (f_11_chooseCold a0 a2 μ).bind fun z2 =>
    some (z2.1, z2.2)
  else if a1 = 1 then
    (f_11_chooseBurn a0 a2 μ).bind fun z4 =>
    some (z4.1, z4.2)
  else if a1 = 2 then
    (f_11_chooseMiles a0 a2 μ).bind fun z6 =>
    some (z6.1, z6.2)
  else 
    (f_11_chooseWant a0 a1 a2 μ).bind fun z8 =>
    some (z8.1, z8.2)
set_option maxRecDepth 100000 in
set_option maxHeartbeats 4000000 in
theorem ok_11_set {l : Launch} {E : ce} {d : Nat}  {a0 : Nat} {a1 : Int32} {a2 : Int32} {μ : mm} {r : Int32 × mm} {Q : Option Value → mm → Prop} (h : f_11_set a0 a1 a2 μ = some r) (k0 : kd a0 = 11) (hQ : Q (some (.int r.1)) r.2) : Ct l E (d + 3) yX11_set m_11_set [.ref a0, .int a1, .int a2] μ Q := by
  refine Ct_of (lv := [some (.ref a0), some (.int a1), some (.int a2)]) (by decide) rfl (Nat.le_of_ble_eq_true rfl) rfl ?_
  unfold f_11_set at h
  refine R_iload_n (dd dt_11_set 0 rfl) 1 rfl rfl ?_
  by_cases hs0 : a1 = 0
  · refine R_tabIn (off := 27) (tgt := 28) (dd dt_11_set 1 rfl) (by rw [hs0]; decide) (by rw [hs0]; decide) (by rw [hs0]; rfl) rfl ?_
    rw [if_pos hs0] at h
    refine R_aload_n (dd dt_11_set 2 rfl) 0 rfl rfl ?_
    refine R_iload_n (dd dt_11_set 3 rfl) 2 rfl rfl ?_
    obtain ⟨z2, e1, h⟩ := bi_el h
    refine c_11_234 (As := [.int a2]) (st1 := [.int z2.1]) rfl (fun Q1 hq => ok_11_chooseCold e1 k0 hq) k0 rfl rfl (Nat.le_of_ble_eq_true rfl) (dd dt_11_set 4 rfl) rfl ?_
    obtain rfl := Option.some.inj h
    exact R_iret rfl (dd dt_11_set 5 rfl) hQ
  rw [if_neg hs0] at h
  by_cases hs1 : a1 = 1
  · refine R_tabIn (off := 33) (tgt := 34) (dd dt_11_set 1 rfl) (by rw [hs1]; decide) (by rw [hs1]; decide) (by rw [hs1]; rfl) rfl ?_
    rw [if_pos hs1] at h
    refine R_aload_n (dd dt_11_set 6 rfl) 0 rfl rfl ?_
    refine R_iload_n (dd dt_11_set 7 rfl) 2 rfl rfl ?_
    obtain ⟨z4, e3, h⟩ := bi_el h
    refine c_11_237 (As := [.int a2]) (st1 := [.int z4.1]) rfl (fun Q1 hq => ok_11_chooseBurn e3 k0 hq) k0 rfl rfl (Nat.le_of_ble_eq_true rfl) (dd dt_11_set 8 rfl) rfl ?_
    obtain rfl := Option.some.inj h
    exact R_iret rfl (dd dt_11_set 9 rfl) hQ
  rw [if_neg hs1] at h
  by_cases hs2 : a1 = 2
  · refine R_tabIn (off := 39) (tgt := 40) (dd dt_11_set 1 rfl) (by rw [hs2]; decide) (by rw [hs2]; decide) (by rw [hs2]; rfl) rfl ?_
    rw [if_pos hs2] at h
    refine R_aload_n (dd dt_11_set 10 rfl) 0 rfl rfl ?_
    refine R_iload_n (dd dt_11_set 11 rfl) 2 rfl rfl ?_
    obtain ⟨z6, e5, h⟩ := bi_el h
    refine c_11_240 (As := [.int a2]) (st1 := [.int z6.1]) rfl (fun Q1 hq => ok_11_chooseMiles e5 k0 hq) k0 rfl rfl (Nat.le_of_ble_eq_true rfl) (dd dt_11_set 12 rfl) rfl ?_
    obtain rfl := Option.some.inj h
    exact R_iret rfl (dd dt_11_set 13 rfl) hQ
  rw [if_neg hs2] at h
  refine R_tabOut (tgt := 46) (dd dt_11_set 1 rfl) (by have hn0 := lv_neT hs0 (a := 0) (by decide); have hn1 := lv_neT hs1 (a := 1) (by decide); have hn2 := lv_neT hs2 (a := 2) (by decide); omega) rfl ?_
  refine R_aload_n (dd dt_11_set 14 rfl) 0 rfl rfl ?_
  refine R_iload_n (dd dt_11_set 15 rfl) 1 rfl rfl ?_
  refine R_iload_n (dd dt_11_set 16 rfl) 2 rfl rfl ?_
  obtain ⟨z8, e7, h⟩ := bi_el h
  refine c_11_243 (As := [.int a1, .int a2]) (st1 := [.int z8.1]) rfl (fun Q1 hq => ok_11_chooseWant e7 k0 hq) k0 rfl rfl (Nat.le_of_ble_eq_true rfl) (dd dt_11_set 17 rfl) rfl ?_
  obtain rfl := Option.some.inj h
  exact R_iret rfl (dd dt_11_set 18 rfl) hQ
/-! LongStrike$Works.bring(I)V -/
def tab_10_bring : List (Nat × Instr × Nat) := [(0, .aload_n 0, 1), (1, .ldc 34, 2), (3, .aload_n 0, 1), (4, .getfield 9, 3), (7, .iload_n 1, 1), (8, .iadd, 1), (9, .invokestatic 35, 3), (12, .putfield 9, 3), (15, .return_, 1)]
set_option maxRecDepth 100000 in
theorem dt_10_bring : ∀ q ∈ tab_10_bring, decode m_10_bring.2.1 q.1 = .ok q.2 := by decide +kernel
def f_10_bring (a0 : Nat) (a1 : Int32) (μ : mm) : Option (mm) :=
  (pf μ a0 0 (mn 99999 ((μ a0 0) + a1))).bind fun μ1 =>
  some μ1
set_option maxRecDepth 100000 in
set_option maxHeartbeats 4000000 in
theorem ok_10_bring {l : Launch} {E : ce} {d : Nat}  {a0 : Nat} {a1 : Int32} {μ : mm} {r : mm} {Q : Option Value → mm → Prop} (h : f_10_bring a0 a1 μ = some r) (k0 : kd a0 = 10) (hQ : Q none r) : Ct l E d yX10_bring m_10_bring [.ref a0, .int a1] μ Q := by
  refine Ct_of (lv := [some (.ref a0), some (.int a1)]) (by decide) rfl (Nat.le_of_ble_eq_true rfl) rfl ?_
  unfold f_10_bring at h
  refine R_aload_n (dd dt_10_bring 0 rfl) 0 rfl rfl ?_
  refine R_ldc (dd dt_10_bring 1 rfl) ct_10_34 ?_
  refine R_aload_n (dd dt_10_bring 2 rfl) 0 rfl rfl ?_
  refine g_10_9 rfl k0 (dd dt_10_bring 3 rfl) ?_
  refine R_iload_n (dd dt_10_bring 4 rfl) 1 rfl rfl ?_
  refine R_iadd (dd dt_10_bring 5 rfl) ?_
  refine R_mmin ml_10_35 (Nat.le_of_ble_eq_true rfl) (dd dt_10_bring 6 rfl) ?_
  obtain ⟨μ1, e2, h⟩ := bi_el h
  refine p_10_9 rfl k0 (dd dt_10_bring 7 rfl) e2 ?_
  obtain rfl := Option.some.inj h
  exact R_vret rfl (dd dt_10_bring 8 rfl) hQ
/-! LongStrike.gift(ZI)I -/
def tab_11_gift : List (Nat × Instr × Nat) := [(0, .iload_n 2, 1), (1, .iconst 1, 1), (2, .sipush 9999, 3), (5, .invokestatic 83, 3), (8, .ifCond .ne 5, 3), (11, .iconst (-1), 1), (12, .ireturn, 1), (13, .iload_n 1, 1), (14, .ifCond .eq 33, 3), (17, .aload_n 0, 1), (18, .getfield 10, 3), (21, .ldc_w 268, 3), (24, .aload_n 0, 1), (25, .getfield 10, 3), (28, .getfield 269, 3), (31, .iload_n 2, 1), (32, .iadd, 1), (33, .invokestatic 272, 3), (36, .putfield 269, 3), (39, .aload_n 0, 1), (40, .getfield 10, 3), (43, .getfield 269, 3), (46, .ireturn, 1), (47, .aload_n 0, 1), (48, .getfield 10, 3), (51, .getfield 250, 3), (54, .iload_n 2, 1), (55, .invokevirtual 277, 3), (58, .aload_n 0, 1), (59, .getfield 10, 3), (62, .getfield 250, 3), (65, .getfield 281, 3), (68, .ireturn, 1)]
set_option maxRecDepth 100000 in
theorem dt_11_gift : ∀ q ∈ tab_11_gift, decode m_11_gift.2.1 q.1 = .ok q.2 := by decide +kernel
def f_11_gift (a0 : Nat) (a1 : Int32) (a2 : Int32) (μ : mm) : Option (Int32 × mm) :=
  (f_11_isIn a2 1 9999 μ).bind fun x2 =>
  if x2 = 0 then
    some ((-1), μ)
  else
    if a1 = 0 then
      (f_10_bring (rf (rf a0 0) 12) a2 μ).bind fun μ4 =>
      some ((μ4 (rf (rf a0 0) 12) 0), μ4)
    else
      (pf μ (rf a0 0) 5 (mn 99999 ((μ (rf a0 0) 5) + a2))).bind fun μ5 =>
      some ((μ5 (rf a0 0) 5), μ5)
set_option maxRecDepth 100000 in
set_option maxHeartbeats 4000000 in
theorem ok_11_gift {l : Launch} {E : ce} {d : Nat}  {a0 : Nat} {a1 : Int32} {a2 : Int32} {μ : mm} {r : Int32 × mm} {Q : Option Value → mm → Prop} (h : f_11_gift a0 a1 a2 μ = some r) (k0 : kd a0 = 11) (hQ : Q (some (.int r.1)) r.2) : Ct l E (d + 1) yX11_gift m_11_gift [.ref a0, .int a1, .int a2] μ Q := by
  refine Ct_of (lv := [some (.ref a0), some (.int a1), some (.int a2)]) (by decide) rfl (Nat.le_of_ble_eq_true rfl) rfl ?_
  unfold f_11_gift at h
  refine R_iload_n (dd dt_11_gift 0 rfl) 2 rfl rfl ?_
  refine R_iconst (v := 1) (dd dt_11_gift 1 rfl) ic_1 ?_
  refine R_sipush (v := 9999) (dd dt_11_gift 2 rfl) sp_9999 ?_
  obtain ⟨x2, e1, h⟩ := bi_el h
  refine c_11_83 (As := [.int a2, .int 1, .int 9999]) (st1 := [.int x2]) rfl (fun Q1 hq => ok_11_isIn e1 hq) rfl rfl (Nat.le_of_ble_eq_true rfl) (dd dt_11_gift 3 rfl) rfl ?_
  refine R_ifne (dd dt_11_gift 4 rfl) (tgt := 13) rfl (fun hc => ?_) (fun hc => ?_)
  · rw [if_neg hc] at h
    refine R_iload_n (dd dt_11_gift 7 rfl) 1 rfl rfl ?_
    refine R_ifeq (dd dt_11_gift 8 rfl) (tgt := 47) rfl (fun hc => ?_) (fun hc => ?_)
    · rw [if_pos hc] at h
      refine R_aload_n (dd dt_11_gift 23 rfl) 0 rfl rfl ?_
      refine g_11_10 rfl k0 (dd dt_11_gift 24 rfl) ?_
      refine g_11_250 rfl (ty_11_0 k0) (dd dt_11_gift 25 rfl) ?_
      refine R_iload_n (dd dt_11_gift 26 rfl) 2 rfl rfl ?_
      obtain ⟨μ4, e3, h⟩ := bi_el h
      refine c_11_277 (As := [.int a2]) (st1 := []) rfl (fun Q1 hq => ok_10_bring e3 (ty_9_12 (ty_11_0 k0)) hq) (ty_9_12 (ty_11_0 k0)) rfl rfl (Nat.le_of_ble_eq_true rfl) (dd dt_11_gift 27 rfl) rfl ?_
      refine R_aload_n (dd dt_11_gift 28 rfl) 0 rfl rfl ?_
      refine g_11_10 rfl k0 (dd dt_11_gift 29 rfl) ?_
      refine g_11_250 rfl (ty_11_0 k0) (dd dt_11_gift 30 rfl) ?_
      refine g_11_281 rfl (ty_9_12 (ty_11_0 k0)) (dd dt_11_gift 31 rfl) ?_
      obtain rfl := Option.some.inj h
      exact R_iret rfl (dd dt_11_gift 32 rfl) hQ
    · rw [if_neg hc] at h
      refine R_aload_n (dd dt_11_gift 9 rfl) 0 rfl rfl ?_
      refine g_11_10 rfl k0 (dd dt_11_gift 10 rfl) ?_
      refine R_ldcw (dd dt_11_gift 11 rfl) ct_11_268 ?_
      refine R_aload_n (dd dt_11_gift 12 rfl) 0 rfl rfl ?_
      refine g_11_10 rfl k0 (dd dt_11_gift 13 rfl) ?_
      refine g_11_269 rfl (ty_11_0 k0) (dd dt_11_gift 14 rfl) ?_
      refine R_iload_n (dd dt_11_gift 15 rfl) 2 rfl rfl ?_
      refine R_iadd (dd dt_11_gift 16 rfl) ?_
      refine R_mmin ml_11_272 (Nat.le_of_ble_eq_true rfl) (dd dt_11_gift 17 rfl) ?_
      obtain ⟨μ5, e6, h⟩ := bi_el h
      refine p_11_269 rfl (ty_11_0 k0) (dd dt_11_gift 18 rfl) e6 ?_
      refine R_aload_n (dd dt_11_gift 19 rfl) 0 rfl rfl ?_
      refine g_11_10 rfl k0 (dd dt_11_gift 20 rfl) ?_
      refine g_11_269 rfl (ty_11_0 k0) (dd dt_11_gift 21 rfl) ?_
      obtain rfl := Option.some.inj h
      exact R_iret rfl (dd dt_11_gift 22 rfl) hQ
  · rw [if_pos hc] at h
    refine R_iconst (v := (-1)) (dd dt_11_gift 5 rfl) ic_m1 ?_
    obtain rfl := Option.some.inj h
    exact R_iret rfl (dd dt_11_gift 6 rfl) hQ
/-! LongStrike$Works.expect(II)V -/
def tab_10_expect : List (Nat × Instr × Nat) := [(0, .aload_n 0, 1), (1, .getfield 21, 3), (4, .aload_n 0, 1), (5, .getfield 18, 3), (8, .iload_n 1, 1), (9, .iastore, 1), (10, .aload_n 0, 1), (11, .getfield 25, 3), (14, .aload_n 0, 1), (15, .getfield 18, 3), (18, .iload_n 2, 1), (19, .iastore, 1), (20, .aload_n 0, 1), (21, .dup, 1), (22, .getfield 18, 3), (25, .iconst 1, 1), (26, .iadd, 1), (27, .putfield 18, 3), (30, .return_, 1)]
set_option maxRecDepth 100000 in
theorem dt_10_expect : ∀ q ∈ tab_10_expect, decode m_10_expect.2.1 q.1 = .ok q.2 := by decide +kernel
def f_10_expect (a0 : Nat) (a1 : Int32) (a2 : Int32) (μ : mm) : Option (mm) :=
  (sto μ (rf a0 3) (μ a0 2) a1).bind fun μ1 =>
  (sto μ1 (rf a0 4) (μ1 a0 2) a2).bind fun μ3 =>
  (pf μ3 a0 2 ((μ3 a0 2) + 1)).bind fun μ5 =>
  some μ5
set_option maxRecDepth 100000 in
set_option maxHeartbeats 4000000 in
theorem ok_10_expect {l : Launch} {E : ce} {d : Nat}  {a0 : Nat} {a1 : Int32} {a2 : Int32} {μ : mm} {r : mm} {Q : Option Value → mm → Prop} (h : f_10_expect a0 a1 a2 μ = some r) (k0 : kd a0 = 10) (hQ : Q none r) : Ct l E d yX10_expect m_10_expect [.ref a0, .int a1, .int a2] μ Q := by
  refine Ct_of (lv := [some (.ref a0), some (.int a1), some (.int a2)]) (by decide) rfl (Nat.le_of_ble_eq_true rfl) rfl ?_
  unfold f_10_expect at h
  refine R_aload_n (dd dt_10_expect 0 rfl) 0 rfl rfl ?_
  refine g_10_21 rfl k0 (dd dt_10_expect 1 rfl) ?_
  refine R_aload_n (dd dt_10_expect 2 rfl) 0 rfl rfl ?_
  refine g_10_18 rfl k0 (dd dt_10_expect 3 rfl) ?_
  refine R_iload_n (dd dt_10_expect 4 rfl) 1 rfl rfl ?_
  obtain ⟨μ1, e2, h⟩ := bi_el h
  refine R_isto e2 (ty_10_3 k0) (dd dt_10_expect 5 rfl) ?_
  refine R_aload_n (dd dt_10_expect 6 rfl) 0 rfl rfl ?_
  refine g_10_25 rfl k0 (dd dt_10_expect 7 rfl) ?_
  refine R_aload_n (dd dt_10_expect 8 rfl) 0 rfl rfl ?_
  refine g_10_18 rfl k0 (dd dt_10_expect 9 rfl) ?_
  refine R_iload_n (dd dt_10_expect 10 rfl) 2 rfl rfl ?_
  obtain ⟨μ3, e4, h⟩ := bi_el h
  refine R_isto e4 (ty_10_4 k0) (dd dt_10_expect 11 rfl) ?_
  refine R_aload_n (dd dt_10_expect 12 rfl) 0 rfl rfl ?_
  refine R_dup (dd dt_10_expect 13 rfl) rfl ?_
  refine g_10_18 rfl k0 (dd dt_10_expect 14 rfl) ?_
  refine R_iconst (v := 1) (dd dt_10_expect 15 rfl) ic_1 ?_
  refine R_iadd (dd dt_10_expect 16 rfl) ?_
  obtain ⟨μ5, e6, h⟩ := bi_el h
  refine p_10_18 rfl k0 (dd dt_10_expect 17 rfl) e6 ?_
  obtain rfl := Option.some.inj h
  exact R_vret rfl (dd dt_10_expect 18 rfl) hQ
/-! LongStrike.ship(II)I -/
def tab_11_ship : List (Nat × Instr × Nat) := [(0, .iload_n 2, 1), (1, .iconst 1, 1), (2, .sipush 9999, 3), (5, .invokestatic 83, 3), (8, .ifCond .eq 21, 3), (11, .iload_n 1, 1), (12, .aload_n 0, 1), (13, .getfield 10, 3), (16, .getfield 87, 3), (19, .if_icmp .le 10, 3), (22, .iload_n 1, 1), (23, .sipush 999, 3), (26, .if_icmp .le 5, 3), (29, .iconst (-1), 1), (30, .ireturn, 1), (31, .aload_n 0, 1), (32, .getfield 10, 3), (35, .getfield 250, 3), (38, .getfield 284, 3), (41, .bipush 6, 2), (43, .if_icmp .lt 6, 3), (46, .bipush (-2), 2), (48, .ireturn, 1), (49, .aload_n 0, 1), (50, .getfield 10, 3), (53, .getfield 250, 3), (56, .iload_n 1, 1), (57, .iload_n 2, 1), (58, .invokevirtual 287, 3), (61, .aload_n 0, 1), (62, .getfield 10, 3), (65, .getfield 250, 3), (68, .getfield 284, 3), (71, .ireturn, 1)]
set_option maxRecDepth 100000 in
theorem dt_11_ship : ∀ q ∈ tab_11_ship, decode m_11_ship.2.1 q.1 = .ok q.2 := by decide +kernel
def f_11_ship (a0 : Nat) (a1 : Int32) (a2 : Int32) (μ : mm) : Option (Int32 × mm) :=
  (f_11_isIn a2 1 9999 μ).bind fun x2 =>
  if x2 = 0 then
    some ((-1), μ)
  else
    if a1 ≤ (μ (rf a0 0) 0) then
      some ((-1), μ)
    else
      if a1 ≤ 999 then
        if (μ (rf (rf a0 0) 12) 2) < 6 then
          (f_10_expect (rf (rf a0 0) 12) a1 a2 μ).bind fun μ4 =>
          some ((μ4 (rf (rf a0 0) 12) 2), μ4)
        else
          some ((-2), μ)
      else
        some ((-1), μ)
set_option maxRecDepth 100000 in
set_option maxHeartbeats 4000000 in
theorem ok_11_ship {l : Launch} {E : ce} {d : Nat}  {a0 : Nat} {a1 : Int32} {a2 : Int32} {μ : mm} {r : Int32 × mm} {Q : Option Value → mm → Prop} (h : f_11_ship a0 a1 a2 μ = some r) (k0 : kd a0 = 11) (hQ : Q (some (.int r.1)) r.2) : Ct l E (d + 1) yX11_ship m_11_ship [.ref a0, .int a1, .int a2] μ Q := by
  refine Ct_of (lv := [some (.ref a0), some (.int a1), some (.int a2)]) (by decide) rfl (Nat.le_of_ble_eq_true rfl) rfl ?_
  unfold f_11_ship at h
  refine R_iload_n (dd dt_11_ship 0 rfl) 2 rfl rfl ?_
  refine R_iconst (v := 1) (dd dt_11_ship 1 rfl) ic_1 ?_
  refine R_sipush (v := 9999) (dd dt_11_ship 2 rfl) sp_9999 ?_
  obtain ⟨x2, e1, h⟩ := bi_el h
  refine c_11_83 (As := [.int a2, .int 1, .int 9999]) (st1 := [.int x2]) rfl (fun Q1 hq => ok_11_isIn e1 hq) rfl rfl (Nat.le_of_ble_eq_true rfl) (dd dt_11_ship 3 rfl) rfl ?_
  refine R_ifeq (dd dt_11_ship 4 rfl) (tgt := 29) rfl (fun hc => ?_) (fun hc => ?_)
  · rw [if_pos hc] at h
    refine R_iconst (v := (-1)) (dd dt_11_ship 13 rfl) ic_m1 ?_
    obtain rfl := Option.some.inj h
    exact R_iret rfl (dd dt_11_ship 14 rfl) hQ
  · rw [if_neg hc] at h
    refine R_iload_n (dd dt_11_ship 5 rfl) 1 rfl rfl ?_
    refine R_aload_n (dd dt_11_ship 6 rfl) 0 rfl rfl ?_
    refine g_11_10 rfl k0 (dd dt_11_ship 7 rfl) ?_
    refine g_11_87 rfl (ty_11_0 k0) (dd dt_11_ship 8 rfl) ?_
    refine R_cmple (dd dt_11_ship 9 rfl) (tgt := 29) rfl (fun hc => ?_) (fun hc => ?_)
    · rw [if_pos hc] at h
      refine R_iconst (v := (-1)) (dd dt_11_ship 13 rfl) ic_m1 ?_
      obtain rfl := Option.some.inj h
      exact R_iret rfl (dd dt_11_ship 14 rfl) hQ
    · rw [if_neg hc] at h
      refine R_iload_n (dd dt_11_ship 10 rfl) 1 rfl rfl ?_
      refine R_sipush (v := 999) (dd dt_11_ship 11 rfl) sp_999 ?_
      refine R_cmple (dd dt_11_ship 12 rfl) (tgt := 31) rfl (fun hc => ?_) (fun hc => ?_)
      · rw [if_pos hc] at h
        refine R_aload_n (dd dt_11_ship 15 rfl) 0 rfl rfl ?_
        refine g_11_10 rfl k0 (dd dt_11_ship 16 rfl) ?_
        refine g_11_250 rfl (ty_11_0 k0) (dd dt_11_ship 17 rfl) ?_
        refine g_11_284 rfl (ty_9_12 (ty_11_0 k0)) (dd dt_11_ship 18 rfl) ?_
        refine R_bipush (v := 6) (dd dt_11_ship 19 rfl) bp_6 ?_
        refine R_cmplt (dd dt_11_ship 20 rfl) (tgt := 49) rfl (fun hc => ?_) (fun hc => ?_)
        · rw [if_pos hc] at h
          refine R_aload_n (dd dt_11_ship 23 rfl) 0 rfl rfl ?_
          refine g_11_10 rfl k0 (dd dt_11_ship 24 rfl) ?_
          refine g_11_250 rfl (ty_11_0 k0) (dd dt_11_ship 25 rfl) ?_
          refine R_iload_n (dd dt_11_ship 26 rfl) 1 rfl rfl ?_
          refine R_iload_n (dd dt_11_ship 27 rfl) 2 rfl rfl ?_
          obtain ⟨μ4, e3, h⟩ := bi_el h
          refine c_11_287 (As := [.int a1, .int a2]) (st1 := []) rfl (fun Q1 hq => ok_10_expect e3 (ty_9_12 (ty_11_0 k0)) hq) (ty_9_12 (ty_11_0 k0)) rfl rfl (Nat.le_of_ble_eq_true rfl) (dd dt_11_ship 28 rfl) rfl ?_
          refine R_aload_n (dd dt_11_ship 29 rfl) 0 rfl rfl ?_
          refine g_11_10 rfl k0 (dd dt_11_ship 30 rfl) ?_
          refine g_11_250 rfl (ty_11_0 k0) (dd dt_11_ship 31 rfl) ?_
          refine g_11_284 rfl (ty_9_12 (ty_11_0 k0)) (dd dt_11_ship 32 rfl) ?_
          obtain rfl := Option.some.inj h
          exact R_iret rfl (dd dt_11_ship 33 rfl) hQ
        · rw [if_neg hc] at h
          refine R_bipush (v := (-2)) (dd dt_11_ship 21 rfl) bp_m2 ?_
          obtain rfl := Option.some.inj h
          exact R_iret rfl (dd dt_11_ship 22 rfl) hQ
      · rw [if_neg hc] at h
        refine R_iconst (v := (-1)) (dd dt_11_ship 13 rfl) ic_m1 ?_
        obtain rfl := Option.some.inj h
        exact R_iret rfl (dd dt_11_ship 14 rfl) hQ
/-! LongStrike$TextReader.take(B)V -/
def tab_8_take : List (Nat × Instr × Nat) := [(0, .aload_n 0, 1), (1, .getfield 13, 3), (4, .sipush 300, 3), (7, .if_icmp .ge 23, 3), (10, .aload_n 0, 1), (11, .getfield 9, 3), (14, .aload_n 0, 1), (15, .getfield 13, 3), (18, .iload_n 1, 1), (19, .bastore, 1), (20, .aload_n 0, 1), (21, .dup, 1), (22, .getfield 13, 3), (25, .iconst 1, 1), (26, .iadd, 1), (27, .putfield 13, 3), (30, .return_, 1)]
set_option maxRecDepth 100000 in
theorem dt_8_take : ∀ q ∈ tab_8_take, decode m_8_take.2.1 q.1 = .ok q.2 := by decide +kernel
def f_8_take (a0 : Nat) (a1 : Int32) (μ : mm) : Option (mm) :=
  if 300 ≤ (μ a0 1) then
    some μ
  else
    (sto μ (rf a0 0) (μ a0 1) a1.toInt8.toInt32).bind fun μ1 =>
    (pf μ1 a0 1 ((μ1 a0 1) + 1)).bind fun μ3 =>
    some μ3
set_option maxRecDepth 100000 in
set_option maxHeartbeats 4000000 in
theorem ok_8_take {l : Launch} {E : ce} {d : Nat}  {a0 : Nat} {a1 : Int32} {μ : mm} {r : mm} {Q : Option Value → mm → Prop} (h : f_8_take a0 a1 μ = some r) (k0 : kd a0 = 8) (hQ : Q none r) : Ct l E d yX8_take m_8_take [.ref a0, .int a1] μ Q := by
  refine Ct_of (lv := [some (.ref a0), some (.int a1)]) (by decide) rfl (Nat.le_of_ble_eq_true rfl) rfl ?_
  unfold f_8_take at h
  refine R_aload_n (dd dt_8_take 0 rfl) 0 rfl rfl ?_
  refine g_8_13 rfl k0 (dd dt_8_take 1 rfl) ?_
  refine R_sipush (v := 300) (dd dt_8_take 2 rfl) sp_300 ?_
  refine R_cmpge (dd dt_8_take 3 rfl) (tgt := 30) rfl (fun hc => ?_) (fun hc => ?_)
  · rw [if_pos hc] at h
    obtain rfl := Option.some.inj h
    exact R_vret rfl (dd dt_8_take 16 rfl) hQ
  · rw [if_neg hc] at h
    refine R_aload_n (dd dt_8_take 4 rfl) 0 rfl rfl ?_
    refine g_8_9 rfl k0 (dd dt_8_take 5 rfl) ?_
    refine R_aload_n (dd dt_8_take 6 rfl) 0 rfl rfl ?_
    refine g_8_13 rfl k0 (dd dt_8_take 7 rfl) ?_
    refine R_iload_n (dd dt_8_take 8 rfl) 1 rfl rfl ?_
    obtain ⟨μ1, e2, h⟩ := bi_el h
    refine R_bsto e2 (ty_8_0 k0) (dd dt_8_take 9 rfl) ?_
    refine R_aload_n (dd dt_8_take 10 rfl) 0 rfl rfl ?_
    refine R_dup (dd dt_8_take 11 rfl) rfl ?_
    refine g_8_13 rfl k0 (dd dt_8_take 12 rfl) ?_
    refine R_iconst (v := 1) (dd dt_8_take 13 rfl) ic_1 ?_
    refine R_iadd (dd dt_8_take 14 rfl) ?_
    obtain ⟨μ3, e4, h⟩ := bi_el h
    refine p_8_13 rfl k0 (dd dt_8_take 15 rfl) e4 ?_
    obtain rfl := Option.some.inj h
    exact R_vret rfl (dd dt_8_take 16 rfl) hQ
/-! LongStrike.feed(JI)I -/
def tab_11_feed : List (Nat × Instr × Nat) := [(0, .iload_n 3, 1), (1, .iconst 1, 1), (2, .bipush 8, 2), (4, .invokestatic 83, 3), (7, .ifCond .ne 5, 3), (10, .iconst (-1), 1), (11, .ireturn, 1), (12, .aload_n 0, 1), (13, .getfield 29, 3), (16, .getfield 290, 3), (19, .iload_n 3, 1), (20, .iadd, 1), (21, .sipush 300, 3), (24, .if_icmp .le 6, 3), (27, .bipush (-2), 2), (29, .ireturn, 1), (30, .iconst 0, 1), (31, .istore 4, 2), (33, .iload 4, 2), (35, .iload_n 3, 1), (36, .if_icmp .ge 25, 3), (39, .aload_n 0, 1), (40, .getfield 29, 3), (43, .lload_n 1, 1), (44, .bipush 8, 2), (46, .iload 4, 2), (48, .imul, 1), (49, .lushr, 1), (50, .l2i, 1), (51, .i2b, 1), (52, .invokevirtual 293, 3), (55, .iinc 4 1, 3), (58, .goto (-25), 3), (61, .aload_n 0, 1), (62, .getfield 29, 3), (65, .getfield 290, 3), (68, .ireturn, 1)]
set_option maxRecDepth 100000 in
theorem dt_11_feed : ∀ q ∈ tab_11_feed, decode m_11_feed.2.1 q.1 = .ok q.2 := by decide +kernel
def f_11_feed_l33 (a0 : Nat) (a1 : Int64) (a3 : Int32) : Nat → Int32 → mm → Option (mm)
  | 0, _, _ => none
  | n + 1, v4, μ => if a3 ≤ v4 then
      some μ
    else
      (f_8_take (rf a0 4) ((a1.toUInt64 >>> ((8 * v4).toInt64.toUInt64 &&& Int64.toUInt64 63)).toInt64.toInt32.toInt8.toInt32) μ).bind fun μ2 =>
      f_11_feed_l33 a0 a1 a3 n (v4 + 1) μ2
set_option maxRecDepth 100000 in
theorem ok_11_feed_l33 {l : Launch} {E : ce} {d : Nat} {Q : Option Value → mm → Prop} (a0 : Nat) (a1 : Int64) (a3 : Int32) (k0 : kd a0 = 11) : ∀ (n : Nat) (v4 : Int32) (μ : mm) (z : mm), f_11_feed_l33 a0 a1 a3 n v4 μ = some z → Rj l E (d + 1) m_11_feed 61 [some (.ref a0), none, none, none, none] [] z Q → Rj l E (d + 1) m_11_feed 33 [some (.ref a0), some (.long a1), none, some (.int a3), some (.int v4)] [] μ Q
  | 0, _, _, z, h, _ => by
    rw [f_11_feed_l33] at h
    cases h
  | n + 1, v4, μ, z, h, KX => by
    rw [f_11_feed_l33] at h
    refine R_iload (dd dt_11_feed 18 rfl) rfl ?_
    refine R_iload_n (dd dt_11_feed 19 rfl) 3 rfl rfl ?_
    refine R_cmpge (dd dt_11_feed 20 rfl) (tgt := 61) rfl (fun hc => ?_) (fun hc => ?_)
    · rw [if_pos hc] at h
      obtain rfl := Option.some.inj h
      exact R_mask [true, false, false, false, false] rfl KX
    · rw [if_neg hc] at h
      refine R_aload_n (dd dt_11_feed 21 rfl) 0 rfl rfl ?_
      refine g_11_29 rfl k0 (dd dt_11_feed 22 rfl) ?_
      refine R_lload_n (dd dt_11_feed 23 rfl) 1 rfl rfl ?_
      refine R_bipush (v := 8) (dd dt_11_feed 24 rfl) bp_8 ?_
      refine R_iload (dd dt_11_feed 25 rfl) rfl ?_
      refine R_imul (dd dt_11_feed 26 rfl) ?_
      refine R_lushr (dd dt_11_feed 27 rfl) ?_
      refine R_l2i (dd dt_11_feed 28 rfl) ?_
      refine R_i2b (dd dt_11_feed 29 rfl) ?_
      obtain ⟨μ2, e1, h⟩ := bi_el h
      refine c_11_293 (As := [.int ((a1.toUInt64 >>> ((8 * v4).toInt64.toUInt64 &&& Int64.toUInt64 63)).toInt64.toInt32.toInt8.toInt32)]) (st1 := []) rfl (fun Q1 hq => ok_8_take e1 (ty_11_4 k0) hq) (ty_11_4 k0) rfl rfl (Nat.le_of_ble_eq_true rfl) (dd dt_11_feed 30 rfl) rfl ?_
      refine R_iinc (v := 1) (lv' := [some (.ref a0), some (.long a1), none, some (.int a3), some (.int (v4 + 1))]) (dd dt_11_feed 31 rfl) (by decide) rfl rfl ic_1 rfl ?_
      refine R_goto (dd dt_11_feed 32 rfl) (tgt := 33) rfl ?_
      exact R_mask [true, true, false, true, true] rfl (ok_11_feed_l33 a0 a1 a3 k0 n (v4 + 1) μ2 _ h KX)
def f_11_feed (a0 : Nat) (a1 : Int64) (a3 : Int32) (μ : mm) : Option (Int32 × mm) :=
  (f_11_isIn a3 1 8 μ).bind fun x2 =>
  if x2 = 0 then
    some ((-1), μ)
  else
    if ((μ (rf a0 4) 1) + a3) ≤ 300 then
      (f_11_feed_l33 a0 a1 a3 FU 0 μ).bind fun z3 =>
      some ((z3 (rf a0 4) 1), z3)
    else
      some ((-2), μ)
set_option maxRecDepth 100000 in
set_option maxHeartbeats 4000000 in
theorem ok_11_feed {l : Launch} {E : ce} {d : Nat}  {a0 : Nat} {a1 : Int64} {a3 : Int32} {μ : mm} {r : Int32 × mm} {Q : Option Value → mm → Prop} (h : f_11_feed a0 a1 a3 μ = some r) (k0 : kd a0 = 11) (hQ : Q (some (.int r.1)) r.2) : Ct l E (d + 1) yX11_feed m_11_feed [.ref a0, .long a1, .int a3] μ Q := by
  refine Ct_of (lv := [some (.ref a0), some (.long a1), none, some (.int a3), none]) (by decide) rfl (Nat.le_of_ble_eq_true rfl) rfl ?_
  unfold f_11_feed at h
  refine R_iload_n (dd dt_11_feed 0 rfl) 3 rfl rfl ?_
  refine R_iconst (v := 1) (dd dt_11_feed 1 rfl) ic_1 ?_
  refine R_bipush (v := 8) (dd dt_11_feed 2 rfl) bp_8 ?_
  obtain ⟨x2, e1, h⟩ := bi_el h
  refine c_11_83 (As := [.int a3, .int 1, .int 8]) (st1 := [.int x2]) rfl (fun Q1 hq => ok_11_isIn e1 hq) rfl rfl (Nat.le_of_ble_eq_true rfl) (dd dt_11_feed 3 rfl) rfl ?_
  refine R_ifne (dd dt_11_feed 4 rfl) (tgt := 12) rfl (fun hc => ?_) (fun hc => ?_)
  · rw [if_neg hc] at h
    refine R_aload_n (dd dt_11_feed 7 rfl) 0 rfl rfl ?_
    refine g_11_29 rfl k0 (dd dt_11_feed 8 rfl) ?_
    refine g_11_290 rfl (ty_11_4 k0) (dd dt_11_feed 9 rfl) ?_
    refine R_iload_n (dd dt_11_feed 10 rfl) 3 rfl rfl ?_
    refine R_iadd (dd dt_11_feed 11 rfl) ?_
    refine R_sipush (v := 300) (dd dt_11_feed 12 rfl) sp_300 ?_
    refine R_cmple (dd dt_11_feed 13 rfl) (tgt := 30) rfl (fun hc => ?_) (fun hc => ?_)
    · rw [if_pos hc] at h
      refine R_iconst (v := 0) (dd dt_11_feed 16 rfl) ic_0 ?_
      refine R_istore (lv' := [some (.ref a0), some (.long a1), none, some (.int a3), some (.int 0)]) (dd dt_11_feed 17 rfl) (by decide) rfl rfl ?_
      obtain ⟨z3, e4, h⟩ := bi_el h
      refine R_mask [true, true, false, true, true] rfl (ok_11_feed_l33 a0 a1 a3 k0 FU 0 μ _ e4 ?_)
      refine R_aload_n (dd dt_11_feed 33 rfl) 0 rfl rfl ?_
      refine g_11_29 rfl k0 (dd dt_11_feed 34 rfl) ?_
      refine g_11_290 rfl (ty_11_4 k0) (dd dt_11_feed 35 rfl) ?_
      obtain rfl := Option.some.inj h
      exact R_iret rfl (dd dt_11_feed 36 rfl) hQ
    · rw [if_neg hc] at h
      refine R_bipush (v := (-2)) (dd dt_11_feed 14 rfl) bp_m2 ?_
      obtain rfl := Option.some.inj h
      exact R_iret rfl (dd dt_11_feed 15 rfl) hQ
  · rw [if_pos hc] at h
    refine R_iconst (v := (-1)) (dd dt_11_feed 5 rfl) ic_m1 ?_
    obtain rfl := Option.some.inj h
    exact R_iret rfl (dd dt_11_feed 6 rfl) hQ
/-! LongStrike$Rules.takeFrom(LLongStrike$Rules;)V -/
def tab_5_takeFrom : List (Nat × Instr × Nat) := [(0, .aload_n 0, 1), (1, .aload_n 1, 1), (2, .getfield 7, 3), (5, .putfield 7, 3), (8, .aload_n 0, 1), (9, .aload_n 1, 1), (10, .getfield 26, 3), (13, .putfield 26, 3), (16, .aload_n 1, 1), (17, .getfield 13, 3), (20, .iconst 0, 1), (21, .aload_n 0, 1), (22, .getfield 13, 3), (25, .iconst 0, 1), (26, .aload_n 0, 1), (27, .getfield 7, 3), (30, .invokestatic 34, 3), (33, .aload_n 1, 1), (34, .getfield 17, 3), (37, .iconst 0, 1), (38, .aload_n 0, 1), (39, .getfield 17, 3), (42, .iconst 0, 1), (43, .aload_n 0, 1), (44, .getfield 7, 3), (47, .invokestatic 34, 3), (50, .aload_n 1, 1), (51, .getfield 20, 3), (54, .iconst 0, 1), (55, .aload_n 0, 1), (56, .getfield 20, 3), (59, .iconst 0, 1), (60, .aload_n 0, 1), (61, .getfield 7, 3), (64, .invokestatic 34, 3), (67, .aload_n 1, 1), (68, .getfield 23, 3), (71, .iconst 0, 1), (72, .aload_n 0, 1), (73, .getfield 23, 3), (76, .iconst 0, 1), (77, .aload_n 0, 1), (78, .getfield 7, 3), (81, .invokestatic 34, 3), (84, .aload_n 1, 1), (85, .getfield 31, 3), (88, .iconst 0, 1), (89, .aload_n 0, 1), (90, .getfield 31, 3), (93, .iconst 0, 1), (94, .aload_n 0, 1), (95, .getfield 26, 3), (98, .invokestatic 34, 3), (101, .return_, 1)]
set_option maxRecDepth 100000 in
theorem dt_5_takeFrom : ∀ q ∈ tab_5_takeFrom, decode m_5_takeFrom.2.1 q.1 = .ok q.2 := by decide +kernel
def f_5_takeFrom (a0 : Nat) (a1 : Nat) (μ : mm) : Option (mm) :=
  (pf μ a0 0 (μ a1 0)).bind fun μ1 =>
  (pf μ1 a0 5 (μ1 a1 5)).bind fun μ3 =>
  (cpo μ3 (rf a1 1) 0 (rf a0 1) 0 (μ3 a0 0)).bind fun μ5 =>
  (cpo μ5 (rf a1 2) 0 (rf a0 2) 0 (μ5 a0 0)).bind fun μ7 =>
  (cpo μ7 (rf a1 3) 0 (rf a0 3) 0 (μ7 a0 0)).bind fun μ9 =>
  (cpo μ9 (rf a1 4) 0 (rf a0 4) 0 (μ9 a0 0)).bind fun μ11 =>
  (cpo μ11 (rf a1 6) 0 (rf a0 6) 0 (μ11 a0 5)).bind fun μ13 =>
  some μ13
set_option maxRecDepth 100000 in
set_option maxHeartbeats 4000000 in
theorem ok_5_takeFrom {l : Launch} {E : ce} {d : Nat}  {a0 : Nat} {a1 : Nat} {μ : mm} {r : mm} {Q : Option Value → mm → Prop} (h : f_5_takeFrom a0 a1 μ = some r) (k0 : kd a0 = 5) (k1 : kd a1 = 5) (hQ : Q none r) : Ct l E d yX5_takeFrom m_5_takeFrom [.ref a0, .ref a1] μ Q := by
  refine Ct_of (lv := [some (.ref a0), some (.ref a1)]) (by decide) rfl (Nat.le_of_ble_eq_true rfl) rfl ?_
  unfold f_5_takeFrom at h
  refine R_aload_n (dd dt_5_takeFrom 0 rfl) 0 rfl rfl ?_
  refine R_aload_n (dd dt_5_takeFrom 1 rfl) 1 rfl rfl ?_
  refine g_5_7 rfl k1 (dd dt_5_takeFrom 2 rfl) ?_
  obtain ⟨μ1, e2, h⟩ := bi_el h
  refine p_5_7 rfl k0 (dd dt_5_takeFrom 3 rfl) e2 ?_
  refine R_aload_n (dd dt_5_takeFrom 4 rfl) 0 rfl rfl ?_
  refine R_aload_n (dd dt_5_takeFrom 5 rfl) 1 rfl rfl ?_
  refine g_5_26 rfl k1 (dd dt_5_takeFrom 6 rfl) ?_
  obtain ⟨μ3, e4, h⟩ := bi_el h
  refine p_5_26 rfl k0 (dd dt_5_takeFrom 7 rfl) e4 ?_
  refine R_aload_n (dd dt_5_takeFrom 8 rfl) 1 rfl rfl ?_
  refine g_5_13 rfl k1 (dd dt_5_takeFrom 9 rfl) ?_
  refine R_iconst (v := 0) (dd dt_5_takeFrom 10 rfl) ic_0 ?_
  refine R_aload_n (dd dt_5_takeFrom 11 rfl) 0 rfl rfl ?_
  refine g_5_13 rfl k0 (dd dt_5_takeFrom 12 rfl) ?_
  refine R_iconst (v := 0) (dd dt_5_takeFrom 13 rfl) ic_0 ?_
  refine R_aload_n (dd dt_5_takeFrom 14 rfl) 0 rfl rfl ?_
  refine g_5_7 rfl k0 (dd dt_5_takeFrom 15 rfl) ?_
  obtain ⟨μ5, e6, h⟩ := bi_el h
  refine R_copy e6 (ty_5_1 k1) (ty_5_1 k0) (Nat.le_of_ble_eq_true rfl) ml_5_34 ac_n ac_s ac_i (dd dt_5_takeFrom 16 rfl) ?_
  refine R_aload_n (dd dt_5_takeFrom 17 rfl) 1 rfl rfl ?_
  refine g_5_17 rfl k1 (dd dt_5_takeFrom 18 rfl) ?_
  refine R_iconst (v := 0) (dd dt_5_takeFrom 19 rfl) ic_0 ?_
  refine R_aload_n (dd dt_5_takeFrom 20 rfl) 0 rfl rfl ?_
  refine g_5_17 rfl k0 (dd dt_5_takeFrom 21 rfl) ?_
  refine R_iconst (v := 0) (dd dt_5_takeFrom 22 rfl) ic_0 ?_
  refine R_aload_n (dd dt_5_takeFrom 23 rfl) 0 rfl rfl ?_
  refine g_5_7 rfl k0 (dd dt_5_takeFrom 24 rfl) ?_
  obtain ⟨μ7, e8, h⟩ := bi_el h
  refine R_copy e8 (ty_5_2 k1) (ty_5_2 k0) (Nat.le_of_ble_eq_true rfl) ml_5_34 ac_n ac_s ac_i (dd dt_5_takeFrom 25 rfl) ?_
  refine R_aload_n (dd dt_5_takeFrom 26 rfl) 1 rfl rfl ?_
  refine g_5_20 rfl k1 (dd dt_5_takeFrom 27 rfl) ?_
  refine R_iconst (v := 0) (dd dt_5_takeFrom 28 rfl) ic_0 ?_
  refine R_aload_n (dd dt_5_takeFrom 29 rfl) 0 rfl rfl ?_
  refine g_5_20 rfl k0 (dd dt_5_takeFrom 30 rfl) ?_
  refine R_iconst (v := 0) (dd dt_5_takeFrom 31 rfl) ic_0 ?_
  refine R_aload_n (dd dt_5_takeFrom 32 rfl) 0 rfl rfl ?_
  refine g_5_7 rfl k0 (dd dt_5_takeFrom 33 rfl) ?_
  obtain ⟨μ9, e10, h⟩ := bi_el h
  refine R_copy e10 (ty_5_3 k1) (ty_5_3 k0) (Nat.le_of_ble_eq_true rfl) ml_5_34 ac_n ac_s ac_i (dd dt_5_takeFrom 34 rfl) ?_
  refine R_aload_n (dd dt_5_takeFrom 35 rfl) 1 rfl rfl ?_
  refine g_5_23 rfl k1 (dd dt_5_takeFrom 36 rfl) ?_
  refine R_iconst (v := 0) (dd dt_5_takeFrom 37 rfl) ic_0 ?_
  refine R_aload_n (dd dt_5_takeFrom 38 rfl) 0 rfl rfl ?_
  refine g_5_23 rfl k0 (dd dt_5_takeFrom 39 rfl) ?_
  refine R_iconst (v := 0) (dd dt_5_takeFrom 40 rfl) ic_0 ?_
  refine R_aload_n (dd dt_5_takeFrom 41 rfl) 0 rfl rfl ?_
  refine g_5_7 rfl k0 (dd dt_5_takeFrom 42 rfl) ?_
  obtain ⟨μ11, e12, h⟩ := bi_el h
  refine R_copy e12 (ty_5_4 k1) (ty_5_4 k0) (Nat.le_of_ble_eq_true rfl) ml_5_34 ac_n ac_s ac_i (dd dt_5_takeFrom 43 rfl) ?_
  refine R_aload_n (dd dt_5_takeFrom 44 rfl) 1 rfl rfl ?_
  refine g_5_31 rfl k1 (dd dt_5_takeFrom 45 rfl) ?_
  refine R_iconst (v := 0) (dd dt_5_takeFrom 46 rfl) ic_0 ?_
  refine R_aload_n (dd dt_5_takeFrom 47 rfl) 0 rfl rfl ?_
  refine g_5_31 rfl k0 (dd dt_5_takeFrom 48 rfl) ?_
  refine R_iconst (v := 0) (dd dt_5_takeFrom 49 rfl) ic_0 ?_
  refine R_aload_n (dd dt_5_takeFrom 50 rfl) 0 rfl rfl ?_
  refine g_5_26 rfl k0 (dd dt_5_takeFrom 51 rfl) ?_
  obtain ⟨μ13, e14, h⟩ := bi_el h
  refine R_copy e14 (ty_5_6 k1) (ty_5_6 k0) (Nat.le_of_ble_eq_true rfl) ml_5_34 ac_n ac_s ac_i (dd dt_5_takeFrom 52 rfl) ?_
  obtain rfl := Option.some.inj h
  exact R_vret rfl (dd dt_5_takeFrom 53 rfl) hQ
/-! LongStrike$Rules.clear()V -/
def tab_5_clear : List (Nat × Instr × Nat) := [(0, .aload_n 0, 1), (1, .iconst 0, 1), (2, .putfield 7, 3), (5, .aload_n 0, 1), (6, .iconst 0, 1), (7, .putfield 26, 3), (10, .return_, 1)]
set_option maxRecDepth 100000 in
theorem dt_5_clear : ∀ q ∈ tab_5_clear, decode m_5_clear.2.1 q.1 = .ok q.2 := by decide +kernel
def f_5_clear (a0 : Nat) (μ : mm) : Option (mm) :=
  (pf μ a0 0 0).bind fun μ1 =>
  (pf μ1 a0 5 0).bind fun μ3 =>
  some μ3
set_option maxRecDepth 100000 in
set_option maxHeartbeats 4000000 in
theorem ok_5_clear {l : Launch} {E : ce} {d : Nat}  {a0 : Nat} {μ : mm} {r : mm} {Q : Option Value → mm → Prop} (h : f_5_clear a0 μ = some r) (k0 : kd a0 = 5) (hQ : Q none r) : Ct l E d yX5_clear m_5_clear [.ref a0] μ Q := by
  refine Ct_of (lv := [some (.ref a0)]) (by decide) rfl (Nat.le_of_ble_eq_true rfl) rfl ?_
  unfold f_5_clear at h
  refine R_aload_n (dd dt_5_clear 0 rfl) 0 rfl rfl ?_
  refine R_iconst (v := 0) (dd dt_5_clear 1 rfl) ic_0 ?_
  obtain ⟨μ1, e2, h⟩ := bi_el h
  refine p_5_7 rfl k0 (dd dt_5_clear 2 rfl) e2 ?_
  refine R_aload_n (dd dt_5_clear 3 rfl) 0 rfl rfl ?_
  refine R_iconst (v := 0) (dd dt_5_clear 4 rfl) ic_0 ?_
  obtain ⟨μ3, e4, h⟩ := bi_el h
  refine p_5_26 rfl k0 (dd dt_5_clear 5 rfl) e4 ?_
  obtain rfl := Option.some.inj h
  exact R_vret rfl (dd dt_5_clear 6 rfl) hQ
/-! LongStrike$Rules.addLine(III)V -/
def tab_5_addLine : List (Nat × Instr × Nat) := [(0, .aload_n 0, 1), (1, .getfield 7, 3), (4, .bipush 10, 2), (6, .if_icmp .ge 56, 3), (9, .aload_n 0, 1), (10, .getfield 13, 3), (13, .aload_n 0, 1), (14, .getfield 7, 3), (17, .iload_n 1, 1), (18, .iastore, 1), (19, .aload_n 0, 1), (20, .getfield 17, 3), (23, .aload_n 0, 1), (24, .getfield 7, 3), (27, .iload_n 2, 1), (28, .iastore, 1), (29, .aload_n 0, 1), (30, .getfield 20, 3), (33, .aload_n 0, 1), (34, .getfield 7, 3), (37, .iload_n 3, 1), (38, .iastore, 1), (39, .aload_n 0, 1), (40, .getfield 23, 3), (43, .aload_n 0, 1), (44, .getfield 7, 3), (47, .aload_n 0, 1), (48, .getfield 26, 3), (51, .iastore, 1), (52, .aload_n 0, 1), (53, .dup, 1), (54, .getfield 7, 3), (57, .iconst 1, 1), (58, .iadd, 1), (59, .putfield 7, 3), (62, .return_, 1)]
set_option maxRecDepth 100000 in
theorem dt_5_addLine : ∀ q ∈ tab_5_addLine, decode m_5_addLine.2.1 q.1 = .ok q.2 := by decide +kernel
def f_5_addLine (a0 : Nat) (a1 : Int32) (a2 : Int32) (a3 : Int32) (μ : mm) : Option (mm) :=
  if 10 ≤ (μ a0 0) then
    some μ
  else
    (sto μ (rf a0 1) (μ a0 0) a1).bind fun μ1 =>
    (sto μ1 (rf a0 2) (μ1 a0 0) a2).bind fun μ3 =>
    (sto μ3 (rf a0 3) (μ3 a0 0) a3).bind fun μ5 =>
    (sto μ5 (rf a0 4) (μ5 a0 0) (μ5 a0 5)).bind fun μ7 =>
    (pf μ7 a0 0 ((μ7 a0 0) + 1)).bind fun μ9 =>
    some μ9
set_option maxRecDepth 100000 in
set_option maxHeartbeats 4000000 in
theorem ok_5_addLine {l : Launch} {E : ce} {d : Nat}  {a0 : Nat} {a1 : Int32} {a2 : Int32} {a3 : Int32} {μ : mm} {r : mm} {Q : Option Value → mm → Prop} (h : f_5_addLine a0 a1 a2 a3 μ = some r) (k0 : kd a0 = 5) (hQ : Q none r) : Ct l E d yX5_addLine m_5_addLine [.ref a0, .int a1, .int a2, .int a3] μ Q := by
  refine Ct_of (lv := [some (.ref a0), some (.int a1), some (.int a2), some (.int a3)]) (by decide) rfl (Nat.le_of_ble_eq_true rfl) rfl ?_
  unfold f_5_addLine at h
  refine R_aload_n (dd dt_5_addLine 0 rfl) 0 rfl rfl ?_
  refine g_5_7 rfl k0 (dd dt_5_addLine 1 rfl) ?_
  refine R_bipush (v := 10) (dd dt_5_addLine 2 rfl) bp_10 ?_
  refine R_cmpge (dd dt_5_addLine 3 rfl) (tgt := 62) rfl (fun hc => ?_) (fun hc => ?_)
  · rw [if_pos hc] at h
    obtain rfl := Option.some.inj h
    exact R_vret rfl (dd dt_5_addLine 35 rfl) hQ
  · rw [if_neg hc] at h
    refine R_aload_n (dd dt_5_addLine 4 rfl) 0 rfl rfl ?_
    refine g_5_13 rfl k0 (dd dt_5_addLine 5 rfl) ?_
    refine R_aload_n (dd dt_5_addLine 6 rfl) 0 rfl rfl ?_
    refine g_5_7 rfl k0 (dd dt_5_addLine 7 rfl) ?_
    refine R_iload_n (dd dt_5_addLine 8 rfl) 1 rfl rfl ?_
    obtain ⟨μ1, e2, h⟩ := bi_el h
    refine R_isto e2 (ty_5_1 k0) (dd dt_5_addLine 9 rfl) ?_
    refine R_aload_n (dd dt_5_addLine 10 rfl) 0 rfl rfl ?_
    refine g_5_17 rfl k0 (dd dt_5_addLine 11 rfl) ?_
    refine R_aload_n (dd dt_5_addLine 12 rfl) 0 rfl rfl ?_
    refine g_5_7 rfl k0 (dd dt_5_addLine 13 rfl) ?_
    refine R_iload_n (dd dt_5_addLine 14 rfl) 2 rfl rfl ?_
    obtain ⟨μ3, e4, h⟩ := bi_el h
    refine R_isto e4 (ty_5_2 k0) (dd dt_5_addLine 15 rfl) ?_
    refine R_aload_n (dd dt_5_addLine 16 rfl) 0 rfl rfl ?_
    refine g_5_20 rfl k0 (dd dt_5_addLine 17 rfl) ?_
    refine R_aload_n (dd dt_5_addLine 18 rfl) 0 rfl rfl ?_
    refine g_5_7 rfl k0 (dd dt_5_addLine 19 rfl) ?_
    refine R_iload_n (dd dt_5_addLine 20 rfl) 3 rfl rfl ?_
    obtain ⟨μ5, e6, h⟩ := bi_el h
    refine R_isto e6 (ty_5_3 k0) (dd dt_5_addLine 21 rfl) ?_
    refine R_aload_n (dd dt_5_addLine 22 rfl) 0 rfl rfl ?_
    refine g_5_23 rfl k0 (dd dt_5_addLine 23 rfl) ?_
    refine R_aload_n (dd dt_5_addLine 24 rfl) 0 rfl rfl ?_
    refine g_5_7 rfl k0 (dd dt_5_addLine 25 rfl) ?_
    refine R_aload_n (dd dt_5_addLine 26 rfl) 0 rfl rfl ?_
    refine g_5_26 rfl k0 (dd dt_5_addLine 27 rfl) ?_
    obtain ⟨μ7, e8, h⟩ := bi_el h
    refine R_isto e8 (ty_5_4 k0) (dd dt_5_addLine 28 rfl) ?_
    refine R_aload_n (dd dt_5_addLine 29 rfl) 0 rfl rfl ?_
    refine R_dup (dd dt_5_addLine 30 rfl) rfl ?_
    refine g_5_7 rfl k0 (dd dt_5_addLine 31 rfl) ?_
    refine R_iconst (v := 1) (dd dt_5_addLine 32 rfl) ic_1 ?_
    refine R_iadd (dd dt_5_addLine 33 rfl) ?_
    obtain ⟨μ9, e10, h⟩ := bi_el h
    refine p_5_7 rfl k0 (dd dt_5_addLine 34 rfl) e10 ?_
    obtain rfl := Option.some.inj h
    exact R_vret rfl (dd dt_5_addLine 35 rfl) hQ
/-! LongStrike$Rules.codeEnd()I -/
def tab_5_codeEnd : List (Nat × Instr × Nat) := [(0, .aload_n 0, 1), (1, .getfield 26, 3), (4, .ireturn, 1)]
set_option maxRecDepth 100000 in
theorem dt_5_codeEnd : ∀ q ∈ tab_5_codeEnd, decode m_5_codeEnd.2.1 q.1 = .ok q.2 := by decide +kernel
def f_5_codeEnd (a0 : Nat) (μ : mm) : Option (Int32) :=
  some (μ a0 5)
set_option maxRecDepth 100000 in
set_option maxHeartbeats 4000000 in
theorem ok_5_codeEnd {l : Launch} {E : ce} {d : Nat}  {a0 : Nat} {μ : mm} {r : Int32} {Q : Option Value → mm → Prop} (h : f_5_codeEnd a0 μ = some r) (k0 : kd a0 = 5) (hQ : Q (some (.int r)) μ) : Ct l E d yX5_codeEnd m_5_codeEnd [.ref a0] μ Q := by
  refine Ct_of (lv := [some (.ref a0)]) (by decide) rfl (Nat.le_of_ble_eq_true rfl) rfl ?_
  unfold f_5_codeEnd at h
  refine R_aload_n (dd dt_5_codeEnd 0 rfl) 0 rfl rfl ?_
  refine g_5_26 rfl k0 (dd dt_5_codeEnd 1 rfl) ?_
  obtain rfl := Option.some.inj h
  exact R_iret rfl (dd dt_5_codeEnd 2 rfl) hQ
/-! LongStrike$TextReader.isNumberUpTo(I)Z -/
def tab_8_isNumberUpTo : List (Nat × Instr × Nat) := [(0, .aload_n 0, 1), (1, .getfield 37, 3), (4, .bipush (-2), 2), (6, .if_icmp .ne 20, 3), (9, .aload_n 0, 1), (10, .getfield 31, 3), (13, .aload_n 0, 1), (14, .getfield 34, 3), (17, .iaload, 1), (18, .iload_n 1, 1), (19, .if_icmp .gt 7, 3), (22, .iconst 1, 1), (23, .goto 4, 3), (26, .iconst 0, 1), (27, .ireturn, 1)]
set_option maxRecDepth 100000 in
theorem dt_8_isNumberUpTo : ∀ q ∈ tab_8_isNumberUpTo, decode m_8_isNumberUpTo.2.1 q.1 = .ok q.2 := by decide +kernel
def f_8_isNumberUpTo (a0 : Nat) (a1 : Int32) (μ : mm) : Option (Int32) :=
  if (μ a0 7) = (-2) then
    (ld μ (rf a0 5) (μ a0 6)).bind fun x1 =>
    if a1 < x1 then
      some 0
    else
      some 1
  else
    some 0
set_option maxRecDepth 100000 in
set_option maxHeartbeats 4000000 in
theorem ok_8_isNumberUpTo {l : Launch} {E : ce} {d : Nat}  {a0 : Nat} {a1 : Int32} {μ : mm} {r : Int32} {Q : Option Value → mm → Prop} (h : f_8_isNumberUpTo a0 a1 μ = some r) (k0 : kd a0 = 8) (hQ : Q (some (.int r)) μ) : Ct l E d yX8_isNumberUpTo m_8_isNumberUpTo [.ref a0, .int a1] μ Q := by
  refine Ct_of (lv := [some (.ref a0), some (.int a1)]) (by decide) rfl (Nat.le_of_ble_eq_true rfl) rfl ?_
  unfold f_8_isNumberUpTo at h
  refine R_aload_n (dd dt_8_isNumberUpTo 0 rfl) 0 rfl rfl ?_
  refine g_8_37 rfl k0 (dd dt_8_isNumberUpTo 1 rfl) ?_
  refine R_bipush (v := (-2)) (dd dt_8_isNumberUpTo 2 rfl) bp_m2 ?_
  refine R_cmpne (dd dt_8_isNumberUpTo 3 rfl) (tgt := 26) rfl (fun hc => ?_) (fun hc => ?_)
  · rw [if_neg hc] at h
    refine R_iconst (v := 0) (dd dt_8_isNumberUpTo 13 rfl) ic_0 ?_
    obtain rfl := Option.some.inj h
    exact R_zret rfl (by decide) (dd dt_8_isNumberUpTo 14 rfl) hQ
  · rw [if_pos hc] at h
    refine R_aload_n (dd dt_8_isNumberUpTo 4 rfl) 0 rfl rfl ?_
    refine g_8_31 rfl k0 (dd dt_8_isNumberUpTo 5 rfl) ?_
    refine R_aload_n (dd dt_8_isNumberUpTo 6 rfl) 0 rfl rfl ?_
    refine g_8_34 rfl k0 (dd dt_8_isNumberUpTo 7 rfl) ?_
    obtain ⟨x1, e2, h⟩ := bi_el h
    refine R_ild e2 (ty_8_5 k0) (dd dt_8_isNumberUpTo 8 rfl) ?_
    refine R_iload_n (dd dt_8_isNumberUpTo 9 rfl) 1 rfl rfl ?_
    refine R_cmpgt (dd dt_8_isNumberUpTo 10 rfl) (tgt := 26) rfl (fun hc => ?_) (fun hc => ?_)
    · rw [if_pos hc] at h
      refine R_iconst (v := 0) (dd dt_8_isNumberUpTo 13 rfl) ic_0 ?_
      obtain rfl := Option.some.inj h
      exact R_zret rfl (by decide) (dd dt_8_isNumberUpTo 14 rfl) hQ
    · rw [if_neg hc] at h
      refine R_iconst (v := 1) (dd dt_8_isNumberUpTo 11 rfl) ic_1 ?_
      refine R_goto (dd dt_8_isNumberUpTo 12 rfl) (tgt := 27) rfl ?_
      obtain rfl := Option.some.inj h
      exact R_zret rfl (by decide) (dd dt_8_isNumberUpTo 14 rfl) hQ
/-! LongStrike$TextReader.mayHaveCond(I)Z -/
def tab_8_mayHaveCond : List (Nat × Instr × Nat) := [(0, .iload_n 0, 1), (1, .ifCond .eq 19, 3), (4, .iload_n 0, 1), (5, .iconst 1, 1), (6, .if_icmp .eq 14, 3), (9, .iload_n 0, 1), (10, .iconst 5, 1), (11, .if_icmp .eq 9, 3), (14, .iload_n 0, 1), (15, .bipush 6, 2), (17, .if_icmp .ne 7, 3), (20, .iconst 1, 1), (21, .goto 4, 3), (24, .iconst 0, 1), (25, .ireturn, 1)]
set_option maxRecDepth 100000 in
theorem dt_8_mayHaveCond : ∀ q ∈ tab_8_mayHaveCond, decode m_8_mayHaveCond.2.1 q.1 = .ok q.2 := by decide +kernel
def f_8_mayHaveCond (a0 : Int32) (μ : mm) : Option (Int32) :=
  if a0 = 0 then
    some 1
  else
    if a0 = 1 then
      some 1
    else
      if a0 = 5 then
        some 1
      else
        if a0 = 6 then
          some 1
        else
          some 0
set_option maxRecDepth 100000 in
set_option maxHeartbeats 4000000 in
theorem ok_8_mayHaveCond {l : Launch} {E : ce} {d : Nat}  {a0 : Int32} {μ : mm} {r : Int32} {Q : Option Value → mm → Prop} (h : f_8_mayHaveCond a0 μ = some r)  (hQ : Q (some (.int r)) μ) : Ct l E d yX8_mayHaveCond m_8_mayHaveCond [.int a0] μ Q := by
  refine Ct_of (lv := [some (.int a0)]) (by decide) rfl (Nat.le_of_ble_eq_true rfl) rfl ?_
  unfold f_8_mayHaveCond at h
  refine R_iload_n (dd dt_8_mayHaveCond 0 rfl) 0 rfl rfl ?_
  refine R_ifeq (dd dt_8_mayHaveCond 1 rfl) (tgt := 20) rfl (fun hc => ?_) (fun hc => ?_)
  · rw [if_pos hc] at h
    refine R_iconst (v := 1) (dd dt_8_mayHaveCond 11 rfl) ic_1 ?_
    refine R_goto (dd dt_8_mayHaveCond 12 rfl) (tgt := 25) rfl ?_
    obtain rfl := Option.some.inj h
    exact R_zret rfl (by decide) (dd dt_8_mayHaveCond 14 rfl) hQ
  · rw [if_neg hc] at h
    refine R_iload_n (dd dt_8_mayHaveCond 2 rfl) 0 rfl rfl ?_
    refine R_iconst (v := 1) (dd dt_8_mayHaveCond 3 rfl) ic_1 ?_
    refine R_cmpeq (dd dt_8_mayHaveCond 4 rfl) (tgt := 20) rfl (fun hc => ?_) (fun hc => ?_)
    · rw [if_pos hc] at h
      refine R_iconst (v := 1) (dd dt_8_mayHaveCond 11 rfl) ic_1 ?_
      refine R_goto (dd dt_8_mayHaveCond 12 rfl) (tgt := 25) rfl ?_
      obtain rfl := Option.some.inj h
      exact R_zret rfl (by decide) (dd dt_8_mayHaveCond 14 rfl) hQ
    · rw [if_neg hc] at h
      refine R_iload_n (dd dt_8_mayHaveCond 5 rfl) 0 rfl rfl ?_
      refine R_iconst (v := 5) (dd dt_8_mayHaveCond 6 rfl) ic_5 ?_
      refine R_cmpeq (dd dt_8_mayHaveCond 7 rfl) (tgt := 20) rfl (fun hc => ?_) (fun hc => ?_)
      · rw [if_pos hc] at h
        refine R_iconst (v := 1) (dd dt_8_mayHaveCond 11 rfl) ic_1 ?_
        refine R_goto (dd dt_8_mayHaveCond 12 rfl) (tgt := 25) rfl ?_
        obtain rfl := Option.some.inj h
        exact R_zret rfl (by decide) (dd dt_8_mayHaveCond 14 rfl) hQ
      · rw [if_neg hc] at h
        refine R_iload_n (dd dt_8_mayHaveCond 8 rfl) 0 rfl rfl ?_
        refine R_bipush (v := 6) (dd dt_8_mayHaveCond 9 rfl) bp_6 ?_
        refine R_cmpne (dd dt_8_mayHaveCond 10 rfl) (tgt := 24) rfl (fun hc => ?_) (fun hc => ?_)
        · rw [if_neg hc] at h
          refine R_iconst (v := 0) (dd dt_8_mayHaveCond 13 rfl) ic_0 ?_
          obtain rfl := Option.some.inj h
          exact R_zret rfl (by decide) (dd dt_8_mayHaveCond 14 rfl) hQ
        · rw [if_pos hc] at h
          refine R_iconst (v := 1) (dd dt_8_mayHaveCond 11 rfl) ic_1 ?_
          refine R_goto (dd dt_8_mayHaveCond 12 rfl) (tgt := 25) rfl ?_
          obtain rfl := Option.some.inj h
          exact R_zret rfl (by decide) (dd dt_8_mayHaveCond 14 rfl) hQ
/-! LongStrike$Rules.addCode(I)V -/
def tab_5_addCode : List (Nat × Instr × Nat) := [(0, .aload_n 0, 1), (1, .getfield 26, 3), (4, .aload_n 0, 1), (5, .getfield 31, 3), (8, .arraylength, 1), (9, .if_icmp .ge 23, 3), (12, .aload_n 0, 1), (13, .getfield 31, 3), (16, .aload_n 0, 1), (17, .getfield 26, 3), (20, .iload_n 1, 1), (21, .iastore, 1), (22, .aload_n 0, 1), (23, .dup, 1), (24, .getfield 26, 3), (27, .iconst 1, 1), (28, .iadd, 1), (29, .putfield 26, 3), (32, .return_, 1)]
set_option maxRecDepth 100000 in
theorem dt_5_addCode : ∀ q ∈ tab_5_addCode, decode m_5_addCode.2.1 q.1 = .ok q.2 := by decide +kernel
def f_5_addCode (a0 : Nat) (a1 : Int32) (μ : mm) : Option (mm) :=
  if (Int32.ofNat (len (rf a0 6))) ≤ (μ a0 5) then
    some μ
  else
    (sto μ (rf a0 6) (μ a0 5) a1).bind fun μ1 =>
    (pf μ1 a0 5 ((μ1 a0 5) + 1)).bind fun μ3 =>
    some μ3
set_option maxRecDepth 100000 in
set_option maxHeartbeats 4000000 in
theorem ok_5_addCode {l : Launch} {E : ce} {d : Nat}  {a0 : Nat} {a1 : Int32} {μ : mm} {r : mm} {Q : Option Value → mm → Prop} (h : f_5_addCode a0 a1 μ = some r) (k0 : kd a0 = 5) (hQ : Q none r) : Ct l E d yX5_addCode m_5_addCode [.ref a0, .int a1] μ Q := by
  refine Ct_of (lv := [some (.ref a0), some (.int a1)]) (by decide) rfl (Nat.le_of_ble_eq_true rfl) rfl ?_
  unfold f_5_addCode at h
  refine R_aload_n (dd dt_5_addCode 0 rfl) 0 rfl rfl ?_
  refine g_5_26 rfl k0 (dd dt_5_addCode 1 rfl) ?_
  refine R_aload_n (dd dt_5_addCode 2 rfl) 0 rfl rfl ?_
  refine g_5_31 rfl k0 (dd dt_5_addCode 3 rfl) ?_
  refine R_alen rfl (ty_5_6 k0) (dd dt_5_addCode 4 rfl) ?_
  refine R_cmpge (dd dt_5_addCode 5 rfl) (tgt := 32) rfl (fun hc => ?_) (fun hc => ?_)
  · rw [if_pos hc] at h
    obtain rfl := Option.some.inj h
    exact R_vret rfl (dd dt_5_addCode 18 rfl) hQ
  · rw [if_neg hc] at h
    refine R_aload_n (dd dt_5_addCode 6 rfl) 0 rfl rfl ?_
    refine g_5_31 rfl k0 (dd dt_5_addCode 7 rfl) ?_
    refine R_aload_n (dd dt_5_addCode 8 rfl) 0 rfl rfl ?_
    refine g_5_26 rfl k0 (dd dt_5_addCode 9 rfl) ?_
    refine R_iload_n (dd dt_5_addCode 10 rfl) 1 rfl rfl ?_
    obtain ⟨μ1, e2, h⟩ := bi_el h
    refine R_isto e2 (ty_5_6 k0) (dd dt_5_addCode 11 rfl) ?_
    refine R_aload_n (dd dt_5_addCode 12 rfl) 0 rfl rfl ?_
    refine R_dup (dd dt_5_addCode 13 rfl) rfl ?_
    refine g_5_26 rfl k0 (dd dt_5_addCode 14 rfl) ?_
    refine R_iconst (v := 1) (dd dt_5_addCode 15 rfl) ic_1 ?_
    refine R_iadd (dd dt_5_addCode 16 rfl) ?_
    obtain ⟨μ3, e4, h⟩ := bi_el h
    refine p_5_26 rfl k0 (dd dt_5_addCode 17 rfl) e4 ?_
    obtain rfl := Option.some.inj h
    exact R_vret rfl (dd dt_5_addCode 18 rfl) hQ
/-! LongStrike$TextReader.step()V -/
def tab_8_step : List (Nat × Instr × Nat) := [(0, .aload_n 0, 1), (1, .getfield 37, 3), (4, .iconst (-1), 1), (5, .if_icmp .eq 26, 3), (8, .aload_n 0, 1), (9, .dup, 1), (10, .getfield 34, 3), (13, .iconst 1, 1), (14, .iadd, 1), (15, .putfield 34, 3), (18, .aload_n 0, 1), (19, .aload_n 0, 1), (20, .getfield 24, 3), (23, .aload_n 0, 1), (24, .getfield 34, 3), (27, .iaload, 1), (28, .putfield 37, 3), (31, .return_, 1)]
set_option maxRecDepth 100000 in
theorem dt_8_step : ∀ q ∈ tab_8_step, decode m_8_step.2.1 q.1 = .ok q.2 := by decide +kernel
def f_8_step (a0 : Nat) (μ : mm) : Option (mm) :=
  if (μ a0 7) = (-1) then
    some μ
  else
    (pf μ a0 6 ((μ a0 6) + 1)).bind fun μ1 =>
    (ld μ1 (rf a0 3) (μ1 a0 6)).bind fun x3 =>
    (pf μ1 a0 7 x3).bind fun μ5 =>
    some μ5
set_option maxRecDepth 100000 in
set_option maxHeartbeats 4000000 in
theorem ok_8_step {l : Launch} {E : ce} {d : Nat}  {a0 : Nat} {μ : mm} {r : mm} {Q : Option Value → mm → Prop} (h : f_8_step a0 μ = some r) (k0 : kd a0 = 8) (hQ : Q none r) : Ct l E d yX8_step m_8_step [.ref a0] μ Q := by
  refine Ct_of (lv := [some (.ref a0)]) (by decide) rfl (Nat.le_of_ble_eq_true rfl) rfl ?_
  unfold f_8_step at h
  refine R_aload_n (dd dt_8_step 0 rfl) 0 rfl rfl ?_
  refine g_8_37 rfl k0 (dd dt_8_step 1 rfl) ?_
  refine R_iconst (v := (-1)) (dd dt_8_step 2 rfl) ic_m1 ?_
  refine R_cmpeq (dd dt_8_step 3 rfl) (tgt := 31) rfl (fun hc => ?_) (fun hc => ?_)
  · rw [if_pos hc] at h
    obtain rfl := Option.some.inj h
    exact R_vret rfl (dd dt_8_step 17 rfl) hQ
  · rw [if_neg hc] at h
    refine R_aload_n (dd dt_8_step 4 rfl) 0 rfl rfl ?_
    refine R_dup (dd dt_8_step 5 rfl) rfl ?_
    refine g_8_34 rfl k0 (dd dt_8_step 6 rfl) ?_
    refine R_iconst (v := 1) (dd dt_8_step 7 rfl) ic_1 ?_
    refine R_iadd (dd dt_8_step 8 rfl) ?_
    obtain ⟨μ1, e2, h⟩ := bi_el h
    refine p_8_34 rfl k0 (dd dt_8_step 9 rfl) e2 ?_
    refine R_aload_n (dd dt_8_step 10 rfl) 0 rfl rfl ?_
    refine R_aload_n (dd dt_8_step 11 rfl) 0 rfl rfl ?_
    refine g_8_24 rfl k0 (dd dt_8_step 12 rfl) ?_
    refine R_aload_n (dd dt_8_step 13 rfl) 0 rfl rfl ?_
    refine g_8_34 rfl k0 (dd dt_8_step 14 rfl) ?_
    obtain ⟨x3, e4, h⟩ := bi_el h
    refine R_ild e4 (ty_8_3 k0) (dd dt_8_step 15 rfl) ?_
    obtain ⟨μ5, e6, h⟩ := bi_el h
    refine p_8_37 rfl k0 (dd dt_8_step 16 rfl) e6 ?_
    obtain rfl := Option.some.inj h
    exact R_vret rfl (dd dt_8_step 17 rfl) hQ
/-! LongStrike$Rules.codeOfTest(III)I -/
def tab_5_codeOfTest : List (Nat × Instr × Nat) := [(0, .iload_n 0, 1), (1, .iconst 3, 1), (2, .imul, 1), (3, .iload_n 1, 1), (4, .iadd, 1), (5, .sipush 1000, 3), (8, .imul, 1), (9, .iload_n 2, 1), (10, .iadd, 1), (11, .ireturn, 1)]
set_option maxRecDepth 100000 in
theorem dt_5_codeOfTest : ∀ q ∈ tab_5_codeOfTest, decode m_5_codeOfTest.2.1 q.1 = .ok q.2 := by decide +kernel
def f_5_codeOfTest (a0 : Int32) (a1 : Int32) (a2 : Int32) (μ : mm) : Option (Int32) :=
  some ((((a0 * 3) + a1) * 1000) + a2)
set_option maxRecDepth 100000 in
set_option maxHeartbeats 4000000 in
theorem ok_5_codeOfTest {l : Launch} {E : ce} {d : Nat}  {a0 : Int32} {a1 : Int32} {a2 : Int32} {μ : mm} {r : Int32} {Q : Option Value → mm → Prop} (h : f_5_codeOfTest a0 a1 a2 μ = some r)  (hQ : Q (some (.int r)) μ) : Ct l E d yX5_codeOfTest m_5_codeOfTest [.int a0, .int a1, .int a2] μ Q := by
  refine Ct_of (lv := [some (.int a0), some (.int a1), some (.int a2)]) (by decide) rfl (Nat.le_of_ble_eq_true rfl) rfl ?_
  unfold f_5_codeOfTest at h
  refine R_iload_n (dd dt_5_codeOfTest 0 rfl) 0 rfl rfl ?_
  refine R_iconst (v := 3) (dd dt_5_codeOfTest 1 rfl) ic_3 ?_
  refine R_imul (dd dt_5_codeOfTest 2 rfl) ?_
  refine R_iload_n (dd dt_5_codeOfTest 3 rfl) 1 rfl rfl ?_
  refine R_iadd (dd dt_5_codeOfTest 4 rfl) ?_
  refine R_sipush (v := 1000) (dd dt_5_codeOfTest 5 rfl) sp_1000 ?_
  refine R_imul (dd dt_5_codeOfTest 6 rfl) ?_
  refine R_iload_n (dd dt_5_codeOfTest 7 rfl) 2 rfl rfl ?_
  refine R_iadd (dd dt_5_codeOfTest 8 rfl) ?_
  obtain rfl := Option.some.inj h
  exact R_iret rfl (dd dt_5_codeOfTest 9 rfl) hQ
/-! LongStrike$TextReader.readTest()Z -/
def tab_8_readTest : List (Nat × Instr × Nat) := [(0, .aload_n 0, 1), (1, .getfield 37, 3), (4, .bipush 11, 2), (6, .isub, 1), (7, .istore_n 1, 1), (8, .aload_n 0, 1), (9, .getfield 37, 3), (12, .bipush 11, 2), (14, .bipush 17, 2), (16, .invokestatic 54, 3), (19, .ifCond .ne 5, 3), (22, .iconst 0, 1), (23, .ireturn, 1), (24, .aload_n 0, 1), (25, .invokevirtual 71, 3), (28, .aload_n 0, 1), (29, .getfield 37, 3), (32, .bipush 60, 2), (34, .isub, 1), (35, .istore_n 2, 1), (36, .aload_n 0, 1), (37, .getfield 37, 3), (40, .bipush 60, 2), (42, .bipush 62, 2), (44, .invokestatic 54, 3), (47, .ifCond .ne 5, 3), (50, .iconst 0, 1), (51, .ireturn, 1), (52, .aload_n 0, 1), (53, .invokevirtual 71, 3), (56, .aload_n 0, 1), (57, .sipush 999, 3), (60, .invokevirtual 74, 3), (63, .ifCond .ne 5, 3), (66, .iconst 0, 1), (67, .ireturn, 1), (68, .aload_n 0, 1), (69, .getfield 20, 3), (72, .iload_n 1, 1), (73, .iload_n 2, 1), (74, .aload_n 0, 1), (75, .getfield 31, 3), (78, .aload_n 0, 1), (79, .getfield 34, 3), (82, .iaload, 1), (83, .invokestatic 107, 3), (86, .invokevirtual 94, 3), (89, .aload_n 0, 1), (90, .invokevirtual 71, 3), (93, .iconst 1, 1), (94, .ireturn, 1)]
set_option maxRecDepth 100000 in
theorem dt_8_readTest : ∀ q ∈ tab_8_readTest, decode m_8_readTest.2.1 q.1 = .ok q.2 := by decide +kernel
def f_8_readTest (a0 : Nat) (μ : mm) : Option (Int32 × mm) :=
  (f_11_isIn (μ a0 7) 11 17 μ).bind fun x2 =>
  if x2 = 0 then
    some (0, μ)
  else
    (f_8_step a0 μ).bind fun μ4 =>
    (f_11_isIn (μ4 a0 7) 60 62 μ4).bind fun x6 =>
    if x6 = 0 then
      some (0, μ4)
    else
      (f_8_step a0 μ4).bind fun μ8 =>
      (f_8_isNumberUpTo a0 999 μ8).bind fun x10 =>
      if x10 = 0 then
        some (0, μ8)
      else
        (ld μ8 (rf a0 5) (μ8 a0 6)).bind fun x11 =>
        (f_5_codeOfTest ((μ a0 7) - 11) ((μ4 a0 7) - 60) x11 μ8).bind fun x14 =>
        (f_5_addCode (rf a0 2) x14 μ8).bind fun μ16 =>
        (f_8_step a0 μ16).bind fun μ18 =>
        some (1, μ18)
set_option maxRecDepth 100000 in
set_option maxHeartbeats 4000000 in
theorem ok_8_readTest {l : Launch} {E : ce} {d : Nat}  {a0 : Nat} {μ : mm} {r : Int32 × mm} {Q : Option Value → mm → Prop} (h : f_8_readTest a0 μ = some r) (k0 : kd a0 = 8) (hQ : Q (some (.int r.1)) r.2) : Ct l E (d + 1) yX8_readTest m_8_readTest [.ref a0] μ Q := by
  refine Ct_of (lv := [some (.ref a0), none, none]) (by decide) rfl (Nat.le_of_ble_eq_true rfl) rfl ?_
  unfold f_8_readTest at h
  refine R_aload_n (dd dt_8_readTest 0 rfl) 0 rfl rfl ?_
  refine g_8_37 rfl k0 (dd dt_8_readTest 1 rfl) ?_
  refine R_bipush (v := 11) (dd dt_8_readTest 2 rfl) bp_11 ?_
  refine R_isub (dd dt_8_readTest 3 rfl) ?_
  refine R_istore_n (lv' := [some (.ref a0), some (.int ((μ a0 7) - 11)), none]) (dd dt_8_readTest 4 rfl) 1 rfl (by decide) rfl rfl ?_
  refine R_aload_n (dd dt_8_readTest 5 rfl) 0 rfl rfl ?_
  refine g_8_37 rfl k0 (dd dt_8_readTest 6 rfl) ?_
  refine R_bipush (v := 11) (dd dt_8_readTest 7 rfl) bp_11 ?_
  refine R_bipush (v := 17) (dd dt_8_readTest 8 rfl) bp_17 ?_
  obtain ⟨x2, e1, h⟩ := bi_el h
  refine c_8_54 (As := [.int (μ a0 7), .int 11, .int 17]) (st1 := [.int x2]) rfl (fun Q1 hq => ok_11_isIn e1 hq) rfl rfl (Nat.le_of_ble_eq_true rfl) (dd dt_8_readTest 9 rfl) rfl ?_
  refine R_ifne (dd dt_8_readTest 10 rfl) (tgt := 24) rfl (fun hc => ?_) (fun hc => ?_)
  · rw [if_neg hc] at h
    refine R_aload_n (dd dt_8_readTest 13 rfl) 0 rfl rfl ?_
    obtain ⟨μ4, e3, h⟩ := bi_el h
    refine c_8_71 (As := []) (st1 := []) rfl (fun Q1 hq => ok_8_step e3 k0 hq) k0 rfl rfl (Nat.le_of_ble_eq_true rfl) (dd dt_8_readTest 14 rfl) rfl ?_
    refine R_aload_n (dd dt_8_readTest 15 rfl) 0 rfl rfl ?_
    refine g_8_37 rfl k0 (dd dt_8_readTest 16 rfl) ?_
    refine R_bipush (v := 60) (dd dt_8_readTest 17 rfl) bp_60 ?_
    refine R_isub (dd dt_8_readTest 18 rfl) ?_
    refine R_istore_n (lv' := [some (.ref a0), some (.int ((μ a0 7) - 11)), some (.int ((μ4 a0 7) - 60))]) (dd dt_8_readTest 19 rfl) 2 rfl (by decide) rfl rfl ?_
    refine R_aload_n (dd dt_8_readTest 20 rfl) 0 rfl rfl ?_
    refine g_8_37 rfl k0 (dd dt_8_readTest 21 rfl) ?_
    refine R_bipush (v := 60) (dd dt_8_readTest 22 rfl) bp_60 ?_
    refine R_bipush (v := 62) (dd dt_8_readTest 23 rfl) bp_62 ?_
    obtain ⟨x6, e5, h⟩ := bi_el h
    refine c_8_54 (As := [.int (μ4 a0 7), .int 60, .int 62]) (st1 := [.int x6]) rfl (fun Q1 hq => ok_11_isIn e5 hq) rfl rfl (Nat.le_of_ble_eq_true rfl) (dd dt_8_readTest 24 rfl) rfl ?_
    refine R_ifne (dd dt_8_readTest 25 rfl) (tgt := 52) rfl (fun hc => ?_) (fun hc => ?_)
    · rw [if_neg hc] at h
      refine R_aload_n (dd dt_8_readTest 28 rfl) 0 rfl rfl ?_
      obtain ⟨μ8, e7, h⟩ := bi_el h
      refine c_8_71 (As := []) (st1 := []) rfl (fun Q1 hq => ok_8_step e7 k0 hq) k0 rfl rfl (Nat.le_of_ble_eq_true rfl) (dd dt_8_readTest 29 rfl) rfl ?_
      refine R_aload_n (dd dt_8_readTest 30 rfl) 0 rfl rfl ?_
      refine R_sipush (v := 999) (dd dt_8_readTest 31 rfl) sp_999 ?_
      obtain ⟨x10, e9, h⟩ := bi_el h
      refine c_8_74 (As := [.int 999]) (st1 := [.int x10]) rfl (fun Q1 hq => ok_8_isNumberUpTo e9 k0 hq) k0 rfl rfl (Nat.le_of_ble_eq_true rfl) (dd dt_8_readTest 32 rfl) rfl ?_
      refine R_ifne (dd dt_8_readTest 33 rfl) (tgt := 68) rfl (fun hc => ?_) (fun hc => ?_)
      · rw [if_neg hc] at h
        refine R_aload_n (dd dt_8_readTest 36 rfl) 0 rfl rfl ?_
        refine g_8_20 rfl k0 (dd dt_8_readTest 37 rfl) ?_
        refine R_iload_n (dd dt_8_readTest 38 rfl) 1 rfl rfl ?_
        refine R_iload_n (dd dt_8_readTest 39 rfl) 2 rfl rfl ?_
        refine R_aload_n (dd dt_8_readTest 40 rfl) 0 rfl rfl ?_
        refine g_8_31 rfl k0 (dd dt_8_readTest 41 rfl) ?_
        refine R_aload_n (dd dt_8_readTest 42 rfl) 0 rfl rfl ?_
        refine g_8_34 rfl k0 (dd dt_8_readTest 43 rfl) ?_
        obtain ⟨x11, e12, h⟩ := bi_el h
        refine R_ild e12 (ty_8_5 k0) (dd dt_8_readTest 44 rfl) ?_
        obtain ⟨x14, e13, h⟩ := bi_el h
        refine c_8_107 (As := [.int ((μ a0 7) - 11), .int ((μ4 a0 7) - 60), .int x11]) (st1 := [.int x14, .ref (rf a0 2)]) rfl (fun Q1 hq => ok_5_codeOfTest e13 hq) rfl rfl (Nat.le_of_ble_eq_true rfl) (dd dt_8_readTest 45 rfl) rfl ?_
        obtain ⟨μ16, e15, h⟩ := bi_el h
        refine c_8_94 (As := [.int x14]) (st1 := []) rfl (fun Q1 hq => ok_5_addCode e15 (ty_8_2 k0) hq) (ty_8_2 k0) rfl rfl (Nat.le_of_ble_eq_true rfl) (dd dt_8_readTest 46 rfl) rfl ?_
        refine R_aload_n (dd dt_8_readTest 47 rfl) 0 rfl rfl ?_
        obtain ⟨μ18, e17, h⟩ := bi_el h
        refine c_8_71 (As := []) (st1 := []) rfl (fun Q1 hq => ok_8_step e17 k0 hq) k0 rfl rfl (Nat.le_of_ble_eq_true rfl) (dd dt_8_readTest 48 rfl) rfl ?_
        refine R_iconst (v := 1) (dd dt_8_readTest 49 rfl) ic_1 ?_
        obtain rfl := Option.some.inj h
        exact R_zret rfl (by decide) (dd dt_8_readTest 50 rfl) hQ
      · rw [if_pos hc] at h
        refine R_iconst (v := 0) (dd dt_8_readTest 34 rfl) ic_0 ?_
        obtain rfl := Option.some.inj h
        exact R_zret rfl (by decide) (dd dt_8_readTest 35 rfl) hQ
    · rw [if_pos hc] at h
      refine R_iconst (v := 0) (dd dt_8_readTest 26 rfl) ic_0 ?_
      obtain rfl := Option.some.inj h
      exact R_zret rfl (by decide) (dd dt_8_readTest 27 rfl) hQ
  · rw [if_pos hc] at h
    refine R_iconst (v := 0) (dd dt_8_readTest 11 rfl) ic_0 ?_
    obtain rfl := Option.some.inj h
    exact R_zret rfl (by decide) (dd dt_8_readTest 12 rfl) hQ
