/-! LongStrike.many(I)I -/
def tab_11_many : List (Nat × Instr × Nat) := [(0, .iload_n 1, 1), (1, .tableswitch 237 0 16 #[83, 91, 99, 107, 115, 123, 134, 145, 156, 164, 175, 186, 197, 202, 213, 221, 229], 83), (84, .aload_n 0, 1), (85, .getfield 10, 3), (88, .getfield 87, 3), (91, .ireturn, 1), (92, .aload_n 0, 1), (93, .getfield 10, 3), (96, .getfield 93, 3), (99, .ireturn, 1), (100, .aload_n 0, 1), (101, .getfield 10, 3), (104, .getfield 103, 3), (107, .ireturn, 1), (108, .aload_n 0, 1), (109, .getfield 10, 3), (112, .getfield 116, 3), (115, .ireturn, 1), (116, .aload_n 0, 1), (117, .getfield 10, 3), (120, .getfield 132, 3), (123, .ireturn, 1), (124, .aload_n 0, 1), (125, .getfield 10, 3), (128, .getfield 336, 3), (131, .getfield 340, 3), (134, .ireturn, 1), (135, .aload_n 0, 1), (136, .getfield 10, 3), (139, .getfield 336, 3), (142, .getfield 359, 3), (145, .ireturn, 1), (146, .aload_n 0, 1), (147, .getfield 10, 3), (150, .getfield 250, 3), (153, .getfield 284, 3), (156, .ireturn, 1), (157, .aload_n 0, 1), (158, .getfield 10, 3), (161, .getfield 269, 3), (164, .ireturn, 1), (165, .aload_n 0, 1), (166, .getfield 10, 3), (169, .getfield 250, 3), (172, .getfield 281, 3), (175, .ireturn, 1), (176, .aload_n 0, 1), (177, .getfield 10, 3), (180, .getfield 259, 3), (183, .getfield 399, 3), (186, .ireturn, 1), (187, .aload_n 0, 1), (188, .getfield 10, 3), (191, .getfield 259, 3), (194, .getfield 393, 3), (197, .ireturn, 1), (198, .aload_n 0, 1), (199, .getfield 47, 3), (202, .ireturn, 1), (203, .aload_n 0, 1), (204, .getfield 10, 3), (207, .getfield 428, 3), (210, .getfield 432, 3), (213, .ireturn, 1), (214, .aload_n 0, 1), (215, .getfield 29, 3), (218, .getfield 290, 3), (221, .ireturn, 1), (222, .aload_n 0, 1), (223, .getfield 36, 3), (226, .getfield 513, 3), (229, .ireturn, 1), (230, .aload_n 0, 1), (231, .getfield 10, 3), (234, .invokevirtual 519, 3), (237, .ireturn, 1), (238, .iconst (-1), 1), (239, .ireturn, 1)]
set_option maxRecDepth 100000 in
theorem dt_11_many : ∀ q ∈ tab_11_many, decode m_11_many.2.1 q.1 = .ok q.2 := by decide +kernel
def f_11_many (a0 : Nat) (a1 : Int32) (μ : mm) : Option (Int32) :=
  if a1 = 0 then
    some (μ (rf a0 0) 0)
  else if a1 = 1 then
    some (μ (rf a0 0) 1)
  else if a1 = 2 then
    some (μ (rf a0 0) 2)
  else if a1 = 3 then
    some (μ (rf a0 0) 3)
  else if a1 = 4 then
    some (μ (rf a0 0) 4)
  else if a1 = 5 then
    some (μ (rf (rf a0 0) 13) 0)
  else if a1 = 6 then
    some (μ (rf (rf a0 0) 13) 4)
  else if a1 = 7 then
    some (μ (rf (rf a0 0) 12) 2)
  else if a1 = 8 then
    some (μ (rf a0 0) 5)
  else if a1 = 9 then
    some (μ (rf (rf a0 0) 12) 0)
  else if a1 = 10 then
    some (μ (rf (rf a0 0) 14) 1)
  else if a1 = 11 then
    some (μ (rf (rf a0 0) 14) 2)
  else if a1 = 12 then
    some (μ a0 8)
  else if a1 = 13 then
    some (μ (rf (rf a0 0) 15) 0)
  else if a1 = 14 then
    some (μ (rf a0 4) 1)
  else if a1 = 15 then
    some (μ (rf a0 5) 1)
  else if a1 = 16 then
    (f_9_backCount (rf a0 0) μ).bind fun x2 =>
    some x2
  else 
    some (-1)
set_option maxRecDepth 100000 in
set_option maxHeartbeats 4000000 in
theorem ok_11_many {l : Launch} {E : ce} {d : Nat}  {a0 : Nat} {a1 : Int32} {μ : mm} {r : Int32} {Q : Option Value → mm → Prop} (h : f_11_many a0 a1 μ = some r) (k0 : kd a0 = 11) (hQ : Q (some (.int r)) μ) : Ct l E (d + 1) yX11_many m_11_many [.ref a0, .int a1] μ Q := by
  refine Ct_of (lv := [some (.ref a0), some (.int a1)]) (by decide) rfl (Nat.le_of_ble_eq_true rfl) rfl ?_
  unfold f_11_many at h
  refine R_iload_n (dd dt_11_many 0 rfl) 1 rfl rfl ?_
  by_cases hs0 : a1 = 0
  · refine R_tabIn (off := 83) (tgt := 84) (dd dt_11_many 1 rfl) (by rw [hs0]; decide) (by rw [hs0]; decide) (by rw [hs0]; rfl) rfl ?_
    rw [if_pos hs0] at h
    refine R_aload_n (dd dt_11_many 2 rfl) 0 rfl rfl ?_
    refine g_11_10 rfl k0 (dd dt_11_many 3 rfl) ?_
    refine g_11_87 rfl (ty_11_0 k0) (dd dt_11_many 4 rfl) ?_
    obtain rfl := Option.some.inj h
    exact R_iret rfl (dd dt_11_many 5 rfl) hQ
  rw [if_neg hs0] at h
  by_cases hs1 : a1 = 1
  · refine R_tabIn (off := 91) (tgt := 92) (dd dt_11_many 1 rfl) (by rw [hs1]; decide) (by rw [hs1]; decide) (by rw [hs1]; rfl) rfl ?_
    rw [if_pos hs1] at h
    refine R_aload_n (dd dt_11_many 6 rfl) 0 rfl rfl ?_
    refine g_11_10 rfl k0 (dd dt_11_many 7 rfl) ?_
    refine g_11_93 rfl (ty_11_0 k0) (dd dt_11_many 8 rfl) ?_
    obtain rfl := Option.some.inj h
    exact R_iret rfl (dd dt_11_many 9 rfl) hQ
  rw [if_neg hs1] at h
  by_cases hs2 : a1 = 2
  · refine R_tabIn (off := 99) (tgt := 100) (dd dt_11_many 1 rfl) (by rw [hs2]; decide) (by rw [hs2]; decide) (by rw [hs2]; rfl) rfl ?_
    rw [if_pos hs2] at h
    refine R_aload_n (dd dt_11_many 10 rfl) 0 rfl rfl ?_
    refine g_11_10 rfl k0 (dd dt_11_many 11 rfl) ?_
    refine g_11_103 rfl (ty_11_0 k0) (dd dt_11_many 12 rfl) ?_
    obtain rfl := Option.some.inj h
    exact R_iret rfl (dd dt_11_many 13 rfl) hQ
  rw [if_neg hs2] at h
  by_cases hs3 : a1 = 3
  · refine R_tabIn (off := 107) (tgt := 108) (dd dt_11_many 1 rfl) (by rw [hs3]; decide) (by rw [hs3]; decide) (by rw [hs3]; rfl) rfl ?_
    rw [if_pos hs3] at h
    refine R_aload_n (dd dt_11_many 14 rfl) 0 rfl rfl ?_
    refine g_11_10 rfl k0 (dd dt_11_many 15 rfl) ?_
    refine g_11_116 rfl (ty_11_0 k0) (dd dt_11_many 16 rfl) ?_
    obtain rfl := Option.some.inj h
    exact R_iret rfl (dd dt_11_many 17 rfl) hQ
  rw [if_neg hs3] at h
  by_cases hs4 : a1 = 4
  · refine R_tabIn (off := 115) (tgt := 116) (dd dt_11_many 1 rfl) (by rw [hs4]; decide) (by rw [hs4]; decide) (by rw [hs4]; rfl) rfl ?_
    rw [if_pos hs4] at h
    refine R_aload_n (dd dt_11_many 18 rfl) 0 rfl rfl ?_
    refine g_11_10 rfl k0 (dd dt_11_many 19 rfl) ?_
    refine g_11_132 rfl (ty_11_0 k0) (dd dt_11_many 20 rfl) ?_
    obtain rfl := Option.some.inj h
    exact R_iret rfl (dd dt_11_many 21 rfl) hQ
  rw [if_neg hs4] at h
  by_cases hs5 : a1 = 5
  · refine R_tabIn (off := 123) (tgt := 124) (dd dt_11_many 1 rfl) (by rw [hs5]; decide) (by rw [hs5]; decide) (by rw [hs5]; rfl) rfl ?_
    rw [if_pos hs5] at h
    refine R_aload_n (dd dt_11_many 22 rfl) 0 rfl rfl ?_
    refine g_11_10 rfl k0 (dd dt_11_many 23 rfl) ?_
    refine g_11_336 rfl (ty_11_0 k0) (dd dt_11_many 24 rfl) ?_
    refine g_11_340 rfl (ty_9_13 (ty_11_0 k0)) (dd dt_11_many 25 rfl) ?_
    obtain rfl := Option.some.inj h
    exact R_iret rfl (dd dt_11_many 26 rfl) hQ
  rw [if_neg hs5] at h
  by_cases hs6 : a1 = 6
  · refine R_tabIn (off := 134) (tgt := 135) (dd dt_11_many 1 rfl) (by rw [hs6]; decide) (by rw [hs6]; decide) (by rw [hs6]; rfl) rfl ?_
    rw [if_pos hs6] at h
    refine R_aload_n (dd dt_11_many 27 rfl) 0 rfl rfl ?_
    refine g_11_10 rfl k0 (dd dt_11_many 28 rfl) ?_
    refine g_11_336 rfl (ty_11_0 k0) (dd dt_11_many 29 rfl) ?_
    refine g_11_359 rfl (ty_9_13 (ty_11_0 k0)) (dd dt_11_many 30 rfl) ?_
    obtain rfl := Option.some.inj h
    exact R_iret rfl (dd dt_11_many 31 rfl) hQ
  rw [if_neg hs6] at h
  by_cases hs7 : a1 = 7
  · refine R_tabIn (off := 145) (tgt := 146) (dd dt_11_many 1 rfl) (by rw [hs7]; decide) (by rw [hs7]; decide) (by rw [hs7]; rfl) rfl ?_
    rw [if_pos hs7] at h
    refine R_aload_n (dd dt_11_many 32 rfl) 0 rfl rfl ?_
    refine g_11_10 rfl k0 (dd dt_11_many 33 rfl) ?_
    refine g_11_250 rfl (ty_11_0 k0) (dd dt_11_many 34 rfl) ?_
    refine g_11_284 rfl (ty_9_12 (ty_11_0 k0)) (dd dt_11_many 35 rfl) ?_
    obtain rfl := Option.some.inj h
    exact R_iret rfl (dd dt_11_many 36 rfl) hQ
  rw [if_neg hs7] at h
  by_cases hs8 : a1 = 8
  · refine R_tabIn (off := 156) (tgt := 157) (dd dt_11_many 1 rfl) (by rw [hs8]; decide) (by rw [hs8]; decide) (by rw [hs8]; rfl) rfl ?_
    rw [if_pos hs8] at h
    refine R_aload_n (dd dt_11_many 37 rfl) 0 rfl rfl ?_
    refine g_11_10 rfl k0 (dd dt_11_many 38 rfl) ?_
    refine g_11_269 rfl (ty_11_0 k0) (dd dt_11_many 39 rfl) ?_
    obtain rfl := Option.some.inj h
    exact R_iret rfl (dd dt_11_many 40 rfl) hQ
  rw [if_neg hs8] at h
  by_cases hs9 : a1 = 9
  · refine R_tabIn (off := 164) (tgt := 165) (dd dt_11_many 1 rfl) (by rw [hs9]; decide) (by rw [hs9]; decide) (by rw [hs9]; rfl) rfl ?_
    rw [if_pos hs9] at h
    refine R_aload_n (dd dt_11_many 41 rfl) 0 rfl rfl ?_
    refine g_11_10 rfl k0 (dd dt_11_many 42 rfl) ?_
    refine g_11_250 rfl (ty_11_0 k0) (dd dt_11_many 43 rfl) ?_
    refine g_11_281 rfl (ty_9_12 (ty_11_0 k0)) (dd dt_11_many 44 rfl) ?_
    obtain rfl := Option.some.inj h
    exact R_iret rfl (dd dt_11_many 45 rfl) hQ
  rw [if_neg hs9] at h
  by_cases hs10 : a1 = 10
  · refine R_tabIn (off := 175) (tgt := 176) (dd dt_11_many 1 rfl) (by rw [hs10]; decide) (by rw [hs10]; decide) (by rw [hs10]; rfl) rfl ?_
    rw [if_pos hs10] at h
    refine R_aload_n (dd dt_11_many 46 rfl) 0 rfl rfl ?_
    refine g_11_10 rfl k0 (dd dt_11_many 47 rfl) ?_
    refine g_11_259 rfl (ty_11_0 k0) (dd dt_11_many 48 rfl) ?_
    refine g_11_399 rfl (ty_9_14 (ty_11_0 k0)) (dd dt_11_many 49 rfl) ?_
    obtain rfl := Option.some.inj h
    exact R_iret rfl (dd dt_11_many 50 rfl) hQ
  rw [if_neg hs10] at h
  by_cases hs11 : a1 = 11
  · refine R_tabIn (off := 186) (tgt := 187) (dd dt_11_many 1 rfl) (by rw [hs11]; decide) (by rw [hs11]; decide) (by rw [hs11]; rfl) rfl ?_
    rw [if_pos hs11] at h
    refine R_aload_n (dd dt_11_many 51 rfl) 0 rfl rfl ?_
    refine g_11_10 rfl k0 (dd dt_11_many 52 rfl) ?_
    refine g_11_259 rfl (ty_11_0 k0) (dd dt_11_many 53 rfl) ?_
    refine g_11_393 rfl (ty_9_14 (ty_11_0 k0)) (dd dt_11_many 54 rfl) ?_
    obtain rfl := Option.some.inj h
    exact R_iret rfl (dd dt_11_many 55 rfl) hQ
  rw [if_neg hs11] at h
  by_cases hs12 : a1 = 12
  · refine R_tabIn (off := 197) (tgt := 198) (dd dt_11_many 1 rfl) (by rw [hs12]; decide) (by rw [hs12]; decide) (by rw [hs12]; rfl) rfl ?_
    rw [if_pos hs12] at h
    refine R_aload_n (dd dt_11_many 56 rfl) 0 rfl rfl ?_
    refine g_11_47 rfl k0 (dd dt_11_many 57 rfl) ?_
    obtain rfl := Option.some.inj h
    exact R_iret rfl (dd dt_11_many 58 rfl) hQ
  rw [if_neg hs12] at h
  by_cases hs13 : a1 = 13
  · refine R_tabIn (off := 202) (tgt := 203) (dd dt_11_many 1 rfl) (by rw [hs13]; decide) (by rw [hs13]; decide) (by rw [hs13]; rfl) rfl ?_
    rw [if_pos hs13] at h
    refine R_aload_n (dd dt_11_many 59 rfl) 0 rfl rfl ?_
    refine g_11_10 rfl k0 (dd dt_11_many 60 rfl) ?_
    refine g_11_428 rfl (ty_11_0 k0) (dd dt_11_many 61 rfl) ?_
    refine g_11_432 rfl (ty_9_15 (ty_11_0 k0)) (dd dt_11_many 62 rfl) ?_
    obtain rfl := Option.some.inj h
    exact R_iret rfl (dd dt_11_many 63 rfl) hQ
  rw [if_neg hs13] at h
  by_cases hs14 : a1 = 14
  · refine R_tabIn (off := 213) (tgt := 214) (dd dt_11_many 1 rfl) (by rw [hs14]; decide) (by rw [hs14]; decide) (by rw [hs14]; rfl) rfl ?_
    rw [if_pos hs14] at h
    refine R_aload_n (dd dt_11_many 64 rfl) 0 rfl rfl ?_
    refine g_11_29 rfl k0 (dd dt_11_many 65 rfl) ?_
    refine g_11_290 rfl (ty_11_4 k0) (dd dt_11_many 66 rfl) ?_
    obtain rfl := Option.some.inj h
    exact R_iret rfl (dd dt_11_many 67 rfl) hQ
  rw [if_neg hs14] at h
  by_cases hs15 : a1 = 15
  · refine R_tabIn (off := 221) (tgt := 222) (dd dt_11_many 1 rfl) (by rw [hs15]; decide) (by rw [hs15]; decide) (by rw [hs15]; rfl) rfl ?_
    rw [if_pos hs15] at h
    refine R_aload_n (dd dt_11_many 68 rfl) 0 rfl rfl ?_
    refine g_11_36 rfl k0 (dd dt_11_many 69 rfl) ?_
    refine g_11_513 rfl (ty_11_5 k0) (dd dt_11_many 70 rfl) ?_
    obtain rfl := Option.some.inj h
    exact R_iret rfl (dd dt_11_many 71 rfl) hQ
  rw [if_neg hs15] at h
  by_cases hs16 : a1 = 16
  · refine R_tabIn (off := 229) (tgt := 230) (dd dt_11_many 1 rfl) (by rw [hs16]; decide) (by rw [hs16]; decide) (by rw [hs16]; rfl) rfl ?_
    rw [if_pos hs16] at h
    refine R_aload_n (dd dt_11_many 72 rfl) 0 rfl rfl ?_
    refine g_11_10 rfl k0 (dd dt_11_many 73 rfl) ?_
    obtain ⟨x2, e1, h⟩ := bi_el h
    refine c_11_519 (As := []) (st1 := [.int x2]) rfl (fun Q1 hq => ok_9_backCount e1 (ty_11_0 k0) hq) (ty_11_0 k0) rfl rfl (Nat.le_of_ble_eq_true rfl) (dd dt_11_many 74 rfl) rfl ?_
    obtain rfl := Option.some.inj h
    exact R_iret rfl (dd dt_11_many 75 rfl) hQ
  rw [if_neg hs16] at h
  refine R_tabOut (tgt := 238) (dd dt_11_many 1 rfl) (by have hn0 := lv_neT hs0 (a := 0) (by decide); have hn1 := lv_neT hs1 (a := 1) (by decide); have hn2 := lv_neT hs2 (a := 2) (by decide); have hn3 := lv_neT hs3 (a := 3) (by decide); have hn4 := lv_neT hs4 (a := 4) (by decide); have hn5 := lv_neT hs5 (a := 5) (by decide); have hn6 := lv_neT hs6 (a := 6) (by decide); have hn7 := lv_neT hs7 (a := 7) (by decide); have hn8 := lv_neT hs8 (a := 8) (by decide); have hn9 := lv_neT hs9 (a := 9) (by decide); have hn10 := lv_neT hs10 (a := 10) (by decide); have hn11 := lv_neT hs11 (a := 11) (by decide); have hn12 := lv_neT hs12 (a := 12) (by decide); have hn13 := lv_neT hs13 (a := 13) (by decide); have hn14 := lv_neT hs14 (a := 14) (by decide); have hn15 := lv_neT hs15 (a := 15) (by decide); have hn16 := lv_neT hs16 (a := 16) (by decide); omega) rfl ?_
  refine R_iconst (v := (-1)) (dd dt_11_many 76 rfl) ic_m1 ?_
  obtain rfl := Option.some.inj h
  exact R_iret rfl (dd dt_11_many 77 rfl) hQ
/-! LongStrike.keep()I -/
def tab_11_keep : List (Nat × Instr × Nat) := [(0, .aload_n 0, 1), (1, .getfield 16, 3), (4, .aload_n 0, 1), (5, .getfield 10, 3), (8, .invokevirtual 383, 3), (11, .aload_n 0, 1), (12, .iconst 1, 1), (13, .putfield 22, 3), (16, .iconst 1, 1), (17, .ireturn, 1)]
set_option maxRecDepth 100000 in
theorem dt_11_keep : ∀ q ∈ tab_11_keep, decode m_11_keep.2.1 q.1 = .ok q.2 := by decide +kernel
def f_11_keep (a0 : Nat) (μ : mm) : Option (Int32 × mm) :=
  (f_9_takeFrom (rf a0 1) (rf a0 0) μ).bind fun μ2 =>
  (pf μ2 a0 3 1).bind fun μ3 =>
  some (1, μ3)
set_option maxRecDepth 100000 in
set_option maxHeartbeats 4000000 in
theorem ok_11_keep {l : Launch} {E : ce} {d : Nat}  {a0 : Nat} {μ : mm} {r : Int32 × mm} {Q : Option Value → mm → Prop} (h : f_11_keep a0 μ = some r) (k0 : kd a0 = 11) (hQ : Q (some (.int r.1)) r.2) : Ct l E (d + 2) yX11_keep m_11_keep [.ref a0] μ Q := by
  refine Ct_of (lv := [some (.ref a0)]) (by decide) rfl (Nat.le_of_ble_eq_true rfl) rfl ?_
  unfold f_11_keep at h
  refine R_aload_n (dd dt_11_keep 0 rfl) 0 rfl rfl ?_
  refine g_11_16 rfl k0 (dd dt_11_keep 1 rfl) ?_
  refine R_aload_n (dd dt_11_keep 2 rfl) 0 rfl rfl ?_
  refine g_11_10 rfl k0 (dd dt_11_keep 3 rfl) ?_
  obtain ⟨μ2, e1, h⟩ := bi_el h
  refine c_11_383 (As := [.ref (rf a0 0)]) (st1 := []) rfl (fun Q1 hq => ok_9_takeFrom e1 (ty_11_1 k0) (ty_11_0 k0) hq) (ty_11_1 k0) rfl rfl (Nat.le_of_ble_eq_true rfl) (dd dt_11_keep 4 rfl) rfl ?_
  refine R_aload_n (dd dt_11_keep 5 rfl) 0 rfl rfl ?_
  refine R_iconst (v := 1) (dd dt_11_keep 6 rfl) ic_1 ?_
  obtain ⟨μ3, e4, h⟩ := bi_el h
  refine p_11_22 rfl k0 (by decide) (dd dt_11_keep 7 rfl) e4 ?_
  refine R_iconst (v := 1) (dd dt_11_keep 8 rfl) ic_1 ?_
  obtain rfl := Option.some.inj h
  exact R_iret rfl (dd dt_11_keep 9 rfl) hQ
/-! LongStrike.again()I -/
def tab_11_again : List (Nat × Instr × Nat) := [(0, .aload_n 0, 1), (1, .getfield 22, 3), (4, .ifCond .ne 6, 3), (7, .bipush (-3), 2), (9, .ireturn, 1), (10, .aload_n 0, 1), (11, .getfield 10, 3), (14, .aload_n 0, 1), (15, .getfield 16, 3), (18, .invokevirtual 383, 3), (21, .iconst 1, 1), (22, .ireturn, 1)]
set_option maxRecDepth 100000 in
theorem dt_11_again : ∀ q ∈ tab_11_again, decode m_11_again.2.1 q.1 = .ok q.2 := by decide +kernel
def f_11_again (a0 : Nat) (μ : mm) : Option (Int32 × mm) :=
  if (μ a0 3) = 0 then
    some ((-3), μ)
  else
    (f_9_takeFrom (rf a0 0) (rf a0 1) μ).bind fun μ2 =>
    some (1, μ2)
set_option maxRecDepth 100000 in
set_option maxHeartbeats 4000000 in
theorem ok_11_again {l : Launch} {E : ce} {d : Nat}  {a0 : Nat} {μ : mm} {r : Int32 × mm} {Q : Option Value → mm → Prop} (h : f_11_again a0 μ = some r) (k0 : kd a0 = 11) (hQ : Q (some (.int r.1)) r.2) : Ct l E (d + 2) yX11_again m_11_again [.ref a0] μ Q := by
  refine Ct_of (lv := [some (.ref a0)]) (by decide) rfl (Nat.le_of_ble_eq_true rfl) rfl ?_
  unfold f_11_again at h
  refine R_aload_n (dd dt_11_again 0 rfl) 0 rfl rfl ?_
  refine g_11_22 rfl k0 (dd dt_11_again 1 rfl) ?_
  refine R_ifne (dd dt_11_again 2 rfl) (tgt := 10) rfl (fun hc => ?_) (fun hc => ?_)
  · rw [if_neg hc] at h
    refine R_aload_n (dd dt_11_again 5 rfl) 0 rfl rfl ?_
    refine g_11_10 rfl k0 (dd dt_11_again 6 rfl) ?_
    refine R_aload_n (dd dt_11_again 7 rfl) 0 rfl rfl ?_
    refine g_11_16 rfl k0 (dd dt_11_again 8 rfl) ?_
    obtain ⟨μ2, e1, h⟩ := bi_el h
    refine c_11_383 (As := [.ref (rf a0 1)]) (st1 := []) rfl (fun Q1 hq => ok_9_takeFrom e1 (ty_11_0 k0) (ty_11_1 k0) hq) (ty_11_0 k0) rfl rfl (Nat.le_of_ble_eq_true rfl) (dd dt_11_again 9 rfl) rfl ?_
    refine R_iconst (v := 1) (dd dt_11_again 10 rfl) ic_1 ?_
    obtain rfl := Option.some.inj h
    exact R_iret rfl (dd dt_11_again 11 rfl) hQ
  · rw [if_pos hc] at h
    refine R_bipush (v := (-3)) (dd dt_11_again 3 rfl) bp_m3 ?_
    obtain rfl := Option.some.inj h
    exact R_iret rfl (dd dt_11_again 4 rfl) hQ
/-! LongStrikeModel.village()I -/
def tab_12_village : List (Nat × Instr × Nat) := [(0, .aload_n 0, 1), (1, .getfield 9, 3), (4, .bipush 8, 2), (6, .iaload, 1), (7, .bipush 6, 2), (9, .if_icmp .ne 6, 3), (12, .bipush (-2), 2), (14, .ireturn, 1), (15, .aload_n 0, 1), (16, .getfield 9, 3), (19, .bipush 8, 2), (21, .dup2, 1), (22, .iaload, 1), (23, .iconst 1, 1), (24, .iadd, 1), (25, .iastore, 1), (26, .aload_n 0, 1), (27, .getfield 9, 3), (30, .bipush 8, 2), (32, .iaload, 1), (33, .iconst 1, 1), (34, .isub, 1), (35, .ireturn, 1)]
set_option maxRecDepth 100000 in
theorem dt_12_village : ∀ q ∈ tab_12_village, decode m_12_village.2.1 q.1 = .ok q.2 := by decide +kernel
def f_12_village (a0 : Nat) (μ : mm) : Option (Int32 × mm) :=
  (ld μ (rf a0 0) 8).bind fun x1 =>
  if x1 = 6 then
    some ((-2), μ)
  else
    (ld μ (rf a0 0) 8).bind fun x3 =>
    (sto μ (rf a0 0) 8 (x3 + 1)).bind fun μ5 =>
    (ld μ5 (rf a0 0) 8).bind fun x7 =>
    some ((x7 - 1), μ5)
set_option maxRecDepth 100000 in
set_option maxHeartbeats 4000000 in
theorem ok_12_village {l : Launch} {E : ce} {d : Nat}  {a0 : Nat} {μ : mm} {r : Int32 × mm} {Q : Option Value → mm → Prop} (h : f_12_village a0 μ = some r) (k0 : kd a0 = 12) (hQ : Q (some (.int r.1)) r.2) : Ct l E d yX12_village m_12_village [.ref a0] μ Q := by
  refine Ct_of (lv := [some (.ref a0)]) (by decide) rfl (Nat.le_of_ble_eq_true rfl) rfl ?_
  unfold f_12_village at h
  refine R_aload_n (dd dt_12_village 0 rfl) 0 rfl rfl ?_
  refine g_12_9 rfl k0 (dd dt_12_village 1 rfl) ?_
  refine R_bipush (v := 8) (dd dt_12_village 2 rfl) bp_8 ?_
  obtain ⟨x1, e2, h⟩ := bi_el h
  refine R_ild e2 (ty_12_0 k0) (dd dt_12_village 3 rfl) ?_
  refine R_bipush (v := 6) (dd dt_12_village 4 rfl) bp_6 ?_
  refine R_cmpne (dd dt_12_village 5 rfl) (tgt := 15) rfl (fun hc => ?_) (fun hc => ?_)
  · rw [if_neg hc] at h
    refine R_aload_n (dd dt_12_village 8 rfl) 0 rfl rfl ?_
    refine g_12_9 rfl k0 (dd dt_12_village 9 rfl) ?_
    refine R_bipush (v := 8) (dd dt_12_village 10 rfl) bp_8 ?_
    refine R_dup2 (dd dt_12_village 11 rfl) rfl rfl ?_
    obtain ⟨x3, e4, h⟩ := bi_el h
    refine R_ild e4 (ty_12_0 k0) (dd dt_12_village 12 rfl) ?_
    refine R_iconst (v := 1) (dd dt_12_village 13 rfl) ic_1 ?_
    refine R_iadd (dd dt_12_village 14 rfl) ?_
    obtain ⟨μ5, e6, h⟩ := bi_el h
    refine R_isto e6 (ty_12_0 k0) (dd dt_12_village 15 rfl) ?_
    refine R_aload_n (dd dt_12_village 16 rfl) 0 rfl rfl ?_
    refine g_12_9 rfl k0 (dd dt_12_village 17 rfl) ?_
    refine R_bipush (v := 8) (dd dt_12_village 18 rfl) bp_8 ?_
    obtain ⟨x7, e8, h⟩ := bi_el h
    refine R_ild e8 (ty_12_0 k0) (dd dt_12_village 19 rfl) ?_
    refine R_iconst (v := 1) (dd dt_12_village 20 rfl) ic_1 ?_
    refine R_isub (dd dt_12_village 21 rfl) ?_
    obtain rfl := Option.some.inj h
    exact R_iret rfl (dd dt_12_village 22 rfl) hQ
  · rw [if_pos hc] at h
    refine R_bipush (v := (-2)) (dd dt_12_village 6 rfl) bp_m2 ?_
    obtain rfl := Option.some.inj h
    exact R_iret rfl (dd dt_12_village 7 rfl) hQ
/-! LongStrikeModel.within(III)Z -/
def tab_12_within : List (Nat × Instr × Nat) := [(0, .iload_n 0, 1), (1, .iload_n 1, 1), (2, .if_icmp .lt 12, 3), (5, .iload_n 0, 1), (6, .iload_n 2, 1), (7, .if_icmp .gt 7, 3), (10, .iconst 1, 1), (11, .goto 4, 3), (14, .iconst 0, 1), (15, .ireturn, 1)]
set_option maxRecDepth 100000 in
theorem dt_12_within : ∀ q ∈ tab_12_within, decode m_12_within.2.1 q.1 = .ok q.2 := by decide +kernel
def f_12_within (a0 : Int32) (a1 : Int32) (a2 : Int32) (μ : mm) : Option (Int32) :=
  if a0 < a1 then
    some 0
  else
    if a2 < a0 then
      some 0
    else
      some 1
set_option maxRecDepth 100000 in
set_option maxHeartbeats 4000000 in
theorem ok_12_within {l : Launch} {E : ce} {d : Nat}  {a0 : Int32} {a1 : Int32} {a2 : Int32} {μ : mm} {r : Int32} {Q : Option Value → mm → Prop} (h : f_12_within a0 a1 a2 μ = some r)  (hQ : Q (some (.int r)) μ) : Ct l E d yX12_within m_12_within [.int a0, .int a1, .int a2] μ Q := by
  refine Ct_of (lv := [some (.int a0), some (.int a1), some (.int a2)]) (by decide) rfl (Nat.le_of_ble_eq_true rfl) rfl ?_
  unfold f_12_within at h
  refine R_iload_n (dd dt_12_within 0 rfl) 0 rfl rfl ?_
  refine R_iload_n (dd dt_12_within 1 rfl) 1 rfl rfl ?_
  refine R_cmplt (dd dt_12_within 2 rfl) (tgt := 14) rfl (fun hc => ?_) (fun hc => ?_)
  · rw [if_pos hc] at h
    refine R_iconst (v := 0) (dd dt_12_within 8 rfl) ic_0 ?_
    obtain rfl := Option.some.inj h
    exact R_zret rfl (by decide) (dd dt_12_within 9 rfl) hQ
  · rw [if_neg hc] at h
    refine R_iload_n (dd dt_12_within 3 rfl) 0 rfl rfl ?_
    refine R_iload_n (dd dt_12_within 4 rfl) 2 rfl rfl ?_
    refine R_cmpgt (dd dt_12_within 5 rfl) (tgt := 14) rfl (fun hc => ?_) (fun hc => ?_)
    · rw [if_pos hc] at h
      refine R_iconst (v := 0) (dd dt_12_within 8 rfl) ic_0 ?_
      obtain rfl := Option.some.inj h
      exact R_zret rfl (by decide) (dd dt_12_within 9 rfl) hQ
    · rw [if_neg hc] at h
      refine R_iconst (v := 1) (dd dt_12_within 6 rfl) ic_1 ?_
      refine R_goto (dd dt_12_within 7 rfl) (tgt := 15) rfl ?_
      obtain rfl := Option.some.inj h
      exact R_zret rfl (by decide) (dd dt_12_within 9 rfl) hQ
/-! LongStrikeModel.is(II)Z -/
def tab_12_is : List (Nat × Instr × Nat) := [(0, .iload_n 1, 1), (1, .iconst 0, 1), (2, .aload_n 0, 1), (3, .getfield 9, 3), (6, .iload_n 2, 1), (7, .iaload, 1), (8, .iconst 1, 1), (9, .isub, 1), (10, .invokestatic 80, 3), (13, .ireturn, 1)]
set_option maxRecDepth 100000 in
theorem dt_12_is : ∀ q ∈ tab_12_is, decode m_12_is.2.1 q.1 = .ok q.2 := by decide +kernel
def f_12_is (a0 : Nat) (a1 : Int32) (a2 : Int32) (μ : mm) : Option (Int32) :=
  (ld μ (rf a0 0) a2).bind fun x1 =>
  (f_12_within a1 0 (x1 - 1) μ).bind fun x4 =>
  (gb x4).bind fun _ =>
  some x4
set_option maxRecDepth 100000 in
set_option maxHeartbeats 4000000 in
theorem ok_12_is {l : Launch} {E : ce} {d : Nat}  {a0 : Nat} {a1 : Int32} {a2 : Int32} {μ : mm} {r : Int32} {Q : Option Value → mm → Prop} (h : f_12_is a0 a1 a2 μ = some r) (k0 : kd a0 = 12) (hQ : Q (some (.int r)) μ) : Ct l E (d + 1) yX12_is m_12_is [.ref a0, .int a1, .int a2] μ Q := by
  refine Ct_of (lv := [some (.ref a0), some (.int a1), some (.int a2)]) (by decide) rfl (Nat.le_of_ble_eq_true rfl) rfl ?_
  unfold f_12_is at h
  refine R_iload_n (dd dt_12_is 0 rfl) 1 rfl rfl ?_
  refine R_iconst (v := 0) (dd dt_12_is 1 rfl) ic_0 ?_
  refine R_aload_n (dd dt_12_is 2 rfl) 0 rfl rfl ?_
  refine g_12_9 rfl k0 (dd dt_12_is 3 rfl) ?_
  refine R_iload_n (dd dt_12_is 4 rfl) 2 rfl rfl ?_
  obtain ⟨x1, e2, h⟩ := bi_el h
  refine R_ild e2 (ty_12_0 k0) (dd dt_12_is 5 rfl) ?_
  refine R_iconst (v := 1) (dd dt_12_is 6 rfl) ic_1 ?_
  refine R_isub (dd dt_12_is 7 rfl) ?_
  obtain ⟨x4, e3, h⟩ := bi_el h
  refine c_12_80 (As := [.int a1, .int 0, .int (x1 - 1)]) (st1 := [.int x4]) rfl (fun Q1 hq => ok_12_within e3 hq) rfl rfl (Nat.le_of_ble_eq_true rfl) (dd dt_12_is 8 rfl) rfl ?_
  obtain ⟨_, q5, h⟩ := bi_el h
  obtain rfl := Option.some.inj h
  exact R_zret rfl (bo_narrow (gb_el q5).1) (dd dt_12_is 9 rfl) hQ
/-! LongStrikeModel.roadOf(II)I -/
def tab_12_roadOf : List (Nat × Instr × Nat) := [(0, .aload_n 0, 1), (1, .getfield 9, 3), (4, .bipush 20, 2), (6, .bipush 6, 2), (8, .iload_n 1, 1), (9, .imul, 1), (10, .iadd, 1), (11, .iload_n 2, 1), (12, .iadd, 1), (13, .iaload, 1), (14, .ireturn, 1)]
set_option maxRecDepth 100000 in
theorem dt_12_roadOf : ∀ q ∈ tab_12_roadOf, decode m_12_roadOf.2.1 q.1 = .ok q.2 := by decide +kernel
def f_12_roadOf (a0 : Nat) (a1 : Int32) (a2 : Int32) (μ : mm) : Option (Int32) :=
  (ld μ (rf a0 0) ((20 + (6 * a1)) + a2)).bind fun x1 =>
  some x1
set_option maxRecDepth 100000 in
set_option maxHeartbeats 4000000 in
theorem ok_12_roadOf {l : Launch} {E : ce} {d : Nat}  {a0 : Nat} {a1 : Int32} {a2 : Int32} {μ : mm} {r : Int32} {Q : Option Value → mm → Prop} (h : f_12_roadOf a0 a1 a2 μ = some r) (k0 : kd a0 = 12) (hQ : Q (some (.int r)) μ) : Ct l E d yX12_roadOf m_12_roadOf [.ref a0, .int a1, .int a2] μ Q := by
  refine Ct_of (lv := [some (.ref a0), some (.int a1), some (.int a2)]) (by decide) rfl (Nat.le_of_ble_eq_true rfl) rfl ?_
  unfold f_12_roadOf at h
  refine R_aload_n (dd dt_12_roadOf 0 rfl) 0 rfl rfl ?_
  refine g_12_9 rfl k0 (dd dt_12_roadOf 1 rfl) ?_
  refine R_bipush (v := 20) (dd dt_12_roadOf 2 rfl) bp_20 ?_
  refine R_bipush (v := 6) (dd dt_12_roadOf 3 rfl) bp_6 ?_
  refine R_iload_n (dd dt_12_roadOf 4 rfl) 1 rfl rfl ?_
  refine R_imul (dd dt_12_roadOf 5 rfl) ?_
  refine R_iadd (dd dt_12_roadOf 6 rfl) ?_
  refine R_iload_n (dd dt_12_roadOf 7 rfl) 2 rfl rfl ?_
  refine R_iadd (dd dt_12_roadOf 8 rfl) ?_
  obtain ⟨x1, e2, h⟩ := bi_el h
  refine R_ild e2 (ty_12_0 k0) (dd dt_12_roadOf 9 rfl) ?_
  obtain rfl := Option.some.inj h
  exact R_iret rfl (dd dt_12_roadOf 10 rfl) hQ
/-! LongStrikeModel.road(III)I -/
def tab_12_road : List (Nat × Instr × Nat) := [(0, .aload_n 0, 1), (1, .iload_n 1, 1), (2, .bipush 8, 2), (4, .invokevirtual 84, 3), (7, .ifCond .eq 28, 3), (10, .aload_n 0, 1), (11, .iload_n 2, 1), (12, .bipush 8, 2), (14, .invokevirtual 84, 3), (17, .ifCond .eq 18, 3), (20, .iload_n 1, 1), (21, .iload_n 2, 1), (22, .if_icmp .eq 13, 3), (25, .iload_n 3, 1), (26, .iconst 1, 1), (27, .bipush 9, 2), (29, .invokestatic 80, 3), (32, .ifCond .ne 5, 3), (35, .iconst (-1), 1), (36, .ireturn, 1), (37, .aload_n 0, 1), (38, .iload_n 1, 1), (39, .iload_n 2, 1), (40, .invokevirtual 88, 3), (43, .istore 4, 2), (45, .aload_n 0, 1), (46, .getfield 9, 3), (49, .bipush 20, 2), (51, .bipush 6, 2), (53, .iload_n 1, 1), (54, .imul, 1), (55, .iadd, 1), (56, .iload_n 2, 1), (57, .iadd, 1), (58, .iload_n 3, 1), (59, .iastore, 1), (60, .aload_n 0, 1), (61, .getfield 9, 3), (64, .bipush 20, 2), (66, .bipush 6, 2), (68, .iload_n 2, 1), (69, .imul, 1), (70, .iadd, 1), (71, .iload_n 1, 1), (72, .iadd, 1), (73, .iload_n 3, 1), (74, .iastore, 1), (75, .iload 4, 2), (77, .ireturn, 1)]
set_option maxRecDepth 100000 in
theorem dt_12_road : ∀ q ∈ tab_12_road, decode m_12_road.2.1 q.1 = .ok q.2 := by decide +kernel
def f_12_road (a0 : Nat) (a1 : Int32) (a2 : Int32) (a3 : Int32) (μ : mm) : Option (Int32 × mm) :=
  (f_12_is a0 a1 8 μ).bind fun x2 =>
  if x2 = 0 then
    some ((-1), μ)
  else
    (f_12_is a0 a2 8 μ).bind fun x4 =>
    if x4 = 0 then
      some ((-1), μ)
    else
      if a1 = a2 then
        some ((-1), μ)
      else
        (f_12_within a3 1 9 μ).bind fun x6 =>
        if x6 = 0 then
          some ((-1), μ)
        else
          (f_12_roadOf a0 a1 a2 μ).bind fun x8 =>
          (sto μ (rf a0 0) ((20 + (6 * a1)) + a2) a3).bind fun μ9 =>
          (sto μ9 (rf a0 0) ((20 + (6 * a2)) + a1) a3).bind fun μ11 =>
          some (x8, μ11)
set_option maxRecDepth 100000 in
set_option maxHeartbeats 4000000 in
theorem ok_12_road {l : Launch} {E : ce} {d : Nat}  {a0 : Nat} {a1 : Int32} {a2 : Int32} {a3 : Int32} {μ : mm} {r : Int32 × mm} {Q : Option Value → mm → Prop} (h : f_12_road a0 a1 a2 a3 μ = some r) (k0 : kd a0 = 12) (hQ : Q (some (.int r.1)) r.2) : Ct l E (d + 2) yX12_road m_12_road [.ref a0, .int a1, .int a2, .int a3] μ Q := by
  refine Ct_of (lv := [some (.ref a0), some (.int a1), some (.int a2), some (.int a3), none]) (by decide) rfl (Nat.le_of_ble_eq_true rfl) rfl ?_
  unfold f_12_road at h
  refine R_aload_n (dd dt_12_road 0 rfl) 0 rfl rfl ?_
  refine R_iload_n (dd dt_12_road 1 rfl) 1 rfl rfl ?_
  refine R_bipush (v := 8) (dd dt_12_road 2 rfl) bp_8 ?_
  obtain ⟨x2, e1, h⟩ := bi_el h
  refine c_12_84 (As := [.int a1, .int 8]) (st1 := [.int x2]) rfl (fun Q1 hq => ok_12_is e1 k0 hq) k0 rfl rfl (Nat.le_of_ble_eq_true rfl) (dd dt_12_road 3 rfl) rfl ?_
  refine R_ifeq (dd dt_12_road 4 rfl) (tgt := 35) rfl (fun hc => ?_) (fun hc => ?_)
  · rw [if_pos hc] at h
    refine R_iconst (v := (-1)) (dd dt_12_road 18 rfl) ic_m1 ?_
    obtain rfl := Option.some.inj h
    exact R_iret rfl (dd dt_12_road 19 rfl) hQ
  · rw [if_neg hc] at h
    refine R_aload_n (dd dt_12_road 5 rfl) 0 rfl rfl ?_
    refine R_iload_n (dd dt_12_road 6 rfl) 2 rfl rfl ?_
    refine R_bipush (v := 8) (dd dt_12_road 7 rfl) bp_8 ?_
    obtain ⟨x4, e3, h⟩ := bi_el h
    refine c_12_84 (As := [.int a2, .int 8]) (st1 := [.int x4]) rfl (fun Q1 hq => ok_12_is e3 k0 hq) k0 rfl rfl (Nat.le_of_ble_eq_true rfl) (dd dt_12_road 8 rfl) rfl ?_
    refine R_ifeq (dd dt_12_road 9 rfl) (tgt := 35) rfl (fun hc => ?_) (fun hc => ?_)
    · rw [if_pos hc] at h
      refine R_iconst (v := (-1)) (dd dt_12_road 18 rfl) ic_m1 ?_
      obtain rfl := Option.some.inj h
      exact R_iret rfl (dd dt_12_road 19 rfl) hQ
    · rw [if_neg hc] at h
      refine R_iload_n (dd dt_12_road 10 rfl) 1 rfl rfl ?_
      refine R_iload_n (dd dt_12_road 11 rfl) 2 rfl rfl ?_
      refine R_cmpeq (dd dt_12_road 12 rfl) (tgt := 35) rfl (fun hc => ?_) (fun hc => ?_)
      · rw [if_pos hc] at h
        refine R_iconst (v := (-1)) (dd dt_12_road 18 rfl) ic_m1 ?_
        obtain rfl := Option.some.inj h
        exact R_iret rfl (dd dt_12_road 19 rfl) hQ
      · rw [if_neg hc] at h
        refine R_iload_n (dd dt_12_road 13 rfl) 3 rfl rfl ?_
        refine R_iconst (v := 1) (dd dt_12_road 14 rfl) ic_1 ?_
        refine R_bipush (v := 9) (dd dt_12_road 15 rfl) bp_9 ?_
        obtain ⟨x6, e5, h⟩ := bi_el h
        refine c_12_80 (As := [.int a3, .int 1, .int 9]) (st1 := [.int x6]) rfl (fun Q1 hq => ok_12_within e5 hq) rfl rfl (Nat.le_of_ble_eq_true rfl) (dd dt_12_road 16 rfl) rfl ?_
        refine R_ifne (dd dt_12_road 17 rfl) (tgt := 37) rfl (fun hc => ?_) (fun hc => ?_)
        · rw [if_neg hc] at h
          refine R_aload_n (dd dt_12_road 20 rfl) 0 rfl rfl ?_
          refine R_iload_n (dd dt_12_road 21 rfl) 1 rfl rfl ?_
          refine R_iload_n (dd dt_12_road 22 rfl) 2 rfl rfl ?_
          obtain ⟨x8, e7, h⟩ := bi_el h
          refine c_12_88 (As := [.int a1, .int a2]) (st1 := [.int x8]) rfl (fun Q1 hq => ok_12_roadOf e7 k0 hq) k0 rfl rfl (Nat.le_of_ble_eq_true rfl) (dd dt_12_road 23 rfl) rfl ?_
          refine R_istore (lv' := [some (.ref a0), some (.int a1), some (.int a2), some (.int a3), some (.int x8)]) (dd dt_12_road 24 rfl) (by decide) rfl rfl ?_
          refine R_aload_n (dd dt_12_road 25 rfl) 0 rfl rfl ?_
          refine g_12_9 rfl k0 (dd dt_12_road 26 rfl) ?_
          refine R_bipush (v := 20) (dd dt_12_road 27 rfl) bp_20 ?_
          refine R_bipush (v := 6) (dd dt_12_road 28 rfl) bp_6 ?_
          refine R_iload_n (dd dt_12_road 29 rfl) 1 rfl rfl ?_
          refine R_imul (dd dt_12_road 30 rfl) ?_
          refine R_iadd (dd dt_12_road 31 rfl) ?_
          refine R_iload_n (dd dt_12_road 32 rfl) 2 rfl rfl ?_
          refine R_iadd (dd dt_12_road 33 rfl) ?_
          refine R_iload_n (dd dt_12_road 34 rfl) 3 rfl rfl ?_
          obtain ⟨μ9, e10, h⟩ := bi_el h
          refine R_isto e10 (ty_12_0 k0) (dd dt_12_road 35 rfl) ?_
          refine R_aload_n (dd dt_12_road 36 rfl) 0 rfl rfl ?_
          refine g_12_9 rfl k0 (dd dt_12_road 37 rfl) ?_
          refine R_bipush (v := 20) (dd dt_12_road 38 rfl) bp_20 ?_
          refine R_bipush (v := 6) (dd dt_12_road 39 rfl) bp_6 ?_
          refine R_iload_n (dd dt_12_road 40 rfl) 2 rfl rfl ?_
          refine R_imul (dd dt_12_road 41 rfl) ?_
          refine R_iadd (dd dt_12_road 42 rfl) ?_
          refine R_iload_n (dd dt_12_road 43 rfl) 1 rfl rfl ?_
          refine R_iadd (dd dt_12_road 44 rfl) ?_
          refine R_iload_n (dd dt_12_road 45 rfl) 3 rfl rfl ?_
          obtain ⟨μ11, e12, h⟩ := bi_el h
          refine R_isto e12 (ty_12_0 k0) (dd dt_12_road 46 rfl) ?_
          refine R_iload (dd dt_12_road 47 rfl) rfl ?_
          obtain rfl := Option.some.inj h
          exact R_iret rfl (dd dt_12_road 48 rfl) hQ
        · rw [if_pos hc] at h
          refine R_iconst (v := (-1)) (dd dt_12_road 18 rfl) ic_m1 ?_
          obtain rfl := Option.some.inj h
          exact R_iret rfl (dd dt_12_road 19 rfl) hQ
/-! LongStrikeModel.ofPit(II)I -/
def tab_12_ofPit : List (Nat × Instr × Nat) := [(0, .bipush 56, 2), (2, .bipush 7, 2), (4, .iload_n 0, 1), (5, .imul, 1), (6, .iadd, 1), (7, .iload_n 1, 1), (8, .iadd, 1), (9, .ireturn, 1)]
set_option maxRecDepth 100000 in
theorem dt_12_ofPit : ∀ q ∈ tab_12_ofPit, decode m_12_ofPit.2.1 q.1 = .ok q.2 := by decide +kernel
def f_12_ofPit (a0 : Int32) (a1 : Int32) (μ : mm) : Option (Int32) :=
  some ((56 + (7 * a0)) + a1)
set_option maxRecDepth 100000 in
set_option maxHeartbeats 4000000 in
theorem ok_12_ofPit {l : Launch} {E : ce} {d : Nat}  {a0 : Int32} {a1 : Int32} {μ : mm} {r : Int32} {Q : Option Value → mm → Prop} (h : f_12_ofPit a0 a1 μ = some r)  (hQ : Q (some (.int r)) μ) : Ct l E d yX12_ofPit m_12_ofPit [.int a0, .int a1] μ Q := by
  refine Ct_of (lv := [some (.int a0), some (.int a1)]) (by decide) rfl (Nat.le_of_ble_eq_true rfl) rfl ?_
  unfold f_12_ofPit at h
  refine R_bipush (v := 56) (dd dt_12_ofPit 0 rfl) bp_56 ?_
  refine R_bipush (v := 7) (dd dt_12_ofPit 1 rfl) bp_7 ?_
  refine R_iload_n (dd dt_12_ofPit 2 rfl) 0 rfl rfl ?_
  refine R_imul (dd dt_12_ofPit 3 rfl) ?_
  refine R_iadd (dd dt_12_ofPit 4 rfl) ?_
  refine R_iload_n (dd dt_12_ofPit 5 rfl) 1 rfl rfl ?_
  refine R_iadd (dd dt_12_ofPit 6 rfl) ?_
  obtain rfl := Option.some.inj h
  exact R_iret rfl (dd dt_12_ofPit 7 rfl) hQ
/-! LongStrikeModel.pit(IIII)I -/
def tab_12_pit : List (Nat × Instr × Nat) := [(0, .aload_n 0, 1), (1, .iload_n 1, 1), (2, .bipush 8, 2), (4, .invokevirtual 84, 3), (7, .ifCond .eq 35, 3), (10, .iload_n 2, 1), (11, .iconst 1, 1), (12, .bipush 50, 2), (14, .invokestatic 80, 3), (17, .ifCond .eq 25, 3), (20, .iload_n 3, 1), (21, .iconst 0, 1), (22, .bipush 50, 2), (24, .invokestatic 80, 3), (27, .ifCond .eq 15, 3), (30, .iload 4, 2), (32, .iconst 1, 1), (33, .sipush 9999, 3), (36, .invokestatic 80, 3), (39, .ifCond .ne 5, 3), (42, .iconst (-1), 1), (43, .ireturn, 1), (44, .aload_n 0, 1), (45, .getfield 9, 3), (48, .bipush 9, 2), (50, .iaload, 1), (51, .istore 5, 2), (53, .iload 5, 2), (55, .iconst 4, 1), (56, .if_icmp .ne 6, 3), (59, .bipush (-2), 2), (61, .ireturn, 1), (62, .aload_n 0, 1), (63, .getfield 9, 3), (66, .iload 5, 2), (68, .iconst 0, 1), (69, .invokestatic 92, 3), (72, .iload_n 1, 1), (73, .iastore, 1), (74, .aload_n 0, 1), (75, .getfield 9, 3), (78, .iload 5, 2), (80, .iconst 1, 1), (81, .invokestatic 92, 3), (84, .iconst 0, 1), (85, .iastore, 1), (86, .aload_n 0, 1), (87, .getfield 9, 3), (90, .iload 5, 2), (92, .iconst 2, 1), (93, .invokestatic 92, 3), (96, .iload_n 2, 1), (97, .iastore, 1), (98, .aload_n 0, 1), (99, .getfield 9, 3), (102, .iload 5, 2), (104, .iconst 3, 1), (105, .invokestatic 92, 3), (108, .iload_n 3, 1), (109, .iastore, 1), (110, .aload_n 0, 1), (111, .getfield 9, 3), (114, .iload 5, 2), (116, .iconst 4, 1), (117, .invokestatic 92, 3), (120, .iload 4, 2), (122, .iastore, 1), (123, .aload_n 0, 1), (124, .getfield 9, 3), (127, .iload 5, 2), (129, .iconst 5, 1), (130, .invokestatic 92, 3), (133, .bipush (-3), 2), (135, .iastore, 1), (136, .aload_n 0, 1), (137, .getfield 9, 3), (140, .iload 5, 2), (142, .bipush 6, 2), (144, .invokestatic 92, 3), (147, .bipush 50, 2), (149, .iastore, 1), (150, .iconst 0, 1), (151, .istore 6, 2), (153, .iload 6, 2), (155, .bipush 9, 2), (157, .if_icmp .ge 28, 3), (160, .aload_n 0, 1), (161, .getfield 9, 3), (164, .sipush 867, 3), (167, .iconst 5, 1), (168, .iload 6, 2), (170, .imul, 1), (171, .iadd, 1), (172, .iconst 1, 1), (173, .iadd, 1), (174, .iload 5, 2), (176, .iadd, 1), (177, .iconst 0, 1), (178, .iastore, 1), (179, .iinc 6 1, 3), (182, .goto (-29), 3), (185, .aload_n 0, 1), (186, .getfield 9, 3), (189, .bipush 9, 2), (191, .dup2, 1), (192, .iaload, 1), (193, .iconst 1, 1), (194, .iadd, 1), (195, .iastore, 1), (196, .iload 5, 2), (198, .ireturn, 1)]
set_option maxRecDepth 100000 in
theorem dt_12_pit : ∀ q ∈ tab_12_pit, decode m_12_pit.2.1 q.1 = .ok q.2 := by decide +kernel
def f_12_pit_l153 (a0 : Nat) (a5 : Int32) : Nat → Int32 → mm → Option (mm)
  | 0, _, _ => none
  | n + 1, v6, μ => if 9 ≤ v6 then
      some μ
    else
      (sto μ (rf a0 0) (((867 + (5 * v6)) + 1) + a5) 0).bind fun μ1 =>
      f_12_pit_l153 a0 a5 n (v6 + 1) μ1
set_option maxRecDepth 100000 in
theorem ok_12_pit_l153 {l : Launch} {E : ce} {d : Nat} {Q : Option Value → mm → Prop} (a0 : Nat) (a5 : Int32) (k0 : kd a0 = 12) : ∀ (n : Nat) (v6 : Int32) (μ : mm) (z : mm), f_12_pit_l153 a0 a5 n v6 μ = some z → Rj l E (d + 2) m_12_pit 185 [some (.ref a0), none, none, none, none, some (.int a5), none] [] z Q → Rj l E (d + 2) m_12_pit 153 [some (.ref a0), none, none, none, none, some (.int a5), some (.int v6)] [] μ Q
  | 0, _, _, z, h, _ => by
    rw [f_12_pit_l153] at h
    cases h
  | n + 1, v6, μ, z, h, KX => by
    rw [f_12_pit_l153] at h
    refine R_iload (dd dt_12_pit 83 rfl) rfl ?_
    refine R_bipush (v := 9) (dd dt_12_pit 84 rfl) bp_9 ?_
    refine R_cmpge (dd dt_12_pit 85 rfl) (tgt := 185) rfl (fun hc => ?_) (fun hc => ?_)
    · rw [if_pos hc] at h
      obtain rfl := Option.some.inj h
      exact R_mask [true, false, false, false, false, true, false] rfl KX
    · rw [if_neg hc] at h
      refine R_aload_n (dd dt_12_pit 86 rfl) 0 rfl rfl ?_
      refine g_12_9 rfl k0 (dd dt_12_pit 87 rfl) ?_
      refine R_sipush (v := 867) (dd dt_12_pit 88 rfl) sp_867 ?_
      refine R_iconst (v := 5) (dd dt_12_pit 89 rfl) ic_5 ?_
      refine R_iload (dd dt_12_pit 90 rfl) rfl ?_
      refine R_imul (dd dt_12_pit 91 rfl) ?_
      refine R_iadd (dd dt_12_pit 92 rfl) ?_
      refine R_iconst (v := 1) (dd dt_12_pit 93 rfl) ic_1 ?_
      refine R_iadd (dd dt_12_pit 94 rfl) ?_
      refine R_iload (dd dt_12_pit 95 rfl) rfl ?_
      refine R_iadd (dd dt_12_pit 96 rfl) ?_
      refine R_iconst (v := 0) (dd dt_12_pit 97 rfl) ic_0 ?_
      obtain ⟨μ1, e2, h⟩ := bi_el h
      refine R_isto e2 (ty_12_0 k0) (dd dt_12_pit 98 rfl) ?_
      refine R_iinc (v := 1) (lv' := [some (.ref a0), none, none, none, none, some (.int a5), some (.int (v6 + 1))]) (dd dt_12_pit 99 rfl) (by decide) rfl rfl ic_1 rfl ?_
      refine R_goto (dd dt_12_pit 100 rfl) (tgt := 153) rfl ?_
      exact R_mask [true, false, false, false, false, true, true] rfl (ok_12_pit_l153 a0 a5 k0 n (v6 + 1) μ1 _ h KX)
def f_12_pit (a0 : Nat) (a1 : Int32) (a2 : Int32) (a3 : Int32) (a4 : Int32) (μ : mm) : Option (Int32 × mm) :=
  (f_12_is a0 a1 8 μ).bind fun x2 =>
  if x2 = 0 then
    some ((-1), μ)
  else
    (f_12_within a2 1 50 μ).bind fun x4 =>
    if x4 = 0 then
      some ((-1), μ)
    else
      (f_12_within a3 0 50 μ).bind fun x6 =>
      if x6 = 0 then
        some ((-1), μ)
      else
        (f_12_within a4 1 9999 μ).bind fun x8 =>
        if x8 = 0 then
          some ((-1), μ)
        else
          (ld μ (rf a0 0) 9).bind fun x9 =>
          if x9 = 4 then
            some ((-2), μ)
          else
            (f_12_ofPit x9 0 μ).bind fun x12 =>
            (sto μ (rf a0 0) x12 a1).bind fun μ13 =>
            (f_12_ofPit x9 1 μ13).bind fun x16 =>
            (sto μ13 (rf a0 0) x16 0).bind fun μ17 =>
            (f_12_ofPit x9 2 μ17).bind fun x20 =>
            (sto μ17 (rf a0 0) x20 a2).bind fun μ21 =>
            (f_12_ofPit x9 3 μ21).bind fun x24 =>
            (sto μ21 (rf a0 0) x24 a3).bind fun μ25 =>
            (f_12_ofPit x9 4 μ25).bind fun x28 =>
            (sto μ25 (rf a0 0) x28 a4).bind fun μ29 =>
            (f_12_ofPit x9 5 μ29).bind fun x32 =>
            (sto μ29 (rf a0 0) x32 (-3)).bind fun μ33 =>
            (f_12_ofPit x9 6 μ33).bind fun x36 =>
            (sto μ33 (rf a0 0) x36 50).bind fun μ37 =>
            (f_12_pit_l153 a0 x9 FU 0 μ37).bind fun z39 =>
            (ld z39 (rf a0 0) 9).bind fun x41 =>
            (sto z39 (rf a0 0) 9 (x41 + 1)).bind fun μ43 =>
            some (x9, μ43)
set_option maxRecDepth 100000 in
set_option maxHeartbeats 4000000 in
theorem ok_12_pit {l : Launch} {E : ce} {d : Nat}  {a0 : Nat} {a1 : Int32} {a2 : Int32} {a3 : Int32} {a4 : Int32} {μ : mm} {r : Int32 × mm} {Q : Option Value → mm → Prop} (h : f_12_pit a0 a1 a2 a3 a4 μ = some r) (k0 : kd a0 = 12) (hQ : Q (some (.int r.1)) r.2) : Ct l E (d + 2) yX12_pit m_12_pit [.ref a0, .int a1, .int a2, .int a3, .int a4] μ Q := by
  refine Ct_of (lv := [some (.ref a0), some (.int a1), some (.int a2), some (.int a3), some (.int a4), none, none]) (by decide) rfl (Nat.le_of_ble_eq_true rfl) rfl ?_
  unfold f_12_pit at h
  refine R_aload_n (dd dt_12_pit 0 rfl) 0 rfl rfl ?_
  refine R_iload_n (dd dt_12_pit 1 rfl) 1 rfl rfl ?_
  refine R_bipush (v := 8) (dd dt_12_pit 2 rfl) bp_8 ?_
  obtain ⟨x2, e1, h⟩ := bi_el h
  refine c_12_84 (As := [.int a1, .int 8]) (st1 := [.int x2]) rfl (fun Q1 hq => ok_12_is e1 k0 hq) k0 rfl rfl (Nat.le_of_ble_eq_true rfl) (dd dt_12_pit 3 rfl) rfl ?_
  refine R_ifeq (dd dt_12_pit 4 rfl) (tgt := 42) rfl (fun hc => ?_) (fun hc => ?_)
  · rw [if_pos hc] at h
    refine R_iconst (v := (-1)) (dd dt_12_pit 20 rfl) ic_m1 ?_
    obtain rfl := Option.some.inj h
    exact R_iret rfl (dd dt_12_pit 21 rfl) hQ
  · rw [if_neg hc] at h
    refine R_iload_n (dd dt_12_pit 5 rfl) 2 rfl rfl ?_
    refine R_iconst (v := 1) (dd dt_12_pit 6 rfl) ic_1 ?_
    refine R_bipush (v := 50) (dd dt_12_pit 7 rfl) bp_50 ?_
    obtain ⟨x4, e3, h⟩ := bi_el h
    refine c_12_80 (As := [.int a2, .int 1, .int 50]) (st1 := [.int x4]) rfl (fun Q1 hq => ok_12_within e3 hq) rfl rfl (Nat.le_of_ble_eq_true rfl) (dd dt_12_pit 8 rfl) rfl ?_
    refine R_ifeq (dd dt_12_pit 9 rfl) (tgt := 42) rfl (fun hc => ?_) (fun hc => ?_)
    · rw [if_pos hc] at h
      refine R_iconst (v := (-1)) (dd dt_12_pit 20 rfl) ic_m1 ?_
      obtain rfl := Option.some.inj h
      exact R_iret rfl (dd dt_12_pit 21 rfl) hQ
    · rw [if_neg hc] at h
      refine R_iload_n (dd dt_12_pit 10 rfl) 3 rfl rfl ?_
      refine R_iconst (v := 0) (dd dt_12_pit 11 rfl) ic_0 ?_
      refine R_bipush (v := 50) (dd dt_12_pit 12 rfl) bp_50 ?_
      obtain ⟨x6, e5, h⟩ := bi_el h
      refine c_12_80 (As := [.int a3, .int 0, .int 50]) (st1 := [.int x6]) rfl (fun Q1 hq => ok_12_within e5 hq) rfl rfl (Nat.le_of_ble_eq_true rfl) (dd dt_12_pit 13 rfl) rfl ?_
      refine R_ifeq (dd dt_12_pit 14 rfl) (tgt := 42) rfl (fun hc => ?_) (fun hc => ?_)
      · rw [if_pos hc] at h
        refine R_iconst (v := (-1)) (dd dt_12_pit 20 rfl) ic_m1 ?_
        obtain rfl := Option.some.inj h
        exact R_iret rfl (dd dt_12_pit 21 rfl) hQ
      · rw [if_neg hc] at h
        refine R_iload (dd dt_12_pit 15 rfl) rfl ?_
        refine R_iconst (v := 1) (dd dt_12_pit 16 rfl) ic_1 ?_
        refine R_sipush (v := 9999) (dd dt_12_pit 17 rfl) sp_9999 ?_
        obtain ⟨x8, e7, h⟩ := bi_el h
        refine c_12_80 (As := [.int a4, .int 1, .int 9999]) (st1 := [.int x8]) rfl (fun Q1 hq => ok_12_within e7 hq) rfl rfl (Nat.le_of_ble_eq_true rfl) (dd dt_12_pit 18 rfl) rfl ?_
        refine R_ifne (dd dt_12_pit 19 rfl) (tgt := 44) rfl (fun hc => ?_) (fun hc => ?_)
        · rw [if_neg hc] at h
          refine R_aload_n (dd dt_12_pit 22 rfl) 0 rfl rfl ?_
          refine g_12_9 rfl k0 (dd dt_12_pit 23 rfl) ?_
          refine R_bipush (v := 9) (dd dt_12_pit 24 rfl) bp_9 ?_
          obtain ⟨x9, e10, h⟩ := bi_el h
          refine R_ild e10 (ty_12_0 k0) (dd dt_12_pit 25 rfl) ?_
          refine R_istore (lv' := [some (.ref a0), some (.int a1), some (.int a2), some (.int a3), some (.int a4), some (.int x9), none]) (dd dt_12_pit 26 rfl) (by decide) rfl rfl ?_
          refine R_iload (dd dt_12_pit 27 rfl) rfl ?_
          refine R_iconst (v := 4) (dd dt_12_pit 28 rfl) ic_4 ?_
          refine R_cmpne (dd dt_12_pit 29 rfl) (tgt := 62) rfl (fun hc => ?_) (fun hc => ?_)
          · rw [if_neg hc] at h
            refine R_aload_n (dd dt_12_pit 32 rfl) 0 rfl rfl ?_
            refine g_12_9 rfl k0 (dd dt_12_pit 33 rfl) ?_
            refine R_iload (dd dt_12_pit 34 rfl) rfl ?_
            refine R_iconst (v := 0) (dd dt_12_pit 35 rfl) ic_0 ?_
            obtain ⟨x12, e11, h⟩ := bi_el h
            refine c_12_92 (As := [.int x9, .int 0]) (st1 := [.int x12, .ref (rf a0 0)]) rfl (fun Q1 hq => ok_12_ofPit e11 hq) rfl rfl (Nat.le_of_ble_eq_true rfl) (dd dt_12_pit 36 rfl) rfl ?_
            refine R_iload_n (dd dt_12_pit 37 rfl) 1 rfl rfl ?_
            obtain ⟨μ13, e14, h⟩ := bi_el h
            refine R_isto e14 (ty_12_0 k0) (dd dt_12_pit 38 rfl) ?_
            refine R_aload_n (dd dt_12_pit 39 rfl) 0 rfl rfl ?_
            refine g_12_9 rfl k0 (dd dt_12_pit 40 rfl) ?_
            refine R_iload (dd dt_12_pit 41 rfl) rfl ?_
            refine R_iconst (v := 1) (dd dt_12_pit 42 rfl) ic_1 ?_
            obtain ⟨x16, e15, h⟩ := bi_el h
            refine c_12_92 (As := [.int x9, .int 1]) (st1 := [.int x16, .ref (rf a0 0)]) rfl (fun Q1 hq => ok_12_ofPit e15 hq) rfl rfl (Nat.le_of_ble_eq_true rfl) (dd dt_12_pit 43 rfl) rfl ?_
            refine R_iconst (v := 0) (dd dt_12_pit 44 rfl) ic_0 ?_
            obtain ⟨μ17, e18, h⟩ := bi_el h
            refine R_isto e18 (ty_12_0 k0) (dd dt_12_pit 45 rfl) ?_
            refine R_aload_n (dd dt_12_pit 46 rfl) 0 rfl rfl ?_
            refine g_12_9 rfl k0 (dd dt_12_pit 47 rfl) ?_
            refine R_iload (dd dt_12_pit 48 rfl) rfl ?_
            refine R_iconst (v := 2) (dd dt_12_pit 49 rfl) ic_2 ?_
            obtain ⟨x20, e19, h⟩ := bi_el h
            refine c_12_92 (As := [.int x9, .int 2]) (st1 := [.int x20, .ref (rf a0 0)]) rfl (fun Q1 hq => ok_12_ofPit e19 hq) rfl rfl (Nat.le_of_ble_eq_true rfl) (dd dt_12_pit 50 rfl) rfl ?_
            refine R_iload_n (dd dt_12_pit 51 rfl) 2 rfl rfl ?_
            obtain ⟨μ21, e22, h⟩ := bi_el h
            refine R_isto e22 (ty_12_0 k0) (dd dt_12_pit 52 rfl) ?_
            refine R_aload_n (dd dt_12_pit 53 rfl) 0 rfl rfl ?_
            refine g_12_9 rfl k0 (dd dt_12_pit 54 rfl) ?_
            refine R_iload (dd dt_12_pit 55 rfl) rfl ?_
            refine R_iconst (v := 3) (dd dt_12_pit 56 rfl) ic_3 ?_
            obtain ⟨x24, e23, h⟩ := bi_el h
            refine c_12_92 (As := [.int x9, .int 3]) (st1 := [.int x24, .ref (rf a0 0)]) rfl (fun Q1 hq => ok_12_ofPit e23 hq) rfl rfl (Nat.le_of_ble_eq_true rfl) (dd dt_12_pit 57 rfl) rfl ?_
            refine R_iload_n (dd dt_12_pit 58 rfl) 3 rfl rfl ?_
            obtain ⟨μ25, e26, h⟩ := bi_el h
            refine R_isto e26 (ty_12_0 k0) (dd dt_12_pit 59 rfl) ?_
            refine R_aload_n (dd dt_12_pit 60 rfl) 0 rfl rfl ?_
            refine g_12_9 rfl k0 (dd dt_12_pit 61 rfl) ?_
            refine R_iload (dd dt_12_pit 62 rfl) rfl ?_
            refine R_iconst (v := 4) (dd dt_12_pit 63 rfl) ic_4 ?_
            obtain ⟨x28, e27, h⟩ := bi_el h
            refine c_12_92 (As := [.int x9, .int 4]) (st1 := [.int x28, .ref (rf a0 0)]) rfl (fun Q1 hq => ok_12_ofPit e27 hq) rfl rfl (Nat.le_of_ble_eq_true rfl) (dd dt_12_pit 64 rfl) rfl ?_
            refine R_iload (dd dt_12_pit 65 rfl) rfl ?_
            obtain ⟨μ29, e30, h⟩ := bi_el h
            refine R_isto e30 (ty_12_0 k0) (dd dt_12_pit 66 rfl) ?_
            refine R_aload_n (dd dt_12_pit 67 rfl) 0 rfl rfl ?_
            refine g_12_9 rfl k0 (dd dt_12_pit 68 rfl) ?_
            refine R_iload (dd dt_12_pit 69 rfl) rfl ?_
            refine R_iconst (v := 5) (dd dt_12_pit 70 rfl) ic_5 ?_
            obtain ⟨x32, e31, h⟩ := bi_el h
            refine c_12_92 (As := [.int x9, .int 5]) (st1 := [.int x32, .ref (rf a0 0)]) rfl (fun Q1 hq => ok_12_ofPit e31 hq) rfl rfl (Nat.le_of_ble_eq_true rfl) (dd dt_12_pit 71 rfl) rfl ?_
            refine R_bipush (v := (-3)) (dd dt_12_pit 72 rfl) bp_m3 ?_
            obtain ⟨μ33, e34, h⟩ := bi_el h
            refine R_isto e34 (ty_12_0 k0) (dd dt_12_pit 73 rfl) ?_
            refine R_aload_n (dd dt_12_pit 74 rfl) 0 rfl rfl ?_
            refine g_12_9 rfl k0 (dd dt_12_pit 75 rfl) ?_
            refine R_iload (dd dt_12_pit 76 rfl) rfl ?_
            refine R_bipush (v := 6) (dd dt_12_pit 77 rfl) bp_6 ?_
            obtain ⟨x36, e35, h⟩ := bi_el h
            refine c_12_92 (As := [.int x9, .int 6]) (st1 := [.int x36, .ref (rf a0 0)]) rfl (fun Q1 hq => ok_12_ofPit e35 hq) rfl rfl (Nat.le_of_ble_eq_true rfl) (dd dt_12_pit 78 rfl) rfl ?_
            refine R_bipush (v := 50) (dd dt_12_pit 79 rfl) bp_50 ?_
            obtain ⟨μ37, e38, h⟩ := bi_el h
            refine R_isto e38 (ty_12_0 k0) (dd dt_12_pit 80 rfl) ?_
            refine R_iconst (v := 0) (dd dt_12_pit 81 rfl) ic_0 ?_
            refine R_istore (lv' := [some (.ref a0), some (.int a1), some (.int a2), some (.int a3), some (.int a4), some (.int x9), some (.int 0)]) (dd dt_12_pit 82 rfl) (by decide) rfl rfl ?_
            obtain ⟨z39, e40, h⟩ := bi_el h
            refine R_mask [true, false, false, false, false, true, true] rfl (ok_12_pit_l153 a0 x9 k0 FU 0 μ37 _ e40 ?_)
            refine R_aload_n (dd dt_12_pit 101 rfl) 0 rfl rfl ?_
            refine g_12_9 rfl k0 (dd dt_12_pit 102 rfl) ?_
            refine R_bipush (v := 9) (dd dt_12_pit 103 rfl) bp_9 ?_
            refine R_dup2 (dd dt_12_pit 104 rfl) rfl rfl ?_
            obtain ⟨x41, e42, h⟩ := bi_el h
            refine R_ild e42 (ty_12_0 k0) (dd dt_12_pit 105 rfl) ?_
            refine R_iconst (v := 1) (dd dt_12_pit 106 rfl) ic_1 ?_
            refine R_iadd (dd dt_12_pit 107 rfl) ?_
            obtain ⟨μ43, e44, h⟩ := bi_el h
            refine R_isto e44 (ty_12_0 k0) (dd dt_12_pit 108 rfl) ?_
            refine R_iload (dd dt_12_pit 109 rfl) rfl ?_
            obtain rfl := Option.some.inj h
            exact R_iret rfl (dd dt_12_pit 110 rfl) hQ
          · rw [if_pos hc] at h
            refine R_bipush (v := (-2)) (dd dt_12_pit 30 rfl) bp_m2 ?_
            obtain rfl := Option.some.inj h
            exact R_iret rfl (dd dt_12_pit 31 rfl) hQ
        · rw [if_pos hc] at h
          refine R_iconst (v := (-1)) (dd dt_12_pit 20 rfl) ic_m1 ?_
          obtain rfl := Option.some.inj h
          exact R_iret rfl (dd dt_12_pit 21 rfl) hQ
/-! LongStrikeModel.ofShop(II)I -/
def tab_12_ofShop : List (Nat × Instr × Nat) := [(0, .bipush 84, 2), (2, .iconst 3, 1), (3, .iload_n 0, 1), (4, .imul, 1), (5, .iadd, 1), (6, .iload_n 1, 1), (7, .iadd, 1), (8, .ireturn, 1)]
set_option maxRecDepth 100000 in
theorem dt_12_ofShop : ∀ q ∈ tab_12_ofShop, decode m_12_ofShop.2.1 q.1 = .ok q.2 := by decide +kernel
def f_12_ofShop (a0 : Int32) (a1 : Int32) (μ : mm) : Option (Int32) :=
  some ((84 + (3 * a0)) + a1)
set_option maxRecDepth 100000 in
set_option maxHeartbeats 4000000 in
theorem ok_12_ofShop {l : Launch} {E : ce} {d : Nat}  {a0 : Int32} {a1 : Int32} {μ : mm} {r : Int32} {Q : Option Value → mm → Prop} (h : f_12_ofShop a0 a1 μ = some r)  (hQ : Q (some (.int r)) μ) : Ct l E d yX12_ofShop m_12_ofShop [.int a0, .int a1] μ Q := by
  refine Ct_of (lv := [some (.int a0), some (.int a1)]) (by decide) rfl (Nat.le_of_ble_eq_true rfl) rfl ?_
  unfold f_12_ofShop at h
  refine R_bipush (v := 84) (dd dt_12_ofShop 0 rfl) bp_84 ?_
  refine R_iconst (v := 3) (dd dt_12_ofShop 1 rfl) ic_3 ?_
  refine R_iload_n (dd dt_12_ofShop 2 rfl) 0 rfl rfl ?_
  refine R_imul (dd dt_12_ofShop 3 rfl) ?_
  refine R_iadd (dd dt_12_ofShop 4 rfl) ?_
  refine R_iload_n (dd dt_12_ofShop 5 rfl) 1 rfl rfl ?_
  refine R_iadd (dd dt_12_ofShop 6 rfl) ?_
  obtain rfl := Option.some.inj h
  exact R_iret rfl (dd dt_12_ofShop 7 rfl) hQ
/-! LongStrikeModel.shop(II)I -/
def tab_12_shop : List (Nat × Instr × Nat) := [(0, .aload_n 0, 1), (1, .iload_n 1, 1), (2, .bipush 8, 2), (4, .invokevirtual 84, 3), (7, .ifCond .eq 14, 3), (10, .iload_n 2, 1), (11, .iconst 0, 1), (12, .sipush 999, 3), (15, .invokestatic 80, 3), (18, .ifCond .ne 5, 3), (21, .iconst (-1), 1), (22, .ireturn, 1), (23, .aload_n 0, 1), (24, .getfield 9, 3), (27, .bipush 10, 2), (29, .iaload, 1), (30, .istore_n 3, 1), (31, .iload_n 3, 1), (32, .iconst 4, 1), (33, .if_icmp .ne 6, 3), (36, .bipush (-2), 2), (38, .ireturn, 1), (39, .aload_n 0, 1), (40, .getfield 9, 3), (43, .iload_n 3, 1), (44, .iconst 0, 1), (45, .invokestatic 95, 3), (48, .iload_n 1, 1), (49, .iastore, 1), (50, .aload_n 0, 1), (51, .getfield 9, 3), (54, .iload_n 3, 1), (55, .iconst 1, 1), (56, .invokestatic 95, 3), (59, .iload_n 2, 1), (60, .iastore, 1), (61, .aload_n 0, 1), (62, .getfield 9, 3), (65, .iload_n 3, 1), (66, .iconst 2, 1), (67, .invokestatic 95, 3), (70, .iconst 0, 1), (71, .iastore, 1), (72, .aload_n 0, 1), (73, .getfield 9, 3), (76, .bipush 10, 2), (78, .dup2, 1), (79, .iaload, 1), (80, .iconst 1, 1), (81, .iadd, 1), (82, .iastore, 1), (83, .iload_n 3, 1), (84, .ireturn, 1)]
set_option maxRecDepth 100000 in
theorem dt_12_shop : ∀ q ∈ tab_12_shop, decode m_12_shop.2.1 q.1 = .ok q.2 := by decide +kernel
def f_12_shop (a0 : Nat) (a1 : Int32) (a2 : Int32) (μ : mm) : Option (Int32 × mm) :=
  (f_12_is a0 a1 8 μ).bind fun x2 =>
  if x2 = 0 then
    some ((-1), μ)
  else
    (f_12_within a2 0 999 μ).bind fun x4 =>
    if x4 = 0 then
      some ((-1), μ)
    else
      (ld μ (rf a0 0) 10).bind fun x5 =>
      if x5 = 4 then
        some ((-2), μ)
      else
        (f_12_ofShop x5 0 μ).bind fun x8 =>
        (sto μ (rf a0 0) x8 a1).bind fun μ9 =>
        (f_12_ofShop x5 1 μ9).bind fun x12 =>
        (sto μ9 (rf a0 0) x12 a2).bind fun μ13 =>
        (f_12_ofShop x5 2 μ13).bind fun x16 =>
        (sto μ13 (rf a0 0) x16 0).bind fun μ17 =>
        (ld μ17 (rf a0 0) 10).bind fun x19 =>
        (sto μ17 (rf a0 0) 10 (x19 + 1)).bind fun μ21 =>
        some (x5, μ21)
set_option maxRecDepth 100000 in
set_option maxHeartbeats 4000000 in
theorem ok_12_shop {l : Launch} {E : ce} {d : Nat}  {a0 : Nat} {a1 : Int32} {a2 : Int32} {μ : mm} {r : Int32 × mm} {Q : Option Value → mm → Prop} (h : f_12_shop a0 a1 a2 μ = some r) (k0 : kd a0 = 12) (hQ : Q (some (.int r.1)) r.2) : Ct l E (d + 2) yX12_shop m_12_shop [.ref a0, .int a1, .int a2] μ Q := by
  refine Ct_of (lv := [some (.ref a0), some (.int a1), some (.int a2), none]) (by decide) rfl (Nat.le_of_ble_eq_true rfl) rfl ?_
  unfold f_12_shop at h
  refine R_aload_n (dd dt_12_shop 0 rfl) 0 rfl rfl ?_
  refine R_iload_n (dd dt_12_shop 1 rfl) 1 rfl rfl ?_
  refine R_bipush (v := 8) (dd dt_12_shop 2 rfl) bp_8 ?_
  obtain ⟨x2, e1, h⟩ := bi_el h
  refine c_12_84 (As := [.int a1, .int 8]) (st1 := [.int x2]) rfl (fun Q1 hq => ok_12_is e1 k0 hq) k0 rfl rfl (Nat.le_of_ble_eq_true rfl) (dd dt_12_shop 3 rfl) rfl ?_
  refine R_ifeq (dd dt_12_shop 4 rfl) (tgt := 21) rfl (fun hc => ?_) (fun hc => ?_)
  · rw [if_pos hc] at h
    refine R_iconst (v := (-1)) (dd dt_12_shop 10 rfl) ic_m1 ?_
    obtain rfl := Option.some.inj h
    exact R_iret rfl (dd dt_12_shop 11 rfl) hQ
  · rw [if_neg hc] at h
    refine R_iload_n (dd dt_12_shop 5 rfl) 2 rfl rfl ?_
    refine R_iconst (v := 0) (dd dt_12_shop 6 rfl) ic_0 ?_
    refine R_sipush (v := 999) (dd dt_12_shop 7 rfl) sp_999 ?_
    obtain ⟨x4, e3, h⟩ := bi_el h
    refine c_12_80 (As := [.int a2, .int 0, .int 999]) (st1 := [.int x4]) rfl (fun Q1 hq => ok_12_within e3 hq) rfl rfl (Nat.le_of_ble_eq_true rfl) (dd dt_12_shop 8 rfl) rfl ?_
    refine R_ifne (dd dt_12_shop 9 rfl) (tgt := 23) rfl (fun hc => ?_) (fun hc => ?_)
    · rw [if_neg hc] at h
      refine R_aload_n (dd dt_12_shop 12 rfl) 0 rfl rfl ?_
      refine g_12_9 rfl k0 (dd dt_12_shop 13 rfl) ?_
      refine R_bipush (v := 10) (dd dt_12_shop 14 rfl) bp_10 ?_
      obtain ⟨x5, e6, h⟩ := bi_el h
      refine R_ild e6 (ty_12_0 k0) (dd dt_12_shop 15 rfl) ?_
      refine R_istore_n (lv' := [some (.ref a0), some (.int a1), some (.int a2), some (.int x5)]) (dd dt_12_shop 16 rfl) 3 rfl (by decide) rfl rfl ?_
      refine R_iload_n (dd dt_12_shop 17 rfl) 3 rfl rfl ?_
      refine R_iconst (v := 4) (dd dt_12_shop 18 rfl) ic_4 ?_
      refine R_cmpne (dd dt_12_shop 19 rfl) (tgt := 39) rfl (fun hc => ?_) (fun hc => ?_)
      · rw [if_neg hc] at h
        refine R_aload_n (dd dt_12_shop 22 rfl) 0 rfl rfl ?_
        refine g_12_9 rfl k0 (dd dt_12_shop 23 rfl) ?_
        refine R_iload_n (dd dt_12_shop 24 rfl) 3 rfl rfl ?_
        refine R_iconst (v := 0) (dd dt_12_shop 25 rfl) ic_0 ?_
        obtain ⟨x8, e7, h⟩ := bi_el h
        refine c_12_95 (As := [.int x5, .int 0]) (st1 := [.int x8, .ref (rf a0 0)]) rfl (fun Q1 hq => ok_12_ofShop e7 hq) rfl rfl (Nat.le_of_ble_eq_true rfl) (dd dt_12_shop 26 rfl) rfl ?_
        refine R_iload_n (dd dt_12_shop 27 rfl) 1 rfl rfl ?_
        obtain ⟨μ9, e10, h⟩ := bi_el h
        refine R_isto e10 (ty_12_0 k0) (dd dt_12_shop 28 rfl) ?_
        refine R_aload_n (dd dt_12_shop 29 rfl) 0 rfl rfl ?_
        refine g_12_9 rfl k0 (dd dt_12_shop 30 rfl) ?_
        refine R_iload_n (dd dt_12_shop 31 rfl) 3 rfl rfl ?_
        refine R_iconst (v := 1) (dd dt_12_shop 32 rfl) ic_1 ?_
        obtain ⟨x12, e11, h⟩ := bi_el h
        refine c_12_95 (As := [.int x5, .int 1]) (st1 := [.int x12, .ref (rf a0 0)]) rfl (fun Q1 hq => ok_12_ofShop e11 hq) rfl rfl (Nat.le_of_ble_eq_true rfl) (dd dt_12_shop 33 rfl) rfl ?_
        refine R_iload_n (dd dt_12_shop 34 rfl) 2 rfl rfl ?_
        obtain ⟨μ13, e14, h⟩ := bi_el h
        refine R_isto e14 (ty_12_0 k0) (dd dt_12_shop 35 rfl) ?_
        refine R_aload_n (dd dt_12_shop 36 rfl) 0 rfl rfl ?_
        refine g_12_9 rfl k0 (dd dt_12_shop 37 rfl) ?_
        refine R_iload_n (dd dt_12_shop 38 rfl) 3 rfl rfl ?_
        refine R_iconst (v := 2) (dd dt_12_shop 39 rfl) ic_2 ?_
        obtain ⟨x16, e15, h⟩ := bi_el h
        refine c_12_95 (As := [.int x5, .int 2]) (st1 := [.int x16, .ref (rf a0 0)]) rfl (fun Q1 hq => ok_12_ofShop e15 hq) rfl rfl (Nat.le_of_ble_eq_true rfl) (dd dt_12_shop 40 rfl) rfl ?_
        refine R_iconst (v := 0) (dd dt_12_shop 41 rfl) ic_0 ?_
        obtain ⟨μ17, e18, h⟩ := bi_el h
        refine R_isto e18 (ty_12_0 k0) (dd dt_12_shop 42 rfl) ?_
        refine R_aload_n (dd dt_12_shop 43 rfl) 0 rfl rfl ?_
        refine g_12_9 rfl k0 (dd dt_12_shop 44 rfl) ?_
        refine R_bipush (v := 10) (dd dt_12_shop 45 rfl) bp_10 ?_
        refine R_dup2 (dd dt_12_shop 46 rfl) rfl rfl ?_
        obtain ⟨x19, e20, h⟩ := bi_el h
        refine R_ild e20 (ty_12_0 k0) (dd dt_12_shop 47 rfl) ?_
        refine R_iconst (v := 1) (dd dt_12_shop 48 rfl) ic_1 ?_
        refine R_iadd (dd dt_12_shop 49 rfl) ?_
        obtain ⟨μ21, e22, h⟩ := bi_el h
        refine R_isto e22 (ty_12_0 k0) (dd dt_12_shop 50 rfl) ?_
        refine R_iload_n (dd dt_12_shop 51 rfl) 3 rfl rfl ?_
        obtain rfl := Option.some.inj h
        exact R_iret rfl (dd dt_12_shop 52 rfl) hQ
      · rw [if_pos hc] at h
        refine R_bipush (v := (-2)) (dd dt_12_shop 20 rfl) bp_m2 ?_
        obtain rfl := Option.some.inj h
        exact R_iret rfl (dd dt_12_shop 21 rfl) hQ
    · rw [if_pos hc] at h
      refine R_iconst (v := (-1)) (dd dt_12_shop 10 rfl) ic_m1 ?_
      obtain rfl := Option.some.inj h
      exact R_iret rfl (dd dt_12_shop 11 rfl) hQ
/-! LongStrikeModel.household(IIIII)I -/
def tab_12_household : List (Nat × Instr × Nat) := [(0, .aload_n 0, 1), (1, .iload_n 1, 1), (2, .bipush 8, 2), (4, .invokevirtual 84, 3), (7, .ifCond .eq 27, 3), (10, .aload_n 0, 1), (11, .iload_n 2, 1), (12, .bipush 9, 2), (14, .invokevirtual 84, 3), (17, .ifCond .eq 17, 3), (20, .iload_n 3, 1), (21, .iconst 1, 1), (22, .bipush 9, 2), (24, .invokestatic 80, 3), (27, .ifCond .eq 7, 3), (30, .iconst 1, 1), (31, .goto 4, 3), (34, .iconst 0, 1), (35, .istore 6, 2), (37, .iload 6, 2), (39, .ifCond .eq 26, 3), (42, .iload 4, 2), (44, .iconst 0, 1), (45, .sipush 9999, 3), (48, .invokestatic 80, 3), (51, .ifCond .eq 14, 3), (54, .iload 5, 2), (56, .iconst 0, 1), (57, .bipush 99, 2), (59, .invokestatic 80, 3), (62, .ifCond .ne 5, 3), (65, .iconst (-1), 1), (66, .ireturn, 1), (67, .aload_n 0, 1), (68, .getfield 9, 3), (71, .bipush 11, 2), (73, .iaload, 1), (74, .istore 7, 2), (76, .iload 7, 2), (78, .bipush 16, 2), (80, .if_icmp .ne 6, 3), (83, .bipush (-2), 2), (85, .ireturn, 1), (86, .bipush 96, 2), (88, .bipush 12, 2), (90, .iload 7, 2), (92, .imul, 1), (93, .iadd, 1), (94, .istore 8, 2), (96, .iconst 0, 1), (97, .istore 9, 2), (99, .iload 9, 2), (101, .bipush 12, 2), (103, .if_icmp .ge 20, 3), (106, .aload_n 0, 1), (107, .getfield 9, 3), (110, .iload 8, 2), (112, .iload 9, 2), (114, .iadd, 1), (115, .iconst 0, 1), (116, .iastore, 1), (117, .iinc 9 1, 3), (120, .goto (-21), 3), (123, .aload_n 0, 1), (124, .getfield 9, 3), (127, .iload 8, 2), (129, .iconst 0, 1), (130, .iadd, 1), (131, .iload_n 1, 1), (132, .iastore, 1), (133, .aload_n 0, 1), (134, .getfield 9, 3), (137, .iload 8, 2), (139, .iconst 1, 1), (140, .iadd, 1), (141, .iload_n 2, 1), (142, .iastore, 1), (143, .aload_n 0, 1), (144, .getfield 9, 3), (147, .iload 8, 2), (149, .iconst 2, 1), (150, .iadd, 1), (151, .iload_n 3, 1), (152, .iastore, 1), (153, .aload_n 0, 1), (154, .getfield 9, 3), (157, .iload 8, 2), (159, .iconst 3, 1), (160, .iadd, 1), (161, .iload 4, 2), (163, .sipush 1000, 3), (166, .idiv, 1), (167, .iastore, 1), (168, .aload_n 0, 1), (169, .getfield 9, 3), (172, .iload 8, 2), (174, .iconst 4, 1), (175, .iadd, 1), (176, .iload 4, 2), (178, .bipush 10, 2), (180, .idiv, 1), (181, .bipush 100, 2), (183, .irem, 1), (184, .iastore, 1), (185, .aload_n 0, 1), (186, .getfield 9, 3), (189, .iload 8, 2), (191, .iconst 5, 1), (192, .iadd, 1), (193, .iload 5, 2), (195, .iastore, 1), (196, .aload_n 0, 1), (197, .getfield 9, 3), (200, .bipush 11, 2), (202, .dup2, 1), (203, .iaload, 1), (204, .iconst 1, 1), (205, .iadd, 1), (206, .iastore, 1), (207, .iload 7, 2), (209, .ireturn, 1)]
set_option maxRecDepth 100000 in
theorem dt_12_household : ∀ q ∈ tab_12_household, decode m_12_household.2.1 q.1 = .ok q.2 := by decide +kernel
def f_12_household_l99 (a0 : Nat) (a1 : Int32) (a2 : Int32) (a3 : Int32) (a4 : Int32) (a5 : Int32) (a7 : Int32) (a8 : Int32) : Nat → Int32 → mm → Option (mm)
  | 0, _, _ => none
  | n + 1, v9, μ => if 12 ≤ v9 then
      some μ
    else
      (sto μ (rf a0 0) (a8 + v9) 0).bind fun μ1 =>
      f_12_household_l99 a0 a1 a2 a3 a4 a5 a7 a8 n (v9 + 1) μ1
set_option maxRecDepth 100000 in
theorem ok_12_household_l99 {l : Launch} {E : ce} {d : Nat} {Q : Option Value → mm → Prop} (a0 : Nat) (a1 : Int32) (a2 : Int32) (a3 : Int32) (a4 : Int32) (a5 : Int32) (a7 : Int32) (a8 : Int32) (k0 : kd a0 = 12) : ∀ (n : Nat) (v9 : Int32) (μ : mm) (z : mm), f_12_household_l99 a0 a1 a2 a3 a4 a5 a7 a8 n v9 μ = some z → Rj l E (d + 2) m_12_household 123 [some (.ref a0), some (.int a1), some (.int a2), some (.int a3), some (.int a4), some (.int a5), none, some (.int a7), some (.int a8), none] [] z Q → Rj l E (d + 2) m_12_household 99 [some (.ref a0), some (.int a1), some (.int a2), some (.int a3), some (.int a4), some (.int a5), none, some (.int a7), some (.int a8), some (.int v9)] [] μ Q
  | 0, _, _, z, h, _ => by
    rw [f_12_household_l99] at h
    cases h
  | n + 1, v9, μ, z, h, KX => by
    rw [f_12_household_l99] at h
    refine R_iload (dd dt_12_household 51 rfl) rfl ?_
    refine R_bipush (v := 12) (dd dt_12_household 52 rfl) bp_12 ?_
    refine R_cmpge (dd dt_12_household 53 rfl) (tgt := 123) rfl (fun hc => ?_) (fun hc => ?_)
    · rw [if_pos hc] at h
      obtain rfl := Option.some.inj h
      exact R_mask [true, true, true, true, true, true, false, true, true, false] rfl KX
    · rw [if_neg hc] at h
      refine R_aload_n (dd dt_12_household 54 rfl) 0 rfl rfl ?_
      refine g_12_9 rfl k0 (dd dt_12_household 55 rfl) ?_
      refine R_iload (dd dt_12_household 56 rfl) rfl ?_
      refine R_iload (dd dt_12_household 57 rfl) rfl ?_
      refine R_iadd (dd dt_12_household 58 rfl) ?_
      refine R_iconst (v := 0) (dd dt_12_household 59 rfl) ic_0 ?_
      obtain ⟨μ1, e2, h⟩ := bi_el h
      refine R_isto e2 (ty_12_0 k0) (dd dt_12_household 60 rfl) ?_
      refine R_iinc (v := 1) (lv' := [some (.ref a0), some (.int a1), some (.int a2), some (.int a3), some (.int a4), some (.int a5), none, some (.int a7), some (.int a8), some (.int (v9 + 1))]) (dd dt_12_household 61 rfl) (by decide) rfl rfl ic_1 rfl ?_
      refine R_goto (dd dt_12_household 62 rfl) (tgt := 99) rfl ?_
      exact R_mask [true, true, true, true, true, true, false, true, true, true] rfl (ok_12_household_l99 a0 a1 a2 a3 a4 a5 a7 a8 k0 n (v9 + 1) μ1 _ h KX)
def f_12_household (a0 : Nat) (a1 : Int32) (a2 : Int32) (a3 : Int32) (a4 : Int32) (a5 : Int32) (μ : mm) : Option (Int32 × mm) :=
  (f_12_is a0 a1 8 μ).bind fun x2 =>
  (if x2 = 0 then
      some 0
    else
      (f_12_is a0 a2 9 μ).bind fun x4 =>
      if x4 = 0 then
        some 0
      else
        (f_12_within a3 1 9 μ).bind fun x6 =>
        if x6 = 0 then
          some 0
        else
          some 1).bind fun (z7 : Int32) =>
  if z7 = 0 then
    some ((-1), μ)
  else
    (f_12_within a4 0 9999 μ).bind fun x9 =>
    if x9 = 0 then
      some ((-1), μ)
    else
      (f_12_within a5 0 99 μ).bind fun x11 =>
      if x11 = 0 then
        some ((-1), μ)
      else
        (ld μ (rf a0 0) 11).bind fun x12 =>
        if x12 = 16 then
          some ((-2), μ)
        else
          (f_12_household_l99 a0 a1 a2 a3 a4 a5 x12 (96 + (12 * x12)) FU 0 μ).bind fun z14 =>
          (sto z14 (rf a0 0) ((96 + (12 * x12)) + 0) a1).bind fun μ16 =>
          (sto μ16 (rf a0 0) ((96 + (12 * x12)) + 1) a2).bind fun μ18 =>
          (sto μ18 (rf a0 0) ((96 + (12 * x12)) + 2) a3).bind fun μ20 =>
          (sto μ20 (rf a0 0) ((96 + (12 * x12)) + 3) (a4 / 1000)).bind fun μ22 =>
          (sto μ22 (rf a0 0) ((96 + (12 * x12)) + 4) ((a4 / 10) - (a4 / 10) / 100 * 100)).bind fun μ24 =>
          (sto μ24 (rf a0 0) ((96 + (12 * x12)) + 5) a5).bind fun μ26 =>
          (ld μ26 (rf a0 0) 11).bind fun x28 =>
          (sto μ26 (rf a0 0) 11 (x28 + 1)).bind fun μ30 =>
          some (x12, μ30)
set_option maxRecDepth 100000 in
set_option maxHeartbeats 4000000 in
theorem ok_12_household {l : Launch} {E : ce} {d : Nat}  {a0 : Nat} {a1 : Int32} {a2 : Int32} {a3 : Int32} {a4 : Int32} {a5 : Int32} {μ : mm} {r : Int32 × mm} {Q : Option Value → mm → Prop} (h : f_12_household a0 a1 a2 a3 a4 a5 μ = some r) (k0 : kd a0 = 12) (hQ : Q (some (.int r.1)) r.2) : Ct l E (d + 2) yX12_household m_12_household [.ref a0, .int a1, .int a2, .int a3, .int a4, .int a5] μ Q := by
  refine Ct_of (lv := [some (.ref a0), some (.int a1), some (.int a2), some (.int a3), some (.int a4), some (.int a5), none, none, none, none]) (by decide) rfl (Nat.le_of_ble_eq_true rfl) rfl ?_
  unfold f_12_household at h
  refine R_aload_n (dd dt_12_household 0 rfl) 0 rfl rfl ?_
  refine R_iload_n (dd dt_12_household 1 rfl) 1 rfl rfl ?_
  refine R_bipush (v := 8) (dd dt_12_household 2 rfl) bp_8 ?_
  obtain ⟨x2, e1, h⟩ := bi_el h
  refine c_12_84 (As := [.int a1, .int 8]) (st1 := [.int x2]) rfl (fun Q1 hq => ok_12_is e1 k0 hq) k0 rfl rfl (Nat.le_of_ble_eq_true rfl) (dd dt_12_household 3 rfl) rfl ?_
  obtain ⟨z7, hz7, h⟩ := bi_el h
  have K7 : Rj l E (d + 2) m_12_household 35 [some (.ref a0), some (.int a1), some (.int a2), some (.int a3), some (.int a4), some (.int a5), none, none, none, none] [.int z7] μ Q := by
    clear hz7
    refine R_istore (lv' := [some (.ref a0), some (.int a1), some (.int a2), some (.int a3), some (.int a4), some (.int a5), some (.int z7), none, none, none]) (dd dt_12_household 18 rfl) (by decide) rfl rfl ?_
    refine R_iload (dd dt_12_household 19 rfl) rfl ?_
    refine R_ifeq (dd dt_12_household 20 rfl) (tgt := 65) rfl (fun hc => ?_) (fun hc => ?_)
    · rw [if_pos hc] at h
      refine R_iconst (v := (-1)) (dd dt_12_household 31 rfl) ic_m1 ?_
      obtain rfl := Option.some.inj h
      exact R_iret rfl (dd dt_12_household 32 rfl) hQ
    · rw [if_neg hc] at h
      refine R_iload (dd dt_12_household 21 rfl) rfl ?_
      refine R_iconst (v := 0) (dd dt_12_household 22 rfl) ic_0 ?_
      refine R_sipush (v := 9999) (dd dt_12_household 23 rfl) sp_9999 ?_
      obtain ⟨x9, e8, h⟩ := bi_el h
      refine c_12_80 (As := [.int a4, .int 0, .int 9999]) (st1 := [.int x9]) rfl (fun Q1 hq => ok_12_within e8 hq) rfl rfl (Nat.le_of_ble_eq_true rfl) (dd dt_12_household 24 rfl) rfl ?_
      refine R_ifeq (dd dt_12_household 25 rfl) (tgt := 65) rfl (fun hc => ?_) (fun hc => ?_)
      · rw [if_pos hc] at h
        refine R_iconst (v := (-1)) (dd dt_12_household 31 rfl) ic_m1 ?_
        obtain rfl := Option.some.inj h
        exact R_iret rfl (dd dt_12_household 32 rfl) hQ
      · rw [if_neg hc] at h
        refine R_iload (dd dt_12_household 26 rfl) rfl ?_
        refine R_iconst (v := 0) (dd dt_12_household 27 rfl) ic_0 ?_
        refine R_bipush (v := 99) (dd dt_12_household 28 rfl) bp_99 ?_
        obtain ⟨x11, e10, h⟩ := bi_el h
        refine c_12_80 (As := [.int a5, .int 0, .int 99]) (st1 := [.int x11]) rfl (fun Q1 hq => ok_12_within e10 hq) rfl rfl (Nat.le_of_ble_eq_true rfl) (dd dt_12_household 29 rfl) rfl ?_
        refine R_ifne (dd dt_12_household 30 rfl) (tgt := 67) rfl (fun hc => ?_) (fun hc => ?_)
        · rw [if_neg hc] at h
          refine R_aload_n (dd dt_12_household 33 rfl) 0 rfl rfl ?_
          refine g_12_9 rfl k0 (dd dt_12_household 34 rfl) ?_
          refine R_bipush (v := 11) (dd dt_12_household 35 rfl) bp_11 ?_
          obtain ⟨x12, e13, h⟩ := bi_el h
          refine R_ild e13 (ty_12_0 k0) (dd dt_12_household 36 rfl) ?_
          refine R_istore (lv' := [some (.ref a0), some (.int a1), some (.int a2), some (.int a3), some (.int a4), some (.int a5), some (.int z7), some (.int x12), none, none]) (dd dt_12_household 37 rfl) (by decide) rfl rfl ?_
          refine R_iload (dd dt_12_household 38 rfl) rfl ?_
          refine R_bipush (v := 16) (dd dt_12_household 39 rfl) bp_16 ?_
          refine R_cmpne (dd dt_12_household 40 rfl) (tgt := 86) rfl (fun hc => ?_) (fun hc => ?_)
          · rw [if_neg hc] at h
            refine R_bipush (v := 96) (dd dt_12_household 43 rfl) bp_96 ?_
            refine R_bipush (v := 12) (dd dt_12_household 44 rfl) bp_12 ?_
            refine R_iload (dd dt_12_household 45 rfl) rfl ?_
            refine R_imul (dd dt_12_household 46 rfl) ?_
            refine R_iadd (dd dt_12_household 47 rfl) ?_
            refine R_istore (lv' := [some (.ref a0), some (.int a1), some (.int a2), some (.int a3), some (.int a4), some (.int a5), some (.int z7), some (.int x12), some (.int (96 + (12 * x12))), none]) (dd dt_12_household 48 rfl) (by decide) rfl rfl ?_
            refine R_iconst (v := 0) (dd dt_12_household 49 rfl) ic_0 ?_
            refine R_istore (lv' := [some (.ref a0), some (.int a1), some (.int a2), some (.int a3), some (.int a4), some (.int a5), some (.int z7), some (.int x12), some (.int (96 + (12 * x12))), some (.int 0)]) (dd dt_12_household 50 rfl) (by decide) rfl rfl ?_
            obtain ⟨z14, e15, h⟩ := bi_el h
            refine R_mask [true, true, true, true, true, true, false, true, true, true] rfl (ok_12_household_l99 a0 a1 a2 a3 a4 a5 x12 (96 + (12 * x12)) k0 FU 0 μ _ e15 ?_)
            refine R_aload_n (dd dt_12_household 63 rfl) 0 rfl rfl ?_
            refine g_12_9 rfl k0 (dd dt_12_household 64 rfl) ?_
            refine R_iload (dd dt_12_household 65 rfl) rfl ?_
            refine R_iconst (v := 0) (dd dt_12_household 66 rfl) ic_0 ?_
            refine R_iadd (dd dt_12_household 67 rfl) ?_
            refine R_iload_n (dd dt_12_household 68 rfl) 1 rfl rfl ?_
            obtain ⟨μ16, e17, h⟩ := bi_el h
            refine R_isto e17 (ty_12_0 k0) (dd dt_12_household 69 rfl) ?_
            refine R_aload_n (dd dt_12_household 70 rfl) 0 rfl rfl ?_
            refine g_12_9 rfl k0 (dd dt_12_household 71 rfl) ?_
            refine R_iload (dd dt_12_household 72 rfl) rfl ?_
            refine R_iconst (v := 1) (dd dt_12_household 73 rfl) ic_1 ?_
            refine R_iadd (dd dt_12_household 74 rfl) ?_
            refine R_iload_n (dd dt_12_household 75 rfl) 2 rfl rfl ?_
            obtain ⟨μ18, e19, h⟩ := bi_el h
            refine R_isto e19 (ty_12_0 k0) (dd dt_12_household 76 rfl) ?_
            refine R_aload_n (dd dt_12_household 77 rfl) 0 rfl rfl ?_
            refine g_12_9 rfl k0 (dd dt_12_household 78 rfl) ?_
            refine R_iload (dd dt_12_household 79 rfl) rfl ?_
            refine R_iconst (v := 2) (dd dt_12_household 80 rfl) ic_2 ?_
            refine R_iadd (dd dt_12_household 81 rfl) ?_
            refine R_iload_n (dd dt_12_household 82 rfl) 3 rfl rfl ?_
            obtain ⟨μ20, e21, h⟩ := bi_el h
            refine R_isto e21 (ty_12_0 k0) (dd dt_12_household 83 rfl) ?_
            refine R_aload_n (dd dt_12_household 84 rfl) 0 rfl rfl ?_
            refine g_12_9 rfl k0 (dd dt_12_household 85 rfl) ?_
            refine R_iload (dd dt_12_household 86 rfl) rfl ?_
            refine R_iconst (v := 3) (dd dt_12_household 87 rfl) ic_3 ?_
            refine R_iadd (dd dt_12_household 88 rfl) ?_
            refine R_iload (dd dt_12_household 89 rfl) rfl ?_
            refine R_sipush (v := 1000) (dd dt_12_household 90 rfl) sp_1000 ?_
            refine R_idiv (dd dt_12_household 91 rfl) (by decide) ?_
            obtain ⟨μ22, e23, h⟩ := bi_el h
            refine R_isto e23 (ty_12_0 k0) (dd dt_12_household 92 rfl) ?_
            refine R_aload_n (dd dt_12_household 93 rfl) 0 rfl rfl ?_
            refine g_12_9 rfl k0 (dd dt_12_household 94 rfl) ?_
            refine R_iload (dd dt_12_household 95 rfl) rfl ?_
            refine R_iconst (v := 4) (dd dt_12_household 96 rfl) ic_4 ?_
            refine R_iadd (dd dt_12_household 97 rfl) ?_
            refine R_iload (dd dt_12_household 98 rfl) rfl ?_
            refine R_bipush (v := 10) (dd dt_12_household 99 rfl) bp_10 ?_
            refine R_idiv (dd dt_12_household 100 rfl) (by decide) ?_
            refine R_bipush (v := 100) (dd dt_12_household 101 rfl) bp_100 ?_
            refine R_irem (dd dt_12_household 102 rfl) (by decide) ?_
            obtain ⟨μ24, e25, h⟩ := bi_el h
            refine R_isto e25 (ty_12_0 k0) (dd dt_12_household 103 rfl) ?_
            refine R_aload_n (dd dt_12_household 104 rfl) 0 rfl rfl ?_
            refine g_12_9 rfl k0 (dd dt_12_household 105 rfl) ?_
            refine R_iload (dd dt_12_household 106 rfl) rfl ?_
            refine R_iconst (v := 5) (dd dt_12_household 107 rfl) ic_5 ?_
            refine R_iadd (dd dt_12_household 108 rfl) ?_
            refine R_iload (dd dt_12_household 109 rfl) rfl ?_
            obtain ⟨μ26, e27, h⟩ := bi_el h
            refine R_isto e27 (ty_12_0 k0) (dd dt_12_household 110 rfl) ?_
            refine R_aload_n (dd dt_12_household 111 rfl) 0 rfl rfl ?_
            refine g_12_9 rfl k0 (dd dt_12_household 112 rfl) ?_
            refine R_bipush (v := 11) (dd dt_12_household 113 rfl) bp_11 ?_
            refine R_dup2 (dd dt_12_household 114 rfl) rfl rfl ?_
            obtain ⟨x28, e29, h⟩ := bi_el h
            refine R_ild e29 (ty_12_0 k0) (dd dt_12_household 115 rfl) ?_
            refine R_iconst (v := 1) (dd dt_12_household 116 rfl) ic_1 ?_
            refine R_iadd (dd dt_12_household 117 rfl) ?_
            obtain ⟨μ30, e31, h⟩ := bi_el h
            refine R_isto e31 (ty_12_0 k0) (dd dt_12_household 118 rfl) ?_
            refine R_iload (dd dt_12_household 119 rfl) rfl ?_
            obtain rfl := Option.some.inj h
            exact R_iret rfl (dd dt_12_household 120 rfl) hQ
          · rw [if_pos hc] at h
            refine R_bipush (v := (-2)) (dd dt_12_household 41 rfl) bp_m2 ?_
            obtain rfl := Option.some.inj h
            exact R_iret rfl (dd dt_12_household 42 rfl) hQ
        · rw [if_pos hc] at h
          refine R_iconst (v := (-1)) (dd dt_12_household 31 rfl) ic_m1 ?_
          obtain rfl := Option.some.inj h
          exact R_iret rfl (dd dt_12_household 32 rfl) hQ
  clear h
  have h := hz7
  clear hz7
  refine R_ifeq (dd dt_12_household 4 rfl) (tgt := 34) rfl (fun hc => ?_) (fun hc => ?_)
  · rw [if_pos hc] at h
    refine R_iconst (v := 0) (dd dt_12_household 17 rfl) ic_0 ?_
    obtain rfl := Option.some.inj h
    exact R_mask [true, true, true, true, true, true, false, false, false, false] rfl K7
  · rw [if_neg hc] at h
    refine R_aload_n (dd dt_12_household 5 rfl) 0 rfl rfl ?_
    refine R_iload_n (dd dt_12_household 6 rfl) 2 rfl rfl ?_
    refine R_bipush (v := 9) (dd dt_12_household 7 rfl) bp_9 ?_
    obtain ⟨x4, e3, h⟩ := bi_el h
    refine c_12_84 (As := [.int a2, .int 9]) (st1 := [.int x4]) rfl (fun Q1 hq => ok_12_is e3 k0 hq) k0 rfl rfl (Nat.le_of_ble_eq_true rfl) (dd dt_12_household 8 rfl) rfl ?_
    refine R_ifeq (dd dt_12_household 9 rfl) (tgt := 34) rfl (fun hc => ?_) (fun hc => ?_)
    · rw [if_pos hc] at h
      refine R_iconst (v := 0) (dd dt_12_household 17 rfl) ic_0 ?_
      obtain rfl := Option.some.inj h
      exact R_mask [true, true, true, true, true, true, false, false, false, false] rfl K7
    · rw [if_neg hc] at h
      refine R_iload_n (dd dt_12_household 10 rfl) 3 rfl rfl ?_
      refine R_iconst (v := 1) (dd dt_12_household 11 rfl) ic_1 ?_
      refine R_bipush (v := 9) (dd dt_12_household 12 rfl) bp_9 ?_
      obtain ⟨x6, e5, h⟩ := bi_el h
      refine c_12_80 (As := [.int a3, .int 1, .int 9]) (st1 := [.int x6]) rfl (fun Q1 hq => ok_12_within e5 hq) rfl rfl (Nat.le_of_ble_eq_true rfl) (dd dt_12_household 13 rfl) rfl ?_
      refine R_ifeq (dd dt_12_household 14 rfl) (tgt := 34) rfl (fun hc => ?_) (fun hc => ?_)
      · rw [if_pos hc] at h
        refine R_iconst (v := 0) (dd dt_12_household 17 rfl) ic_0 ?_
        obtain rfl := Option.some.inj h
        exact R_mask [true, true, true, true, true, true, false, false, false, false] rfl K7
      · rw [if_neg hc] at h
        refine R_iconst (v := 1) (dd dt_12_household 15 rfl) ic_1 ?_
        refine R_goto (dd dt_12_household 16 rfl) (tgt := 35) rfl ?_
        obtain rfl := Option.some.inj h
        exact R_mask [true, true, true, true, true, true, false, false, false, false] rfl K7
/-! LongStrikeModel.house(II)I -/
def tab_12_house : List (Nat × Instr × Nat) := [(0, .aload_n 0, 1), (1, .getfield 9, 3), (4, .bipush 96, 2), (6, .bipush 12, 2), (8, .iload_n 1, 1), (9, .imul, 1), (10, .iadd, 1), (11, .iload_n 2, 1), (12, .iadd, 1), (13, .iaload, 1), (14, .ireturn, 1)]
set_option maxRecDepth 100000 in
theorem dt_12_house : ∀ q ∈ tab_12_house, decode m_12_house.2.1 q.1 = .ok q.2 := by decide +kernel
def f_12_house (a0 : Nat) (a1 : Int32) (a2 : Int32) (μ : mm) : Option (Int32) :=
  (ld μ (rf a0 0) ((96 + (12 * a1)) + a2)).bind fun x1 =>
  some x1
set_option maxRecDepth 100000 in
set_option maxHeartbeats 4000000 in
theorem ok_12_house {l : Launch} {E : ce} {d : Nat}  {a0 : Nat} {a1 : Int32} {a2 : Int32} {μ : mm} {r : Int32} {Q : Option Value → mm → Prop} (h : f_12_house a0 a1 a2 μ = some r) (k0 : kd a0 = 12) (hQ : Q (some (.int r)) μ) : Ct l E d yX12_house m_12_house [.ref a0, .int a1, .int a2] μ Q := by
  refine Ct_of (lv := [some (.ref a0), some (.int a1), some (.int a2)]) (by decide) rfl (Nat.le_of_ble_eq_true rfl) rfl ?_
  unfold f_12_house at h
  refine R_aload_n (dd dt_12_house 0 rfl) 0 rfl rfl ?_
  refine g_12_9 rfl k0 (dd dt_12_house 1 rfl) ?_
  refine R_bipush (v := 96) (dd dt_12_house 2 rfl) bp_96 ?_
  refine R_bipush (v := 12) (dd dt_12_house 3 rfl) bp_12 ?_
  refine R_iload_n (dd dt_12_house 4 rfl) 1 rfl rfl ?_
  refine R_imul (dd dt_12_house 5 rfl) ?_
  refine R_iadd (dd dt_12_house 6 rfl) ?_
  refine R_iload_n (dd dt_12_house 7 rfl) 2 rfl rfl ?_
  refine R_iadd (dd dt_12_house 8 rfl) ?_
  obtain ⟨x1, e2, h⟩ := bi_el h
  refine R_ild e2 (ty_12_0 k0) (dd dt_12_house 9 rfl) ?_
  obtain rfl := Option.some.inj h
  exact R_iret rfl (dd dt_12_house 10 rfl) hQ
/-! LongStrikeModel.factOf(I)I -/
def tab_12_factOf : List (Nat × Instr × Nat) := [(0, .iload_n 0, 1), (1, .ifCond .ne 7, 3), (4, .iconst 2, 1), (5, .goto 51, 3), (8, .iload_n 0, 1), (9, .iconst 1, 1), (10, .if_icmp .ne 8, 3), (13, .bipush 7, 2), (15, .goto 41, 3), (18, .iload_n 0, 1), (19, .iconst 2, 1), (20, .if_icmp .ne 7, 3), (23, .iconst 5, 1), (24, .goto 32, 3), (27, .iload_n 0, 1), (28, .iconst 3, 1), (29, .if_icmp .ne 7, 3), (32, .iconst 4, 1), (33, .goto 23, 3), (36, .iload_n 0, 1), (37, .iconst 4, 1), (38, .if_icmp .ne 8, 3), (41, .bipush 8, 2), (43, .goto 13, 3), (46, .iload_n 0, 1), (47, .iconst 5, 1), (48, .if_icmp .ne 7, 3), (51, .iconst 1, 1), (52, .goto 4, 3), (55, .iconst 0, 1), (56, .ireturn, 1)]
set_option maxRecDepth 100000 in
theorem dt_12_factOf : ∀ q ∈ tab_12_factOf, decode m_12_factOf.2.1 q.1 = .ok q.2 := by decide +kernel
def f_12_factOf (a0 : Int32) (μ : mm) : Option (Int32) :=
  if a0 = 0 then
    some 2
  else
    if a0 = 1 then
      some 7
    else
      if a0 = 2 then
        some 5
      else
        if a0 = 3 then
          some 4
        else
          if a0 = 4 then
            some 8
          else
            if a0 = 5 then
              some 1
            else
              some 0
set_option maxRecDepth 100000 in
set_option maxHeartbeats 4000000 in
theorem ok_12_factOf {l : Launch} {E : ce} {d : Nat}  {a0 : Int32} {μ : mm} {r : Int32} {Q : Option Value → mm → Prop} (h : f_12_factOf a0 μ = some r)  (hQ : Q (some (.int r)) μ) : Ct l E d yX12_factOf m_12_factOf [.int a0] μ Q := by
  refine Ct_of (lv := [some (.int a0)]) (by decide) rfl (Nat.le_of_ble_eq_true rfl) rfl ?_
  unfold f_12_factOf at h
  refine R_iload_n (dd dt_12_factOf 0 rfl) 0 rfl rfl ?_
  refine R_ifne (dd dt_12_factOf 1 rfl) (tgt := 8) rfl (fun hc => ?_) (fun hc => ?_)
  · rw [if_neg hc] at h
    refine R_iload_n (dd dt_12_factOf 4 rfl) 0 rfl rfl ?_
    refine R_iconst (v := 1) (dd dt_12_factOf 5 rfl) ic_1 ?_
    refine R_cmpne (dd dt_12_factOf 6 rfl) (tgt := 18) rfl (fun hc => ?_) (fun hc => ?_)
    · rw [if_neg hc] at h
      refine R_iload_n (dd dt_12_factOf 9 rfl) 0 rfl rfl ?_
      refine R_iconst (v := 2) (dd dt_12_factOf 10 rfl) ic_2 ?_
      refine R_cmpne (dd dt_12_factOf 11 rfl) (tgt := 27) rfl (fun hc => ?_) (fun hc => ?_)
      · rw [if_neg hc] at h
        refine R_iload_n (dd dt_12_factOf 14 rfl) 0 rfl rfl ?_
        refine R_iconst (v := 3) (dd dt_12_factOf 15 rfl) ic_3 ?_
        refine R_cmpne (dd dt_12_factOf 16 rfl) (tgt := 36) rfl (fun hc => ?_) (fun hc => ?_)
        · rw [if_neg hc] at h
          refine R_iload_n (dd dt_12_factOf 19 rfl) 0 rfl rfl ?_
          refine R_iconst (v := 4) (dd dt_12_factOf 20 rfl) ic_4 ?_
          refine R_cmpne (dd dt_12_factOf 21 rfl) (tgt := 46) rfl (fun hc => ?_) (fun hc => ?_)
          · rw [if_neg hc] at h
            refine R_iload_n (dd dt_12_factOf 24 rfl) 0 rfl rfl ?_
            refine R_iconst (v := 5) (dd dt_12_factOf 25 rfl) ic_5 ?_
            refine R_cmpne (dd dt_12_factOf 26 rfl) (tgt := 55) rfl (fun hc => ?_) (fun hc => ?_)
            · rw [if_neg hc] at h
              refine R_iconst (v := 0) (dd dt_12_factOf 29 rfl) ic_0 ?_
              obtain rfl := Option.some.inj h
              exact R_iret rfl (dd dt_12_factOf 30 rfl) hQ
            · rw [if_pos hc] at h
              refine R_iconst (v := 1) (dd dt_12_factOf 27 rfl) ic_1 ?_
              refine R_goto (dd dt_12_factOf 28 rfl) (tgt := 56) rfl ?_
              obtain rfl := Option.some.inj h
              exact R_iret rfl (dd dt_12_factOf 30 rfl) hQ
          · rw [if_pos hc] at h
            refine R_bipush (v := 8) (dd dt_12_factOf 22 rfl) bp_8 ?_
            refine R_goto (dd dt_12_factOf 23 rfl) (tgt := 56) rfl ?_
            obtain rfl := Option.some.inj h
            exact R_iret rfl (dd dt_12_factOf 30 rfl) hQ
        · rw [if_pos hc] at h
          refine R_iconst (v := 4) (dd dt_12_factOf 17 rfl) ic_4 ?_
          refine R_goto (dd dt_12_factOf 18 rfl) (tgt := 56) rfl ?_
          obtain rfl := Option.some.inj h
          exact R_iret rfl (dd dt_12_factOf 30 rfl) hQ
      · rw [if_pos hc] at h
        refine R_iconst (v := 5) (dd dt_12_factOf 12 rfl) ic_5 ?_
        refine R_goto (dd dt_12_factOf 13 rfl) (tgt := 56) rfl ?_
        obtain rfl := Option.some.inj h
        exact R_iret rfl (dd dt_12_factOf 30 rfl) hQ
    · rw [if_pos hc] at h
      refine R_bipush (v := 7) (dd dt_12_factOf 7 rfl) bp_7 ?_
      refine R_goto (dd dt_12_factOf 8 rfl) (tgt := 56) rfl ?_
      obtain rfl := Option.some.inj h
      exact R_iret rfl (dd dt_12_factOf 30 rfl) hQ
  · rw [if_pos hc] at h
    refine R_iconst (v := 2) (dd dt_12_factOf 2 rfl) ic_2 ?_
    refine R_goto (dd dt_12_factOf 3 rfl) (tgt := 56) rfl ?_
    obtain rfl := Option.some.inj h
    exact R_iret rfl (dd dt_12_factOf 30 rfl) hQ
/-! LongStrikeModel.lineOf(III)I -/
def tab_12_lineOf : List (Nat × Instr × Nat) := [(0, .aload_n 0, 1), (1, .getfield 9, 3), (4, .sipush 288, 3), (7, .sipush 161, 3), (10, .iload_n 1, 1), (11, .imul, 1), (12, .iadd, 1), (13, .iconst 1, 1), (14, .iadd, 1), (15, .iconst 4, 1), (16, .iload_n 2, 1), (17, .imul, 1), (18, .iadd, 1), (19, .iload_n 3, 1), (20, .iadd, 1), (21, .iaload, 1), (22, .ireturn, 1)]
set_option maxRecDepth 100000 in
theorem dt_12_lineOf : ∀ q ∈ tab_12_lineOf, decode m_12_lineOf.2.1 q.1 = .ok q.2 := by decide +kernel
def f_12_lineOf (a0 : Nat) (a1 : Int32) (a2 : Int32) (a3 : Int32) (μ : mm) : Option (Int32) :=
  (ld μ (rf a0 0) ((((288 + (161 * a1)) + 1) + (4 * a2)) + a3)).bind fun x1 =>
  some x1
set_option maxRecDepth 100000 in
set_option maxHeartbeats 4000000 in
theorem ok_12_lineOf {l : Launch} {E : ce} {d : Nat}  {a0 : Nat} {a1 : Int32} {a2 : Int32} {a3 : Int32} {μ : mm} {r : Int32} {Q : Option Value → mm → Prop} (h : f_12_lineOf a0 a1 a2 a3 μ = some r) (k0 : kd a0 = 12) (hQ : Q (some (.int r)) μ) : Ct l E d yX12_lineOf m_12_lineOf [.ref a0, .int a1, .int a2, .int a3] μ Q := by
  refine Ct_of (lv := [some (.ref a0), some (.int a1), some (.int a2), some (.int a3)]) (by decide) rfl (Nat.le_of_ble_eq_true rfl) rfl ?_
  unfold f_12_lineOf at h
  refine R_aload_n (dd dt_12_lineOf 0 rfl) 0 rfl rfl ?_
  refine g_12_9 rfl k0 (dd dt_12_lineOf 1 rfl) ?_
  refine R_sipush (v := 288) (dd dt_12_lineOf 2 rfl) sp_288 ?_
  refine R_sipush (v := 161) (dd dt_12_lineOf 3 rfl) sp_161 ?_
  refine R_iload_n (dd dt_12_lineOf 4 rfl) 1 rfl rfl ?_
  refine R_imul (dd dt_12_lineOf 5 rfl) ?_
  refine R_iadd (dd dt_12_lineOf 6 rfl) ?_
  refine R_iconst (v := 1) (dd dt_12_lineOf 7 rfl) ic_1 ?_
  refine R_iadd (dd dt_12_lineOf 8 rfl) ?_
  refine R_iconst (v := 4) (dd dt_12_lineOf 9 rfl) ic_4 ?_
  refine R_iload_n (dd dt_12_lineOf 10 rfl) 2 rfl rfl ?_
  refine R_imul (dd dt_12_lineOf 11 rfl) ?_
  refine R_iadd (dd dt_12_lineOf 12 rfl) ?_
  refine R_iload_n (dd dt_12_lineOf 13 rfl) 3 rfl rfl ?_
  refine R_iadd (dd dt_12_lineOf 14 rfl) ?_
  obtain ⟨x1, e2, h⟩ := bi_el h
  refine R_ild e2 (ty_12_0 k0) (dd dt_12_lineOf 15 rfl) ?_
  obtain rfl := Option.some.inj h
  exact R_iret rfl (dd dt_12_lineOf 16 rfl) hQ
/-! LongStrikeModel.holds(III)Z -/
def tab_12_holds : List (Nat × Instr × Nat) := [(0, .aload_n 0, 1), (1, .iload_n 1, 1), (2, .iload_n 2, 1), (3, .iconst 2, 1), (4, .invokevirtual 218, 3), (7, .istore 4, 2), (9, .aload_n 0, 1), (10, .iload_n 1, 1), (11, .iload_n 2, 1), (12, .iconst 3, 1), (13, .invokevirtual 218, 3), (16, .istore 5, 2), (18, .iconst 0, 1), (19, .istore 6, 2), (21, .iload 4, 2), (23, .istore 7, 2), (25, .iload 7, 2), (27, .iload 5, 2), (29, .if_icmp .ge 217, 3), (32, .aload_n 0, 1), (33, .getfield 9, 3), (36, .sipush 288, 3), (39, .sipush 161, 3), (42, .iload_n 1, 1), (43, .imul, 1), (44, .iadd, 1), (45, .bipush 41, 2), (47, .iadd, 1), (48, .iload 7, 2), (50, .iadd, 1), (51, .iaload, 1), (52, .istore 8, 2), (54, .iload 8, 2), (56, .sipush 30000, 3), (59, .if_icmp .ge 93, 3), (62, .aload_n 0, 1), (63, .iload_n 3, 1), (64, .iload 8, 2), (66, .sipush 3000, 3), (69, .idiv, 1), (70, .invokestatic 222, 3), (73, .invokevirtual 98, 3), (76, .istore 9, 2), (78, .iload 8, 2), (80, .sipush 1000, 3), (83, .irem, 1), (84, .istore 10, 2), (86, .iload 8, 2), (88, .sipush 1000, 3), (91, .idiv, 1), (92, .iconst 3, 1), (93, .irem, 1), (94, .istore 11, 2), (96, .aload_n 0, 1), (97, .getfield 38, 3), (100, .iload 6, 2), (102, .iload 11, 2), (104, .ifCond .ne 13, 3), (107, .iload 9, 2), (109, .iload 10, 2), (111, .if_icmp .ge 33, 3), (114, .goto 26, 3), (117, .iload 11, 2), (119, .iconst 1, 1), (120, .if_icmp .ne 13, 3), (123, .iload 9, 2), (125, .iload 10, 2), (127, .if_icmp .ne 17, 3), (130, .goto 10, 3), (133, .iload 9, 2), (135, .iload 10, 2), (137, .if_icmp .le 7, 3), (140, .iconst 1, 1), (141, .goto 4, 3), (144, .iconst 0, 1), (145, .iastore, 1), (146, .iinc 6 1, 3), (149, .goto 91, 3), (152, .iload 8, 2), (154, .sipush 30000, 3), (157, .if_icmp .ne 26, 3), (160, .aload_n 0, 1), (161, .getfield 38, 3), (164, .iload 6, 2), (166, .iconst 1, 1), (167, .isub, 1), (168, .iconst 1, 1), (169, .aload_n 0, 1), (170, .getfield 38, 3), (173, .iload 6, 2), (175, .iconst 1, 1), (176, .isub, 1), (177, .iaload, 1), (178, .isub, 1), (179, .iastore, 1), (180, .goto 60, 3), (183, .iinc 6 (-1), 3), (186, .aload_n 0, 1), (187, .getfield 38, 3), (190, .iload 6, 2), (192, .iconst 1, 1), (193, .isub, 1), (194, .iload 8, 2), (196, .sipush 30001, 3), (199, .if_icmp .ne 23, 3), (202, .aload_n 0, 1), (203, .getfield 38, 3), (206, .iload 6, 2), (208, .iconst 1, 1), (209, .isub, 1), (210, .iaload, 1), (211, .aload_n 0, 1), (212, .getfield 38, 3), (215, .iload 6, 2), (217, .iaload, 1), (218, .iand, 1), (219, .goto 20, 3), (222, .aload_n 0, 1), (223, .getfield 38, 3), (226, .iload 6, 2), (228, .iconst 1, 1), (229, .isub, 1), (230, .iaload, 1), (231, .aload_n 0, 1), (232, .getfield 38, 3), (235, .iload 6, 2), (237, .iaload, 1), (238, .ior, 1), (239, .iastore, 1), (240, .iinc 7 1, 3), (243, .goto (-218), 3), (246, .iload 4, 2), (248, .iload 5, 2), (250, .if_icmp .eq 13, 3), (253, .aload_n 0, 1), (254, .getfield 38, 3), (257, .iconst 0, 1), (258, .iaload, 1), (259, .iconst 1, 1), (260, .if_icmp .ne 7, 3), (263, .iconst 1, 1), (264, .goto 4, 3), (267, .iconst 0, 1), (268, .ireturn, 1)]
set_option maxRecDepth 100000 in
theorem dt_12_holds : ∀ q ∈ tab_12_holds, decode m_12_holds.2.1 q.1 = .ok q.2 := by decide +kernel
def f_12_holds_l25 (a0 : Nat) (a1 : Int32) (a3 : Int32) (a4 : Int32) (a5 : Int32) : Nat → Int32 → Int32 → mm → Option (mm)
  | 0, _, _, _ => none
  | n + 1, v6, v7, μ => if a5 ≤ v7 then
      some μ
    else
      (ld μ (rf a0 0) (((288 + (161 * a1)) + 41) + v7)).bind fun x1 =>
      if 30000 ≤ x1 then
        if x1 = 30000 then
          (ld μ (rf a0 19) (v6 - 1)).bind fun x14 =>
          (sto μ (rf a0 19) (v6 - 1) (1 - x14)).bind fun μ16 =>
          f_12_holds_l25 a0 a1 a3 a4 a5 n v6 (v7 + 1) μ16
        else
          (if x1 = 30001 then
              (ld μ (rf a0 19) ((v6 + (-1)) - 1)).bind fun x7 =>
              (ld μ (rf a0 19) (v6 + (-1))).bind fun x9 =>
              some (x7 &&& x9)
            else
              (ld μ (rf a0 19) ((v6 + (-1)) - 1)).bind fun x3 =>
              (ld μ (rf a0 19) (v6 + (-1))).bind fun x5 =>
              some (x3 ||| x5)).bind fun (z11 : Int32) =>
          (sto μ (rf a0 19) ((v6 + (-1)) - 1) z11).bind fun μ12 =>
          f_12_holds_l25 a0 a1 a3 a4 a5 n (v6 + (-1)) (v7 + 1) μ12
      else
        (f_12_factOf (x1 / 3000) μ).bind fun x19 =>
        (f_12_house a0 a3 x19 μ).bind fun x21 =>
        (if ((x1 / 1000) - (x1 / 1000) / 3 * 3) = 0 then
            if (x1 - x1 / 1000 * 1000) ≤ x21 then
              some 0
            else
              some 1
          else
            if ((x1 / 1000) - (x1 / 1000) / 3 * 3) = 1 then
              if x21 = (x1 - x1 / 1000 * 1000) then
                some 1
              else
                some 0
            else
              if x21 ≤ (x1 - x1 / 1000 * 1000) then
                some 0
              else
                some 1).bind fun (z22 : Int32) =>
        (sto μ (rf a0 19) v6 z22).bind fun μ23 =>
        f_12_holds_l25 a0 a1 a3 a4 a5 n (v6 + 1) (v7 + 1) μ23
set_option maxRecDepth 100000 in
theorem ok_12_holds_l25 {l : Launch} {E : ce} {d : Nat} {Q : Option Value → mm → Prop} (a0 : Nat) (a1 : Int32) (a3 : Int32) (a4 : Int32) (a5 : Int32) (k0 : kd a0 = 12) : ∀ (n : Nat) (v6 : Int32) (v7 : Int32) (μ : mm) (z : mm), f_12_holds_l25 a0 a1 a3 a4 a5 n v6 v7 μ = some z → Rj l E (d + 1) m_12_holds 246 [some (.ref a0), none, none, none, some (.int a4), some (.int a5), none, none, none, none, none, none] [] z Q → Rj l E (d + 1) m_12_holds 25 [some (.ref a0), some (.int a1), none, some (.int a3), some (.int a4), some (.int a5), some (.int v6), some (.int v7), none, none, none, none] [] μ Q
  | 0, _, _, _, z, h, _ => by
    rw [f_12_holds_l25] at h
    cases h
  | n + 1, v6, v7, μ, z, h, KX => by
    rw [f_12_holds_l25] at h
    refine R_iload (dd dt_12_holds 16 rfl) rfl ?_
    refine R_iload (dd dt_12_holds 17 rfl) rfl ?_
    refine R_cmpge (dd dt_12_holds 18 rfl) (tgt := 246) rfl (fun hc => ?_) (fun hc => ?_)
    · rw [if_pos hc] at h
      obtain rfl := Option.some.inj h
      exact R_mask [true, false, false, false, true, true, false, false, false, false, false, false] rfl KX
    · rw [if_neg hc] at h
      refine R_aload_n (dd dt_12_holds 19 rfl) 0 rfl rfl ?_
      refine g_12_9 rfl k0 (dd dt_12_holds 20 rfl) ?_
      refine R_sipush (v := 288) (dd dt_12_holds 21 rfl) sp_288 ?_
      refine R_sipush (v := 161) (dd dt_12_holds 22 rfl) sp_161 ?_
      refine R_iload_n (dd dt_12_holds 23 rfl) 1 rfl rfl ?_
      refine R_imul (dd dt_12_holds 24 rfl) ?_
      refine R_iadd (dd dt_12_holds 25 rfl) ?_
      refine R_bipush (v := 41) (dd dt_12_holds 26 rfl) bp_41 ?_
      refine R_iadd (dd dt_12_holds 27 rfl) ?_
      refine R_iload (dd dt_12_holds 28 rfl) rfl ?_
      refine R_iadd (dd dt_12_holds 29 rfl) ?_
      obtain ⟨x1, e2, h⟩ := bi_el h
      refine R_ild e2 (ty_12_0 k0) (dd dt_12_holds 30 rfl) ?_
      refine R_istore (lv' := [some (.ref a0), some (.int a1), none, some (.int a3), some (.int a4), some (.int a5), some (.int v6), some (.int v7), some (.int x1), none, none, none]) (dd dt_12_holds 31 rfl) (by decide) rfl rfl ?_
      refine R_iload (dd dt_12_holds 32 rfl) rfl ?_
      refine R_sipush (v := 30000) (dd dt_12_holds 33 rfl) sp_30000 ?_
      refine R_cmpge (dd dt_12_holds 34 rfl) (tgt := 152) rfl (fun hc => ?_) (fun hc => ?_)
      · rw [if_pos hc] at h
        refine R_iload (dd dt_12_holds 78 rfl) rfl ?_
        refine R_sipush (v := 30000) (dd dt_12_holds 79 rfl) sp_30000 ?_
        refine R_cmpne (dd dt_12_holds 80 rfl) (tgt := 183) rfl (fun hc => ?_) (fun hc => ?_)
        · rw [if_neg hc] at h
          refine R_iinc (v := (-1)) (lv' := [some (.ref a0), some (.int a1), none, some (.int a3), some (.int a4), some (.int a5), some (.int (v6 + (-1))), some (.int v7), some (.int x1), none, none, none]) (dd dt_12_holds 96 rfl) (by decide) rfl rfl ic_m1 rfl ?_
          refine R_aload_n (dd dt_12_holds 97 rfl) 0 rfl rfl ?_
          refine g_12_38 rfl k0 (dd dt_12_holds 98 rfl) ?_
          refine R_iload (dd dt_12_holds 99 rfl) rfl ?_
          refine R_iconst (v := 1) (dd dt_12_holds 100 rfl) ic_1 ?_
          refine R_isub (dd dt_12_holds 101 rfl) ?_
          refine R_iload (dd dt_12_holds 102 rfl) rfl ?_
          refine R_sipush (v := 30001) (dd dt_12_holds 103 rfl) sp_30001 ?_
          obtain ⟨z11, hz11, h⟩ := bi_el h
          have K11 : Rj l E (d + 1) m_12_holds 239 [some (.ref a0), some (.int a1), none, some (.int a3), some (.int a4), some (.int a5), some (.int (v6 + (-1))), some (.int v7), none, none, none, none] [.int z11, .int ((v6 + (-1)) - 1), .ref (rf a0 19)] μ Q := by
            clear hz11
            obtain ⟨μ12, e13, h⟩ := bi_el h
            refine R_isto e13 (ty_12_19 k0) (dd dt_12_holds 128 rfl) ?_
            refine R_iinc (v := 1) (lv' := [some (.ref a0), some (.int a1), none, some (.int a3), some (.int a4), some (.int a5), some (.int (v6 + (-1))), some (.int (v7 + 1)), none, none, none, none]) (dd dt_12_holds 129 rfl) (by decide) rfl rfl ic_1 rfl ?_
            refine R_goto (dd dt_12_holds 130 rfl) (tgt := 25) rfl ?_
            exact R_mask [true, true, false, true, true, true, true, true, false, false, false, false] rfl (ok_12_holds_l25 a0 a1 a3 a4 a5 k0 n (v6 + (-1)) (v7 + 1) μ12 _ h KX)
          clear h
          have h := hz11
          clear hz11
          refine R_cmpne (dd dt_12_holds 104 rfl) (tgt := 222) rfl (fun hc => ?_) (fun hc => ?_)
          · rw [if_neg hc] at h
            refine R_aload_n (dd dt_12_holds 117 rfl) 0 rfl rfl ?_
            refine g_12_38 rfl k0 (dd dt_12_holds 118 rfl) ?_
            refine R_iload (dd dt_12_holds 119 rfl) rfl ?_
            refine R_iconst (v := 1) (dd dt_12_holds 120 rfl) ic_1 ?_
            refine R_isub (dd dt_12_holds 121 rfl) ?_
            obtain ⟨x3, e4, h⟩ := bi_el h
            refine R_ild e4 (ty_12_19 k0) (dd dt_12_holds 122 rfl) ?_
            refine R_aload_n (dd dt_12_holds 123 rfl) 0 rfl rfl ?_
            refine g_12_38 rfl k0 (dd dt_12_holds 124 rfl) ?_
            refine R_iload (dd dt_12_holds 125 rfl) rfl ?_
            obtain ⟨x5, e6, h⟩ := bi_el h
            refine R_ild e6 (ty_12_19 k0) (dd dt_12_holds 126 rfl) ?_
            refine R_ior (dd dt_12_holds 127 rfl) ?_
            obtain rfl := Option.some.inj h
            exact R_mask [true, true, false, true, true, true, true, true, false, false, false, false] rfl K11
          · rw [if_pos hc] at h
            refine R_aload_n (dd dt_12_holds 105 rfl) 0 rfl rfl ?_
            refine g_12_38 rfl k0 (dd dt_12_holds 106 rfl) ?_
            refine R_iload (dd dt_12_holds 107 rfl) rfl ?_
            refine R_iconst (v := 1) (dd dt_12_holds 108 rfl) ic_1 ?_
            refine R_isub (dd dt_12_holds 109 rfl) ?_
            obtain ⟨x7, e8, h⟩ := bi_el h
            refine R_ild e8 (ty_12_19 k0) (dd dt_12_holds 110 rfl) ?_
            refine R_aload_n (dd dt_12_holds 111 rfl) 0 rfl rfl ?_
            refine g_12_38 rfl k0 (dd dt_12_holds 112 rfl) ?_
            refine R_iload (dd dt_12_holds 113 rfl) rfl ?_
            obtain ⟨x9, e10, h⟩ := bi_el h
            refine R_ild e10 (ty_12_19 k0) (dd dt_12_holds 114 rfl) ?_
            refine R_iand (dd dt_12_holds 115 rfl) ?_
            refine R_goto (dd dt_12_holds 116 rfl) (tgt := 239) rfl ?_
            obtain rfl := Option.some.inj h
            exact R_mask [true, true, false, true, true, true, true, true, false, false, false, false] rfl K11
        · rw [if_pos hc] at h
          refine R_aload_n (dd dt_12_holds 81 rfl) 0 rfl rfl ?_
          refine g_12_38 rfl k0 (dd dt_12_holds 82 rfl) ?_
          refine R_iload (dd dt_12_holds 83 rfl) rfl ?_
          refine R_iconst (v := 1) (dd dt_12_holds 84 rfl) ic_1 ?_
          refine R_isub (dd dt_12_holds 85 rfl) ?_
          refine R_iconst (v := 1) (dd dt_12_holds 86 rfl) ic_1 ?_
          refine R_aload_n (dd dt_12_holds 87 rfl) 0 rfl rfl ?_
          refine g_12_38 rfl k0 (dd dt_12_holds 88 rfl) ?_
          refine R_iload (dd dt_12_holds 89 rfl) rfl ?_
          refine R_iconst (v := 1) (dd dt_12_holds 90 rfl) ic_1 ?_
          refine R_isub (dd dt_12_holds 91 rfl) ?_
          obtain ⟨x14, e15, h⟩ := bi_el h
          refine R_ild e15 (ty_12_19 k0) (dd dt_12_holds 92 rfl) ?_
          refine R_isub (dd dt_12_holds 93 rfl) ?_
          obtain ⟨μ16, e17, h⟩ := bi_el h
          refine R_isto e17 (ty_12_19 k0) (dd dt_12_holds 94 rfl) ?_
          refine R_goto (dd dt_12_holds 95 rfl) (tgt := 240) rfl ?_
          refine R_iinc (v := 1) (lv' := [some (.ref a0), some (.int a1), none, some (.int a3), some (.int a4), some (.int a5), some (.int v6), some (.int (v7 + 1)), some (.int x1), none, none, none]) (dd dt_12_holds 129 rfl) (by decide) rfl rfl ic_1 rfl ?_
          refine R_goto (dd dt_12_holds 130 rfl) (tgt := 25) rfl ?_
          exact R_mask [true, true, false, true, true, true, true, true, false, false, false, false] rfl (ok_12_holds_l25 a0 a1 a3 a4 a5 k0 n v6 (v7 + 1) μ16 _ h KX)
      · rw [if_neg hc] at h
        refine R_aload_n (dd dt_12_holds 35 rfl) 0 rfl rfl ?_
        refine R_iload_n (dd dt_12_holds 36 rfl) 3 rfl rfl ?_
        refine R_iload (dd dt_12_holds 37 rfl) rfl ?_
        refine R_sipush (v := 3000) (dd dt_12_holds 38 rfl) sp_3000 ?_
        refine R_idiv (dd dt_12_holds 39 rfl) (by decide) ?_
        obtain ⟨x19, e18, h⟩ := bi_el h
        refine c_12_222 (As := [.int (x1 / 3000)]) (st1 := [.int x19, .int a3, .ref a0]) rfl (fun Q1 hq => ok_12_factOf e18 hq) rfl rfl (Nat.le_of_ble_eq_true rfl) (dd dt_12_holds 40 rfl) rfl ?_
        obtain ⟨x21, e20, h⟩ := bi_el h
        refine c_12_98 (As := [.int a3, .int x19]) (st1 := [.int x21]) rfl (fun Q1 hq => ok_12_house e20 k0 hq) k0 rfl rfl (Nat.le_of_ble_eq_true rfl) (dd dt_12_holds 41 rfl) rfl ?_
        refine R_istore (lv' := [some (.ref a0), some (.int a1), none, some (.int a3), some (.int a4), some (.int a5), some (.int v6), some (.int v7), some (.int x1), some (.int x21), none, none]) (dd dt_12_holds 42 rfl) (by decide) rfl rfl ?_
        refine R_iload (dd dt_12_holds 43 rfl) rfl ?_
        refine R_sipush (v := 1000) (dd dt_12_holds 44 rfl) sp_1000 ?_
        refine R_irem (dd dt_12_holds 45 rfl) (by decide) ?_
        refine R_istore (lv' := [some (.ref a0), some (.int a1), none, some (.int a3), some (.int a4), some (.int a5), some (.int v6), some (.int v7), some (.int x1), some (.int x21), some (.int (x1 - x1 / 1000 * 1000)), none]) (dd dt_12_holds 46 rfl) (by decide) rfl rfl ?_
        refine R_iload (dd dt_12_holds 47 rfl) rfl ?_
        refine R_sipush (v := 1000) (dd dt_12_holds 48 rfl) sp_1000 ?_
        refine R_idiv (dd dt_12_holds 49 rfl) (by decide) ?_
        refine R_iconst (v := 3) (dd dt_12_holds 50 rfl) ic_3 ?_
        refine R_irem (dd dt_12_holds 51 rfl) (by decide) ?_
        refine R_istore (lv' := [some (.ref a0), some (.int a1), none, some (.int a3), some (.int a4), some (.int a5), some (.int v6), some (.int v7), some (.int x1), some (.int x21), some (.int (x1 - x1 / 1000 * 1000)), some (.int ((x1 / 1000) - (x1 / 1000) / 3 * 3))]) (dd dt_12_holds 52 rfl) (by decide) rfl rfl ?_
        refine R_aload_n (dd dt_12_holds 53 rfl) 0 rfl rfl ?_
        refine g_12_38 rfl k0 (dd dt_12_holds 54 rfl) ?_
        refine R_iload (dd dt_12_holds 55 rfl) rfl ?_
        refine R_iload (dd dt_12_holds 56 rfl) rfl ?_
        obtain ⟨z22, hz22, h⟩ := bi_el h
        have K22 : Rj l E (d + 1) m_12_holds 145 [some (.ref a0), some (.int a1), none, some (.int a3), some (.int a4), some (.int a5), some (.int v6), some (.int v7), none, none, none, none] [.int z22, .int v6, .ref (rf a0 19)] μ Q := by
          clear hz22
          obtain ⟨μ23, e24, h⟩ := bi_el h
          refine R_isto e24 (ty_12_19 k0) (dd dt_12_holds 75 rfl) ?_
          refine R_iinc (v := 1) (lv' := [some (.ref a0), some (.int a1), none, some (.int a3), some (.int a4), some (.int a5), some (.int (v6 + 1)), some (.int v7), none, none, none, none]) (dd dt_12_holds 76 rfl) (by decide) rfl rfl ic_1 rfl ?_
          refine R_goto (dd dt_12_holds 77 rfl) (tgt := 240) rfl ?_
          refine R_iinc (v := 1) (lv' := [some (.ref a0), some (.int a1), none, some (.int a3), some (.int a4), some (.int a5), some (.int (v6 + 1)), some (.int (v7 + 1)), none, none, none, none]) (dd dt_12_holds 129 rfl) (by decide) rfl rfl ic_1 rfl ?_
          refine R_goto (dd dt_12_holds 130 rfl) (tgt := 25) rfl ?_
          exact R_mask [true, true, false, true, true, true, true, true, false, false, false, false] rfl (ok_12_holds_l25 a0 a1 a3 a4 a5 k0 n (v6 + 1) (v7 + 1) μ23 _ h KX)
        clear h
        have h := hz22
        clear hz22
        refine R_ifne (dd dt_12_holds 57 rfl) (tgt := 117) rfl (fun hc => ?_) (fun hc => ?_)
        · rw [if_neg hc] at h
          refine R_iload (dd dt_12_holds 62 rfl) rfl ?_
          refine R_iconst (v := 1) (dd dt_12_holds 63 rfl) ic_1 ?_
          refine R_cmpne (dd dt_12_holds 64 rfl) (tgt := 133) rfl (fun hc => ?_) (fun hc => ?_)
          · rw [if_neg hc] at h
            refine R_iload (dd dt_12_holds 69 rfl) rfl ?_
            refine R_iload (dd dt_12_holds 70 rfl) rfl ?_
            refine R_cmple (dd dt_12_holds 71 rfl) (tgt := 144) rfl (fun hc => ?_) (fun hc => ?_)
            · rw [if_pos hc] at h
              refine R_iconst (v := 0) (dd dt_12_holds 74 rfl) ic_0 ?_
              obtain rfl := Option.some.inj h
              exact R_mask [true, true, false, true, true, true, true, true, false, false, false, false] rfl K22
            · rw [if_neg hc] at h
              refine R_iconst (v := 1) (dd dt_12_holds 72 rfl) ic_1 ?_
              refine R_goto (dd dt_12_holds 73 rfl) (tgt := 145) rfl ?_
              obtain rfl := Option.some.inj h
              exact R_mask [true, true, false, true, true, true, true, true, false, false, false, false] rfl K22
          · rw [if_pos hc] at h
            refine R_iload (dd dt_12_holds 65 rfl) rfl ?_
            refine R_iload (dd dt_12_holds 66 rfl) rfl ?_
            refine R_cmpne (dd dt_12_holds 67 rfl) (tgt := 144) rfl (fun hc => ?_) (fun hc => ?_)
            · rw [if_neg hc] at h
              refine R_iconst (v := 0) (dd dt_12_holds 74 rfl) ic_0 ?_
              obtain rfl := Option.some.inj h
              exact R_mask [true, true, false, true, true, true, true, true, false, false, false, false] rfl K22
            · rw [if_pos hc] at h
              refine R_goto (dd dt_12_holds 68 rfl) (tgt := 140) rfl ?_
              refine R_iconst (v := 1) (dd dt_12_holds 72 rfl) ic_1 ?_
              refine R_goto (dd dt_12_holds 73 rfl) (tgt := 145) rfl ?_
              obtain rfl := Option.some.inj h
              exact R_mask [true, true, false, true, true, true, true, true, false, false, false, false] rfl K22
        · rw [if_pos hc] at h
          refine R_iload (dd dt_12_holds 58 rfl) rfl ?_
          refine R_iload (dd dt_12_holds 59 rfl) rfl ?_
          refine R_cmpge (dd dt_12_holds 60 rfl) (tgt := 144) rfl (fun hc => ?_) (fun hc => ?_)
          · rw [if_pos hc] at h
            refine R_iconst (v := 0) (dd dt_12_holds 74 rfl) ic_0 ?_
            obtain rfl := Option.some.inj h
            exact R_mask [true, true, false, true, true, true, true, true, false, false, false, false] rfl K22
          · rw [if_neg hc] at h
            refine R_goto (dd dt_12_holds 61 rfl) (tgt := 140) rfl ?_
            refine R_iconst (v := 1) (dd dt_12_holds 72 rfl) ic_1 ?_
            refine R_goto (dd dt_12_holds 73 rfl) (tgt := 145) rfl ?_
            obtain rfl := Option.some.inj h
            exact R_mask [true, true, false, true, true, true, true, true, false, false, false, false] rfl K22
def f_12_holds (a0 : Nat) (a1 : Int32) (a2 : Int32) (a3 : Int32) (μ : mm) : Option (Int32 × mm) :=
  (f_12_lineOf a0 a1 a2 2 μ).bind fun x2 =>
  (f_12_lineOf a0 a1 a2 3 μ).bind fun x4 =>
  (f_12_holds_l25 a0 a1 a3 x2 x4 FU 0 x2 μ).bind fun z5 =>
  if x2 = x4 then
    some (1, z5)
  else
    (ld z5 (rf a0 19) 0).bind fun x7 =>
    if x7 = 1 then
      some (1, z5)
    else
      some (0, z5)
set_option maxRecDepth 100000 in
set_option maxHeartbeats 4000000 in
theorem ok_12_holds {l : Launch} {E : ce} {d : Nat}  {a0 : Nat} {a1 : Int32} {a2 : Int32} {a3 : Int32} {μ : mm} {r : Int32 × mm} {Q : Option Value → mm → Prop} (h : f_12_holds a0 a1 a2 a3 μ = some r) (k0 : kd a0 = 12) (hQ : Q (some (.int r.1)) r.2) : Ct l E (d + 1) yX12_holds m_12_holds [.ref a0, .int a1, .int a2, .int a3] μ Q := by
  refine Ct_of (lv := [some (.ref a0), some (.int a1), some (.int a2), some (.int a3), none, none, none, none, none, none, none, none]) (by decide) rfl (Nat.le_of_ble_eq_true rfl) rfl ?_
  unfold f_12_holds at h
  refine R_aload_n (dd dt_12_holds 0 rfl) 0 rfl rfl ?_
  refine R_iload_n (dd dt_12_holds 1 rfl) 1 rfl rfl ?_
  refine R_iload_n (dd dt_12_holds 2 rfl) 2 rfl rfl ?_
  refine R_iconst (v := 2) (dd dt_12_holds 3 rfl) ic_2 ?_
  obtain ⟨x2, e1, h⟩ := bi_el h
  refine c_12_218 (As := [.int a1, .int a2, .int 2]) (st1 := [.int x2]) rfl (fun Q1 hq => ok_12_lineOf e1 k0 hq) k0 rfl rfl (Nat.le_of_ble_eq_true rfl) (dd dt_12_holds 4 rfl) rfl ?_
  refine R_istore (lv' := [some (.ref a0), some (.int a1), some (.int a2), some (.int a3), some (.int x2), none, none, none, none, none, none, none]) (dd dt_12_holds 5 rfl) (by decide) rfl rfl ?_
  refine R_aload_n (dd dt_12_holds 6 rfl) 0 rfl rfl ?_
  refine R_iload_n (dd dt_12_holds 7 rfl) 1 rfl rfl ?_
  refine R_iload_n (dd dt_12_holds 8 rfl) 2 rfl rfl ?_
  refine R_iconst (v := 3) (dd dt_12_holds 9 rfl) ic_3 ?_
  obtain ⟨x4, e3, h⟩ := bi_el h
  refine c_12_218 (As := [.int a1, .int a2, .int 3]) (st1 := [.int x4]) rfl (fun Q1 hq => ok_12_lineOf e3 k0 hq) k0 rfl rfl (Nat.le_of_ble_eq_true rfl) (dd dt_12_holds 10 rfl) rfl ?_
  refine R_istore (lv' := [some (.ref a0), some (.int a1), some (.int a2), some (.int a3), some (.int x2), some (.int x4), none, none, none, none, none, none]) (dd dt_12_holds 11 rfl) (by decide) rfl rfl ?_
  refine R_iconst (v := 0) (dd dt_12_holds 12 rfl) ic_0 ?_
  refine R_istore (lv' := [some (.ref a0), some (.int a1), some (.int a2), some (.int a3), some (.int x2), some (.int x4), some (.int 0), none, none, none, none, none]) (dd dt_12_holds 13 rfl) (by decide) rfl rfl ?_
  refine R_iload (dd dt_12_holds 14 rfl) rfl ?_
  refine R_istore (lv' := [some (.ref a0), some (.int a1), some (.int a2), some (.int a3), some (.int x2), some (.int x4), some (.int 0), some (.int x2), none, none, none, none]) (dd dt_12_holds 15 rfl) (by decide) rfl rfl ?_
  obtain ⟨z5, e6, h⟩ := bi_el h
  refine R_mask [true, true, false, true, true, true, true, true, false, false, false, false] rfl (ok_12_holds_l25 a0 a1 a3 x2 x4 k0 FU 0 x2 μ _ e6 ?_)
  refine R_iload (dd dt_12_holds 131 rfl) rfl ?_
  refine R_iload (dd dt_12_holds 132 rfl) rfl ?_
  refine R_cmpeq (dd dt_12_holds 133 rfl) (tgt := 263) rfl (fun hc => ?_) (fun hc => ?_)
  · rw [if_pos hc] at h
    refine R_iconst (v := 1) (dd dt_12_holds 140 rfl) ic_1 ?_
    refine R_goto (dd dt_12_holds 141 rfl) (tgt := 268) rfl ?_
    obtain rfl := Option.some.inj h
    exact R_zret rfl (by decide) (dd dt_12_holds 143 rfl) hQ
  · rw [if_neg hc] at h
    refine R_aload_n (dd dt_12_holds 134 rfl) 0 rfl rfl ?_
    refine g_12_38 rfl k0 (dd dt_12_holds 135 rfl) ?_
    refine R_iconst (v := 0) (dd dt_12_holds 136 rfl) ic_0 ?_
    obtain ⟨x7, e8, h⟩ := bi_el h
    refine R_ild e8 (ty_12_19 k0) (dd dt_12_holds 137 rfl) ?_
    refine R_iconst (v := 1) (dd dt_12_holds 138 rfl) ic_1 ?_
    refine R_cmpne (dd dt_12_holds 139 rfl) (tgt := 267) rfl (fun hc => ?_) (fun hc => ?_)
    · rw [if_neg hc] at h
      refine R_iconst (v := 0) (dd dt_12_holds 142 rfl) ic_0 ?_
      obtain rfl := Option.some.inj h
      exact R_zret rfl (by decide) (dd dt_12_holds 143 rfl) hQ
    · rw [if_pos hc] at h
      refine R_iconst (v := 1) (dd dt_12_holds 140 rfl) ic_1 ?_
      refine R_goto (dd dt_12_holds 141 rfl) (tgt := 268) rfl ?_
      obtain rfl := Option.some.inj h
      exact R_zret rfl (by decide) (dd dt_12_holds 143 rfl) hQ
/-! LongStrikeModel.firstOf(III)I -/
def tab_12_firstOf : List (Nat × Instr × Nat) := [(0, .iconst 0, 1), (1, .istore 4, 2), (3, .iload 4, 2), (5, .aload_n 0, 1), (6, .getfield 9, 3), (9, .sipush 288, 3), (12, .sipush 161, 3), (15, .iload_n 1, 1), (16, .imul, 1), (17, .iadd, 1), (18, .iaload, 1), (19, .if_icmp .ge 35, 3), (22, .aload_n 0, 1), (23, .iload_n 1, 1), (24, .iload 4, 2), (26, .iconst 0, 1), (27, .invokevirtual 218, 3), (30, .iload_n 2, 1), (31, .if_icmp .ne 17, 3), (34, .aload_n 0, 1), (35, .iload_n 1, 1), (36, .iload 4, 2), (38, .iload_n 3, 1), (39, .invokevirtual 225, 3), (42, .ifCond .eq 6, 3), (45, .iload 4, 2), (47, .ireturn, 1), (48, .iinc 4 1, 3), (51, .goto (-48), 3), (54, .iconst (-1), 1), (55, .ireturn, 1)]
set_option maxRecDepth 100000 in
theorem dt_12_firstOf : ∀ q ∈ tab_12_firstOf, decode m_12_firstOf.2.1 q.1 = .ok q.2 := by decide +kernel
def f_12_firstOf_l3 (a0 : Nat) (a1 : Int32) (a2 : Int32) (a3 : Int32) : Nat → Int32 → mm → Option (Int32 × mm)
  | 0, _, _ => none
  | n + 1, v4, μ => (ld μ (rf a0 0) (288 + (161 * a1))).bind fun x1 =>
    if x1 ≤ v4 then
      some ((-1), μ)
    else
      (f_12_lineOf a0 a1 v4 0 μ).bind fun x4 =>
      if x4 = a2 then
        (f_12_holds a0 a1 v4 a3 μ).bind fun z6 =>
        if z6.1 = 0 then
          f_12_firstOf_l3 a0 a1 a2 a3 n (v4 + 1) z6.2
        else
          some (v4, z6.2)
      else
        f_12_firstOf_l3 a0 a1 a2 a3 n (v4 + 1) μ
set_option maxRecDepth 100000 in
theorem ok_12_firstOf_l3 {l : Launch} {E : ce} {d : Nat} {Q : Option Value → mm → Prop} (a0 : Nat) (a1 : Int32) (a2 : Int32) (a3 : Int32) (k0 : kd a0 = 12) : ∀ (n : Nat) (v4 : Int32) (μ : mm) (r : Int32 × mm), f_12_firstOf_l3 a0 a1 a2 a3 n v4 μ = some r → Q (some (.int r.1)) r.2 → Rj l E (d + 2) m_12_firstOf 3 [some (.ref a0), some (.int a1), some (.int a2), some (.int a3), some (.int v4)] [] μ Q
  | 0, _, _, z, h, _ => by
    rw [f_12_firstOf_l3] at h
    cases h
  | n + 1, v4, μ, r, h, hQ => by
    rw [f_12_firstOf_l3] at h
    refine R_iload (dd dt_12_firstOf 2 rfl) rfl ?_
    refine R_aload_n (dd dt_12_firstOf 3 rfl) 0 rfl rfl ?_
    refine g_12_9 rfl k0 (dd dt_12_firstOf 4 rfl) ?_
    refine R_sipush (v := 288) (dd dt_12_firstOf 5 rfl) sp_288 ?_
    refine R_sipush (v := 161) (dd dt_12_firstOf 6 rfl) sp_161 ?_
    refine R_iload_n (dd dt_12_firstOf 7 rfl) 1 rfl rfl ?_
    refine R_imul (dd dt_12_firstOf 8 rfl) ?_
    refine R_iadd (dd dt_12_firstOf 9 rfl) ?_
    obtain ⟨x1, e2, h⟩ := bi_el h
    refine R_ild e2 (ty_12_0 k0) (dd dt_12_firstOf 10 rfl) ?_
    refine R_cmpge (dd dt_12_firstOf 11 rfl) (tgt := 54) rfl (fun hc => ?_) (fun hc => ?_)
    · rw [if_pos hc] at h
      refine R_iconst (v := (-1)) (dd dt_12_firstOf 29 rfl) ic_m1 ?_
      obtain rfl := Option.some.inj h
      exact R_iret rfl (dd dt_12_firstOf 30 rfl) hQ
    · rw [if_neg hc] at h
      refine R_aload_n (dd dt_12_firstOf 12 rfl) 0 rfl rfl ?_
      refine R_iload_n (dd dt_12_firstOf 13 rfl) 1 rfl rfl ?_
      refine R_iload (dd dt_12_firstOf 14 rfl) rfl ?_
      refine R_iconst (v := 0) (dd dt_12_firstOf 15 rfl) ic_0 ?_
      obtain ⟨x4, e3, h⟩ := bi_el h
      refine c_12_218 (As := [.int a1, .int v4, .int 0]) (st1 := [.int x4]) rfl (fun Q1 hq => ok_12_lineOf e3 k0 hq) k0 rfl rfl (Nat.le_of_ble_eq_true rfl) (dd dt_12_firstOf 16 rfl) rfl ?_
      refine R_iload_n (dd dt_12_firstOf 17 rfl) 2 rfl rfl ?_
      refine R_cmpne (dd dt_12_firstOf 18 rfl) (tgt := 48) rfl (fun hc => ?_) (fun hc => ?_)
      · rw [if_neg hc] at h
        refine R_iinc (v := 1) (lv' := [some (.ref a0), some (.int a1), some (.int a2), some (.int a3), some (.int (v4 + 1))]) (dd dt_12_firstOf 27 rfl) (by decide) rfl rfl ic_1 rfl ?_
        refine R_goto (dd dt_12_firstOf 28 rfl) (tgt := 3) rfl ?_
        exact R_mask [true, true, true, true, true] rfl (ok_12_firstOf_l3 a0 a1 a2 a3 k0 n (v4 + 1) μ _ h hQ)
      · rw [if_pos hc] at h
        refine R_aload_n (dd dt_12_firstOf 19 rfl) 0 rfl rfl ?_
        refine R_iload_n (dd dt_12_firstOf 20 rfl) 1 rfl rfl ?_
        refine R_iload (dd dt_12_firstOf 21 rfl) rfl ?_
        refine R_iload_n (dd dt_12_firstOf 22 rfl) 3 rfl rfl ?_
        obtain ⟨z6, e5, h⟩ := bi_el h
        refine c_12_225 (As := [.int a1, .int v4, .int a3]) (st1 := [.int z6.1]) rfl (fun Q1 hq => ok_12_holds e5 k0 hq) k0 rfl rfl (Nat.le_of_ble_eq_true rfl) (dd dt_12_firstOf 23 rfl) rfl ?_
        refine R_ifeq (dd dt_12_firstOf 24 rfl) (tgt := 48) rfl (fun hc => ?_) (fun hc => ?_)
        · rw [if_pos hc] at h
          refine R_iinc (v := 1) (lv' := [some (.ref a0), some (.int a1), some (.int a2), some (.int a3), some (.int (v4 + 1))]) (dd dt_12_firstOf 27 rfl) (by decide) rfl rfl ic_1 rfl ?_
          refine R_goto (dd dt_12_firstOf 28 rfl) (tgt := 3) rfl ?_
          exact R_mask [true, true, true, true, true] rfl (ok_12_firstOf_l3 a0 a1 a2 a3 k0 n (v4 + 1) z6.2 _ h hQ)
        · rw [if_neg hc] at h
          refine R_iload (dd dt_12_firstOf 25 rfl) rfl ?_
          obtain rfl := Option.some.inj h
          exact R_iret rfl (dd dt_12_firstOf 26 rfl) hQ
def f_12_firstOf (a0 : Nat) (a1 : Int32) (a2 : Int32) (a3 : Int32) (μ : mm) : Option (Int32 × mm) :=
  f_12_firstOf_l3 a0 a1 a2 a3 FU 0 μ
set_option maxRecDepth 100000 in
set_option maxHeartbeats 4000000 in
theorem ok_12_firstOf {l : Launch} {E : ce} {d : Nat}  {a0 : Nat} {a1 : Int32} {a2 : Int32} {a3 : Int32} {μ : mm} {r : Int32 × mm} {Q : Option Value → mm → Prop} (h : f_12_firstOf a0 a1 a2 a3 μ = some r) (k0 : kd a0 = 12) (hQ : Q (some (.int r.1)) r.2) : Ct l E (d + 2) yX12_firstOf m_12_firstOf [.ref a0, .int a1, .int a2, .int a3] μ Q := by
  refine Ct_of (lv := [some (.ref a0), some (.int a1), some (.int a2), some (.int a3), none]) (by decide) rfl (Nat.le_of_ble_eq_true rfl) rfl ?_
  unfold f_12_firstOf at h
  refine R_iconst (v := 0) (dd dt_12_firstOf 0 rfl) ic_0 ?_
  refine R_istore (lv' := [some (.ref a0), some (.int a1), some (.int a2), some (.int a3), some (.int 0)]) (dd dt_12_firstOf 1 rfl) (by decide) rfl rfl ?_
  exact R_mask [true, true, true, true, true] rfl (ok_12_firstOf_l3 a0 a1 a2 a3 k0 FU 0 μ _ h hQ)
