/-! LongStrike.shelf(III)I -/
def tab_11_shelf : List (Nat × Instr × Nat) := [(0, .iload_n 1, 1), (1, .invokestatic 482, 3), (4, .ifCond .ne 5, 3), (7, .iconst (-1), 1), (8, .ireturn, 1), (9, .iload_n 2, 1), (10, .tableswitch 109 0 4 #[34, 50, 66, 82, 100], 34), (44, .aload_n 0, 1), (45, .iload_n 1, 1), (46, .iload_n 2, 1), (47, .iload_n 3, 1), (48, .aload_n 0, 1), (49, .getfield 10, 3), (52, .iload_n 3, 1), (53, .invokevirtual 145, 3), (56, .invokevirtual 485, 3), (59, .ireturn, 1), (60, .aload_n 0, 1), (61, .iload_n 1, 1), (62, .iload_n 2, 1), (63, .iload_n 3, 1), (64, .aload_n 0, 1), (65, .getfield 10, 3), (68, .iload_n 3, 1), (69, .invokevirtual 224, 3), (72, .invokevirtual 485, 3), (75, .ireturn, 1), (76, .aload_n 0, 1), (77, .iload_n 1, 1), (78, .iload_n 2, 1), (79, .iload_n 3, 1), (80, .aload_n 0, 1), (81, .getfield 10, 3), (84, .iload_n 3, 1), (85, .invokevirtual 129, 3), (88, .invokevirtual 485, 3), (91, .ireturn, 1), (92, .iload_n 3, 1), (93, .invokestatic 468, 3), (96, .ifCond .eq 12, 3), (99, .aload_n 0, 1), (100, .iload_n 1, 1), (101, .iload_n 3, 1), (102, .invokevirtual 489, 3), (105, .goto 4, 3), (108, .iconst (-1), 1), (109, .ireturn, 1), (110, .aload_n 0, 1), (111, .iload_n 1, 1), (112, .iload_n 2, 1), (113, .iconst 0, 1), (114, .iconst 1, 1), (115, .invokevirtual 485, 3), (118, .ireturn, 1), (119, .iconst (-1), 1), (120, .ireturn, 1)]
set_option maxRecDepth 100000 in
theorem dt_11_shelf : ∀ q ∈ tab_11_shelf, decode m_11_shelf.2.1 q.1 = .ok q.2 := by decide +kernel
def f_11_shelf (a0 : Nat) (a1 : Int32) (a2 : Int32) (a3 : Int32) (μ : mm) : Option (Int32 × mm) :=
  (f_11_isShelf a1 μ).bind fun x2 =>
  if x2 = 0 then
    some ((-1), μ)
  else
    if a2 = 0 then
      (f_9_hasHousehold (rf a0 0) a3 μ).bind fun x4 =>
      (f_11_holdThing a0 a1 a2 a3 x4 μ).bind fun z6 =>
      some (z6.1, z6.2)
    else if a2 = 1 then
      (f_9_hasShop (rf a0 0) a3 μ).bind fun x8 =>
      (f_11_holdThing a0 a1 a2 a3 x8 μ).bind fun z10 =>
      some (z10.1, z10.2)
    else if a2 = 2 then
      (f_9_hasPit (rf a0 0) a3 μ).bind fun x12 =>
      (f_11_holdThing a0 a1 a2 a3 x12 μ).bind fun z14 =>
      some (z14.1, z14.2)
    else if a2 = 3 then
      (f_11_isSheet a3 μ).bind fun x16 =>
      if x16 = 0 then
        some ((-1), μ)
      else
        (f_11_holdRow a0 a1 a3 μ).bind fun z18 =>
        some (z18.1, z18.2)
    else if a2 = 4 then
      (f_11_holdThing a0 a1 a2 0 1 μ).bind fun z20 =>
      some (z20.1, z20.2)
    else 
      some ((-1), μ)
set_option maxRecDepth 100000 in
set_option maxHeartbeats 4000000 in
theorem ok_11_shelf {l : Launch} {E : ce} {d : Nat}  {a0 : Nat} {a1 : Int32} {a2 : Int32} {a3 : Int32} {μ : mm} {r : Int32 × mm} {Q : Option Value → mm → Prop} (h : f_11_shelf a0 a1 a2 a3 μ = some r) (k0 : kd a0 = 11) (hQ : Q (some (.int r.1)) r.2) : Ct l E (d + 2) yX11_shelf m_11_shelf [.ref a0, .int a1, .int a2, .int a3] μ Q := by
  refine Ct_of (lv := [some (.ref a0), some (.int a1), some (.int a2), some (.int a3)]) (by decide) rfl (Nat.le_of_ble_eq_true rfl) rfl ?_
  unfold f_11_shelf at h
  refine R_iload_n (dd dt_11_shelf 0 rfl) 1 rfl rfl ?_
  obtain ⟨x2, e1, h⟩ := bi_el h
  refine c_11_482 (As := [.int a1]) (st1 := [.int x2]) rfl (fun Q1 hq => ok_11_isShelf e1 hq) rfl rfl (Nat.le_of_ble_eq_true rfl) (dd dt_11_shelf 1 rfl) rfl ?_
  refine R_ifne (dd dt_11_shelf 2 rfl) (tgt := 9) rfl (fun hc => ?_) (fun hc => ?_)
  · rw [if_neg hc] at h
    refine R_iload_n (dd dt_11_shelf 5 rfl) 2 rfl rfl ?_
    by_cases hs0 : a2 = 0
    · refine R_tabIn (off := 34) (tgt := 44) (dd dt_11_shelf 6 rfl) (by rw [hs0]; decide) (by rw [hs0]; decide) (by rw [hs0]; rfl) rfl ?_
      rw [if_pos hs0] at h
      refine R_aload_n (dd dt_11_shelf 7 rfl) 0 rfl rfl ?_
      refine R_iload_n (dd dt_11_shelf 8 rfl) 1 rfl rfl ?_
      refine R_iload_n (dd dt_11_shelf 9 rfl) 2 rfl rfl ?_
      refine R_iload_n (dd dt_11_shelf 10 rfl) 3 rfl rfl ?_
      refine R_aload_n (dd dt_11_shelf 11 rfl) 0 rfl rfl ?_
      refine g_11_10 rfl k0 (dd dt_11_shelf 12 rfl) ?_
      refine R_iload_n (dd dt_11_shelf 13 rfl) 3 rfl rfl ?_
      obtain ⟨x4, e3, h⟩ := bi_el h
      refine c_11_145 (As := [.int a3]) (st1 := [.int x4, .int a3, .int a2, .int a1, .ref a0]) rfl (fun Q1 hq => ok_9_hasHousehold e3 (ty_11_0 k0) hq) (ty_11_0 k0) rfl rfl (Nat.le_of_ble_eq_true rfl) (dd dt_11_shelf 14 rfl) rfl ?_
      obtain ⟨z6, e5, h⟩ := bi_el h
      refine c_11_485 (As := [.int a1, .int a2, .int a3, .int x4]) (st1 := [.int z6.1]) rfl (fun Q1 hq => ok_11_holdThing e5 k0 hq) k0 rfl rfl (Nat.le_of_ble_eq_true rfl) (dd dt_11_shelf 15 rfl) rfl ?_
      obtain rfl := Option.some.inj h
      exact R_iret rfl (dd dt_11_shelf 16 rfl) hQ
    rw [if_neg hs0] at h
    by_cases hs1 : a2 = 1
    · refine R_tabIn (off := 50) (tgt := 60) (dd dt_11_shelf 6 rfl) (by rw [hs1]; decide) (by rw [hs1]; decide) (by rw [hs1]; rfl) rfl ?_
      rw [if_pos hs1] at h
      refine R_aload_n (dd dt_11_shelf 17 rfl) 0 rfl rfl ?_
      refine R_iload_n (dd dt_11_shelf 18 rfl) 1 rfl rfl ?_
      refine R_iload_n (dd dt_11_shelf 19 rfl) 2 rfl rfl ?_
      refine R_iload_n (dd dt_11_shelf 20 rfl) 3 rfl rfl ?_
      refine R_aload_n (dd dt_11_shelf 21 rfl) 0 rfl rfl ?_
      refine g_11_10 rfl k0 (dd dt_11_shelf 22 rfl) ?_
      refine R_iload_n (dd dt_11_shelf 23 rfl) 3 rfl rfl ?_
      obtain ⟨x8, e7, h⟩ := bi_el h
      refine c_11_224 (As := [.int a3]) (st1 := [.int x8, .int a3, .int a2, .int a1, .ref a0]) rfl (fun Q1 hq => ok_9_hasShop e7 (ty_11_0 k0) hq) (ty_11_0 k0) rfl rfl (Nat.le_of_ble_eq_true rfl) (dd dt_11_shelf 24 rfl) rfl ?_
      obtain ⟨z10, e9, h⟩ := bi_el h
      refine c_11_485 (As := [.int a1, .int a2, .int a3, .int x8]) (st1 := [.int z10.1]) rfl (fun Q1 hq => ok_11_holdThing e9 k0 hq) k0 rfl rfl (Nat.le_of_ble_eq_true rfl) (dd dt_11_shelf 25 rfl) rfl ?_
      obtain rfl := Option.some.inj h
      exact R_iret rfl (dd dt_11_shelf 26 rfl) hQ
    rw [if_neg hs1] at h
    by_cases hs2 : a2 = 2
    · refine R_tabIn (off := 66) (tgt := 76) (dd dt_11_shelf 6 rfl) (by rw [hs2]; decide) (by rw [hs2]; decide) (by rw [hs2]; rfl) rfl ?_
      rw [if_pos hs2] at h
      refine R_aload_n (dd dt_11_shelf 27 rfl) 0 rfl rfl ?_
      refine R_iload_n (dd dt_11_shelf 28 rfl) 1 rfl rfl ?_
      refine R_iload_n (dd dt_11_shelf 29 rfl) 2 rfl rfl ?_
      refine R_iload_n (dd dt_11_shelf 30 rfl) 3 rfl rfl ?_
      refine R_aload_n (dd dt_11_shelf 31 rfl) 0 rfl rfl ?_
      refine g_11_10 rfl k0 (dd dt_11_shelf 32 rfl) ?_
      refine R_iload_n (dd dt_11_shelf 33 rfl) 3 rfl rfl ?_
      obtain ⟨x12, e11, h⟩ := bi_el h
      refine c_11_129 (As := [.int a3]) (st1 := [.int x12, .int a3, .int a2, .int a1, .ref a0]) rfl (fun Q1 hq => ok_9_hasPit e11 (ty_11_0 k0) hq) (ty_11_0 k0) rfl rfl (Nat.le_of_ble_eq_true rfl) (dd dt_11_shelf 34 rfl) rfl ?_
      obtain ⟨z14, e13, h⟩ := bi_el h
      refine c_11_485 (As := [.int a1, .int a2, .int a3, .int x12]) (st1 := [.int z14.1]) rfl (fun Q1 hq => ok_11_holdThing e13 k0 hq) k0 rfl rfl (Nat.le_of_ble_eq_true rfl) (dd dt_11_shelf 35 rfl) rfl ?_
      obtain rfl := Option.some.inj h
      exact R_iret rfl (dd dt_11_shelf 36 rfl) hQ
    rw [if_neg hs2] at h
    by_cases hs3 : a2 = 3
    · refine R_tabIn (off := 82) (tgt := 92) (dd dt_11_shelf 6 rfl) (by rw [hs3]; decide) (by rw [hs3]; decide) (by rw [hs3]; rfl) rfl ?_
      rw [if_pos hs3] at h
      refine R_iload_n (dd dt_11_shelf 37 rfl) 3 rfl rfl ?_
      obtain ⟨x16, e15, h⟩ := bi_el h
      refine c_11_468 (As := [.int a3]) (st1 := [.int x16]) rfl (fun Q1 hq => ok_11_isSheet e15 hq) rfl rfl (Nat.le_of_ble_eq_true rfl) (dd dt_11_shelf 38 rfl) rfl ?_
      refine R_ifeq (dd dt_11_shelf 39 rfl) (tgt := 108) rfl (fun hc => ?_) (fun hc => ?_)
      · rw [if_pos hc] at h
        refine R_iconst (v := (-1)) (dd dt_11_shelf 45 rfl) ic_m1 ?_
        obtain rfl := Option.some.inj h
        exact R_iret rfl (dd dt_11_shelf 46 rfl) hQ
      · rw [if_neg hc] at h
        refine R_aload_n (dd dt_11_shelf 40 rfl) 0 rfl rfl ?_
        refine R_iload_n (dd dt_11_shelf 41 rfl) 1 rfl rfl ?_
        refine R_iload_n (dd dt_11_shelf 42 rfl) 3 rfl rfl ?_
        obtain ⟨z18, e17, h⟩ := bi_el h
        refine c_11_489 (As := [.int a1, .int a3]) (st1 := [.int z18.1]) rfl (fun Q1 hq => ok_11_holdRow e17 k0 hq) k0 rfl rfl (Nat.le_of_ble_eq_true rfl) (dd dt_11_shelf 43 rfl) rfl ?_
        refine R_goto (dd dt_11_shelf 44 rfl) (tgt := 109) rfl ?_
        obtain rfl := Option.some.inj h
        exact R_iret rfl (dd dt_11_shelf 46 rfl) hQ
    rw [if_neg hs3] at h
    by_cases hs4 : a2 = 4
    · refine R_tabIn (off := 100) (tgt := 110) (dd dt_11_shelf 6 rfl) (by rw [hs4]; decide) (by rw [hs4]; decide) (by rw [hs4]; rfl) rfl ?_
      rw [if_pos hs4] at h
      refine R_aload_n (dd dt_11_shelf 47 rfl) 0 rfl rfl ?_
      refine R_iload_n (dd dt_11_shelf 48 rfl) 1 rfl rfl ?_
      refine R_iload_n (dd dt_11_shelf 49 rfl) 2 rfl rfl ?_
      refine R_iconst (v := 0) (dd dt_11_shelf 50 rfl) ic_0 ?_
      refine R_iconst (v := 1) (dd dt_11_shelf 51 rfl) ic_1 ?_
      obtain ⟨z20, e19, h⟩ := bi_el h
      refine c_11_485 (As := [.int a1, .int a2, .int 0, .int 1]) (st1 := [.int z20.1]) rfl (fun Q1 hq => ok_11_holdThing e19 k0 hq) k0 rfl rfl (Nat.le_of_ble_eq_true rfl) (dd dt_11_shelf 52 rfl) rfl ?_
      obtain rfl := Option.some.inj h
      exact R_iret rfl (dd dt_11_shelf 53 rfl) hQ
    rw [if_neg hs4] at h
    refine R_tabOut (tgt := 119) (dd dt_11_shelf 6 rfl) (by have hn0 := lv_neT hs0 (a := 0) (by decide); have hn1 := lv_neT hs1 (a := 1) (by decide); have hn2 := lv_neT hs2 (a := 2) (by decide); have hn3 := lv_neT hs3 (a := 3) (by decide); have hn4 := lv_neT hs4 (a := 4) (by decide); omega) rfl ?_
    refine R_iconst (v := (-1)) (dd dt_11_shelf 54 rfl) ic_m1 ?_
    obtain rfl := Option.some.inj h
    exact R_iret rfl (dd dt_11_shelf 55 rfl) hQ
  · rw [if_pos hc] at h
    refine R_iconst (v := (-1)) (dd dt_11_shelf 3 rfl) ic_m1 ?_
    obtain rfl := Option.some.inj h
    exact R_iret rfl (dd dt_11_shelf 4 rfl) hQ
/-! LongStrike.isBare(I)Z -/
def tab_11_isBare : List (Nat × Instr × Nat) := [(0, .aload_n 0, 1), (1, .getfield 68, 3), (4, .iload_n 1, 1), (5, .iaload, 1), (6, .tableswitch 98 0 3 #[30, 52, 74, 96], 30), (36, .aload_n 0, 1), (37, .getfield 10, 3), (40, .aload_n 0, 1), (41, .getfield 71, 3), (44, .iload_n 1, 1), (45, .iaload, 1), (46, .invokevirtual 145, 3), (49, .ifCond .ne 7, 3), (52, .iconst 1, 1), (53, .goto 4, 3), (56, .iconst 0, 1), (57, .ireturn, 1), (58, .aload_n 0, 1), (59, .getfield 10, 3), (62, .aload_n 0, 1), (63, .getfield 71, 3), (66, .iload_n 1, 1), (67, .iaload, 1), (68, .invokevirtual 224, 3), (71, .ifCond .ne 7, 3), (74, .iconst 1, 1), (75, .goto 4, 3), (78, .iconst 0, 1), (79, .ireturn, 1), (80, .aload_n 0, 1), (81, .getfield 10, 3), (84, .aload_n 0, 1), (85, .getfield 71, 3), (88, .iload_n 1, 1), (89, .iaload, 1), (90, .invokevirtual 129, 3), (93, .ifCond .ne 7, 3), (96, .iconst 1, 1), (97, .goto 4, 3), (100, .iconst 0, 1), (101, .ireturn, 1), (102, .iconst 0, 1), (103, .ireturn, 1), (104, .iconst 1, 1), (105, .ireturn, 1)]
set_option maxRecDepth 100000 in
theorem dt_11_isBare : ∀ q ∈ tab_11_isBare, decode m_11_isBare.2.1 q.1 = .ok q.2 := by decide +kernel
def f_11_isBare (a0 : Nat) (a1 : Int32) (μ : mm) : Option (Int32) :=
  (ld μ (rf a0 14) a1).bind fun x1 =>
  if x1 = 0 then
    (ld μ (rf a0 15) a1).bind fun x3 =>
    (f_9_hasHousehold (rf a0 0) x3 μ).bind fun x6 =>
    if x6 = 0 then
      some 1
    else
      some 0
  else if x1 = 1 then
    (ld μ (rf a0 15) a1).bind fun x7 =>
    (f_9_hasShop (rf a0 0) x7 μ).bind fun x10 =>
    if x10 = 0 then
      some 1
    else
      some 0
  else if x1 = 2 then
    (ld μ (rf a0 15) a1).bind fun x11 =>
    (f_9_hasPit (rf a0 0) x11 μ).bind fun x14 =>
    if x14 = 0 then
      some 1
    else
      some 0
  else if x1 = 3 then
    some 0
  else 
    some 1
set_option maxRecDepth 100000 in
set_option maxHeartbeats 4000000 in
theorem ok_11_isBare {l : Launch} {E : ce} {d : Nat}  {a0 : Nat} {a1 : Int32} {μ : mm} {r : Int32} {Q : Option Value → mm → Prop} (h : f_11_isBare a0 a1 μ = some r) (k0 : kd a0 = 11) (hQ : Q (some (.int r)) μ) : Ct l E (d + 2) yX11_isBare m_11_isBare [.ref a0, .int a1] μ Q := by
  refine Ct_of (lv := [some (.ref a0), some (.int a1)]) (by decide) rfl (Nat.le_of_ble_eq_true rfl) rfl ?_
  unfold f_11_isBare at h
  refine R_aload_n (dd dt_11_isBare 0 rfl) 0 rfl rfl ?_
  refine g_11_68 rfl k0 (dd dt_11_isBare 1 rfl) ?_
  refine R_iload_n (dd dt_11_isBare 2 rfl) 1 rfl rfl ?_
  obtain ⟨x1, e2, h⟩ := bi_el h
  refine R_ild e2 (ty_11_14 k0) (dd dt_11_isBare 3 rfl) ?_
  by_cases hs0 : x1 = 0
  · refine R_tabIn (off := 30) (tgt := 36) (dd dt_11_isBare 4 rfl) (by rw [hs0]; decide) (by rw [hs0]; decide) (by rw [hs0]; rfl) rfl ?_
    rw [if_pos hs0] at h
    refine R_aload_n (dd dt_11_isBare 5 rfl) 0 rfl rfl ?_
    refine g_11_10 rfl k0 (dd dt_11_isBare 6 rfl) ?_
    refine R_aload_n (dd dt_11_isBare 7 rfl) 0 rfl rfl ?_
    refine g_11_71 rfl k0 (dd dt_11_isBare 8 rfl) ?_
    refine R_iload_n (dd dt_11_isBare 9 rfl) 1 rfl rfl ?_
    obtain ⟨x3, e4, h⟩ := bi_el h
    refine R_ild e4 (ty_11_15 k0) (dd dt_11_isBare 10 rfl) ?_
    obtain ⟨x6, e5, h⟩ := bi_el h
    refine c_11_145 (As := [.int x3]) (st1 := [.int x6]) rfl (fun Q1 hq => ok_9_hasHousehold e5 (ty_11_0 k0) hq) (ty_11_0 k0) rfl rfl (Nat.le_of_ble_eq_true rfl) (dd dt_11_isBare 11 rfl) rfl ?_
    refine R_ifne (dd dt_11_isBare 12 rfl) (tgt := 56) rfl (fun hc => ?_) (fun hc => ?_)
    · rw [if_neg hc] at h
      refine R_iconst (v := 0) (dd dt_11_isBare 15 rfl) ic_0 ?_
      obtain rfl := Option.some.inj h
      exact R_zret rfl (by decide) (dd dt_11_isBare 16 rfl) hQ
    · rw [if_pos hc] at h
      refine R_iconst (v := 1) (dd dt_11_isBare 13 rfl) ic_1 ?_
      refine R_goto (dd dt_11_isBare 14 rfl) (tgt := 57) rfl ?_
      obtain rfl := Option.some.inj h
      exact R_zret rfl (by decide) (dd dt_11_isBare 16 rfl) hQ
  rw [if_neg hs0] at h
  by_cases hs1 : x1 = 1
  · refine R_tabIn (off := 52) (tgt := 58) (dd dt_11_isBare 4 rfl) (by rw [hs1]; decide) (by rw [hs1]; decide) (by rw [hs1]; rfl) rfl ?_
    rw [if_pos hs1] at h
    refine R_aload_n (dd dt_11_isBare 17 rfl) 0 rfl rfl ?_
    refine g_11_10 rfl k0 (dd dt_11_isBare 18 rfl) ?_
    refine R_aload_n (dd dt_11_isBare 19 rfl) 0 rfl rfl ?_
    refine g_11_71 rfl k0 (dd dt_11_isBare 20 rfl) ?_
    refine R_iload_n (dd dt_11_isBare 21 rfl) 1 rfl rfl ?_
    obtain ⟨x7, e8, h⟩ := bi_el h
    refine R_ild e8 (ty_11_15 k0) (dd dt_11_isBare 22 rfl) ?_
    obtain ⟨x10, e9, h⟩ := bi_el h
    refine c_11_224 (As := [.int x7]) (st1 := [.int x10]) rfl (fun Q1 hq => ok_9_hasShop e9 (ty_11_0 k0) hq) (ty_11_0 k0) rfl rfl (Nat.le_of_ble_eq_true rfl) (dd dt_11_isBare 23 rfl) rfl ?_
    refine R_ifne (dd dt_11_isBare 24 rfl) (tgt := 78) rfl (fun hc => ?_) (fun hc => ?_)
    · rw [if_neg hc] at h
      refine R_iconst (v := 0) (dd dt_11_isBare 27 rfl) ic_0 ?_
      obtain rfl := Option.some.inj h
      exact R_zret rfl (by decide) (dd dt_11_isBare 28 rfl) hQ
    · rw [if_pos hc] at h
      refine R_iconst (v := 1) (dd dt_11_isBare 25 rfl) ic_1 ?_
      refine R_goto (dd dt_11_isBare 26 rfl) (tgt := 79) rfl ?_
      obtain rfl := Option.some.inj h
      exact R_zret rfl (by decide) (dd dt_11_isBare 28 rfl) hQ
  rw [if_neg hs1] at h
  by_cases hs2 : x1 = 2
  · refine R_tabIn (off := 74) (tgt := 80) (dd dt_11_isBare 4 rfl) (by rw [hs2]; decide) (by rw [hs2]; decide) (by rw [hs2]; rfl) rfl ?_
    rw [if_pos hs2] at h
    refine R_aload_n (dd dt_11_isBare 29 rfl) 0 rfl rfl ?_
    refine g_11_10 rfl k0 (dd dt_11_isBare 30 rfl) ?_
    refine R_aload_n (dd dt_11_isBare 31 rfl) 0 rfl rfl ?_
    refine g_11_71 rfl k0 (dd dt_11_isBare 32 rfl) ?_
    refine R_iload_n (dd dt_11_isBare 33 rfl) 1 rfl rfl ?_
    obtain ⟨x11, e12, h⟩ := bi_el h
    refine R_ild e12 (ty_11_15 k0) (dd dt_11_isBare 34 rfl) ?_
    obtain ⟨x14, e13, h⟩ := bi_el h
    refine c_11_129 (As := [.int x11]) (st1 := [.int x14]) rfl (fun Q1 hq => ok_9_hasPit e13 (ty_11_0 k0) hq) (ty_11_0 k0) rfl rfl (Nat.le_of_ble_eq_true rfl) (dd dt_11_isBare 35 rfl) rfl ?_
    refine R_ifne (dd dt_11_isBare 36 rfl) (tgt := 100) rfl (fun hc => ?_) (fun hc => ?_)
    · rw [if_neg hc] at h
      refine R_iconst (v := 0) (dd dt_11_isBare 39 rfl) ic_0 ?_
      obtain rfl := Option.some.inj h
      exact R_zret rfl (by decide) (dd dt_11_isBare 40 rfl) hQ
    · rw [if_pos hc] at h
      refine R_iconst (v := 1) (dd dt_11_isBare 37 rfl) ic_1 ?_
      refine R_goto (dd dt_11_isBare 38 rfl) (tgt := 101) rfl ?_
      obtain rfl := Option.some.inj h
      exact R_zret rfl (by decide) (dd dt_11_isBare 40 rfl) hQ
  rw [if_neg hs2] at h
  by_cases hs3 : x1 = 3
  · refine R_tabIn (off := 96) (tgt := 102) (dd dt_11_isBare 4 rfl) (by rw [hs3]; decide) (by rw [hs3]; decide) (by rw [hs3]; rfl) rfl ?_
    rw [if_pos hs3] at h
    refine R_iconst (v := 0) (dd dt_11_isBare 41 rfl) ic_0 ?_
    obtain rfl := Option.some.inj h
    exact R_zret rfl (by decide) (dd dt_11_isBare 42 rfl) hQ
  rw [if_neg hs3] at h
  refine R_tabOut (tgt := 104) (dd dt_11_isBare 4 rfl) (by have hn0 := lv_neT hs0 (a := 0) (by decide); have hn1 := lv_neT hs1 (a := 1) (by decide); have hn2 := lv_neT hs2 (a := 2) (by decide); have hn3 := lv_neT hs3 (a := 3) (by decide); omega) rfl ?_
  refine R_iconst (v := 1) (dd dt_11_isBare 43 rfl) ic_1 ?_
  obtain rfl := Option.some.inj h
  exact R_zret rfl (by decide) (dd dt_11_isBare 44 rfl) hQ
/-! LongStrike.kindOn(I)I -/
def tab_11_kindOn : List (Nat × Instr × Nat) := [(0, .aload_n 0, 1), (1, .getfield 71, 3), (4, .iload_n 1, 1), (5, .iaload, 1), (6, .istore_n 2, 1), (7, .aload_n 0, 1), (8, .getfield 68, 3), (11, .iload_n 1, 1), (12, .iaload, 1), (13, .ifCond .ne 41, 3), (16, .aload_n 0, 1), (17, .getfield 10, 3), (20, .getfield 135, 3), (23, .iload_n 2, 1), (24, .aaload, 1), (25, .getfield 178, 3), (28, .ifCond .eq 5, 3), (31, .iconst 5, 1), (32, .ireturn, 1), (33, .aload_n 0, 1), (34, .getfield 10, 3), (37, .getfield 135, 3), (40, .iload_n 2, 1), (41, .aaload, 1), (42, .getfield 185, 3), (45, .ifCond .eq 7, 3), (48, .iconst 4, 1), (49, .goto 4, 3), (52, .iconst 1, 1), (53, .ireturn, 1), (54, .aload_n 0, 1), (55, .getfield 68, 3), (58, .iload_n 1, 1), (59, .iaload, 1), (60, .iconst 1, 1), (61, .if_icmp .ne 5, 3), (64, .iconst 2, 1), (65, .ireturn, 1), (66, .aload_n 0, 1), (67, .getfield 10, 3), (70, .getfield 106, 3), (73, .iload_n 2, 1), (74, .aaload, 1), (75, .invokevirtual 206, 3), (78, .ifCond .eq 8, 3), (81, .bipush 6, 2), (83, .goto 4, 3), (86, .iconst 3, 1), (87, .ireturn, 1)]
set_option maxRecDepth 100000 in
theorem dt_11_kindOn : ∀ q ∈ tab_11_kindOn, decode m_11_kindOn.2.1 q.1 = .ok q.2 := by decide +kernel
def f_11_kindOn (a0 : Nat) (a1 : Int32) (μ : mm) : Option (Int32) :=
  (ld μ (rf a0 15) a1).bind fun x1 =>
  (ld μ (rf a0 14) a1).bind fun x3 =>
  if x3 = 0 then
    (lda (rf (rf a0 0) 10) x1).bind fun r11 =>
    if (μ r11 10) = 0 then
      (lda (rf (rf a0 0) 10) x1).bind fun r13 =>
      if (μ r13 11) = 0 then
        some 1
      else
        some 4
    else
      some 5
  else
    (ld μ (rf a0 14) a1).bind fun x5 =>
    if x5 = 1 then
      some 2
    else
      (lda (rf (rf a0 0) 8) x1).bind fun r7 =>
      (f_4_isLost r7 μ).bind fun x10 =>
      if x10 = 0 then
        some 3
      else
        some 6
set_option maxRecDepth 100000 in
set_option maxHeartbeats 4000000 in
theorem ok_11_kindOn {l : Launch} {E : ce} {d : Nat}  {a0 : Nat} {a1 : Int32} {μ : mm} {r : Int32} {Q : Option Value → mm → Prop} (h : f_11_kindOn a0 a1 μ = some r) (k0 : kd a0 = 11) (hQ : Q (some (.int r)) μ) : Ct l E (d + 1) yX11_kindOn m_11_kindOn [.ref a0, .int a1] μ Q := by
  refine Ct_of (lv := [some (.ref a0), some (.int a1), none]) (by decide) rfl (Nat.le_of_ble_eq_true rfl) rfl ?_
  unfold f_11_kindOn at h
  refine R_aload_n (dd dt_11_kindOn 0 rfl) 0 rfl rfl ?_
  refine g_11_71 rfl k0 (dd dt_11_kindOn 1 rfl) ?_
  refine R_iload_n (dd dt_11_kindOn 2 rfl) 1 rfl rfl ?_
  obtain ⟨x1, e2, h⟩ := bi_el h
  refine R_ild e2 (ty_11_15 k0) (dd dt_11_kindOn 3 rfl) ?_
  refine R_istore_n (lv' := [some (.ref a0), some (.int a1), some (.int x1)]) (dd dt_11_kindOn 4 rfl) 2 rfl (by decide) rfl rfl ?_
  refine R_aload_n (dd dt_11_kindOn 5 rfl) 0 rfl rfl ?_
  refine g_11_68 rfl k0 (dd dt_11_kindOn 6 rfl) ?_
  refine R_iload_n (dd dt_11_kindOn 7 rfl) 1 rfl rfl ?_
  obtain ⟨x3, e4, h⟩ := bi_el h
  refine R_ild e4 (ty_11_14 k0) (dd dt_11_kindOn 8 rfl) ?_
  refine R_ifne (dd dt_11_kindOn 9 rfl) (tgt := 54) rfl (fun hc => ?_) (fun hc => ?_)
  · rw [if_neg hc] at h
    refine R_aload_n (dd dt_11_kindOn 30 rfl) 0 rfl rfl ?_
    refine g_11_68 rfl k0 (dd dt_11_kindOn 31 rfl) ?_
    refine R_iload_n (dd dt_11_kindOn 32 rfl) 1 rfl rfl ?_
    obtain ⟨x5, e6, h⟩ := bi_el h
    refine R_ild e6 (ty_11_14 k0) (dd dt_11_kindOn 33 rfl) ?_
    refine R_iconst (v := 1) (dd dt_11_kindOn 34 rfl) ic_1 ?_
    refine R_cmpne (dd dt_11_kindOn 35 rfl) (tgt := 66) rfl (fun hc => ?_) (fun hc => ?_)
    · rw [if_neg hc] at h
      refine R_aload_n (dd dt_11_kindOn 38 rfl) 0 rfl rfl ?_
      refine g_11_10 rfl k0 (dd dt_11_kindOn 39 rfl) ?_
      refine g_11_106 rfl (ty_11_0 k0) (dd dt_11_kindOn 40 rfl) ?_
      refine R_iload_n (dd dt_11_kindOn 41 rfl) 2 rfl rfl ?_
      obtain ⟨r7, e8, h⟩ := bi_el h
      refine R_aald (t0 := 4) e8 (ty_9_8 (ty_11_0 k0)) (by decide) (by decide) rfl rfl (dd dt_11_kindOn 42 rfl) ?_
      obtain ⟨x10, e9, h⟩ := bi_el h
      refine c_11_206 (As := []) (st1 := [.int x10]) rfl (fun Q1 hq => ok_4_isLost e9 (tl_24 e8 (ty_9_8 (ty_11_0 k0))) hq) (tl_24 e8 (ty_9_8 (ty_11_0 k0))) rfl rfl (Nat.le_of_ble_eq_true rfl) (dd dt_11_kindOn 43 rfl) rfl ?_
      refine R_ifeq (dd dt_11_kindOn 44 rfl) (tgt := 86) rfl (fun hc => ?_) (fun hc => ?_)
      · rw [if_pos hc] at h
        refine R_iconst (v := 3) (dd dt_11_kindOn 47 rfl) ic_3 ?_
        obtain rfl := Option.some.inj h
        exact R_iret rfl (dd dt_11_kindOn 48 rfl) hQ
      · rw [if_neg hc] at h
        refine R_bipush (v := 6) (dd dt_11_kindOn 45 rfl) bp_6 ?_
        refine R_goto (dd dt_11_kindOn 46 rfl) (tgt := 87) rfl ?_
        obtain rfl := Option.some.inj h
        exact R_iret rfl (dd dt_11_kindOn 48 rfl) hQ
    · rw [if_pos hc] at h
      refine R_iconst (v := 2) (dd dt_11_kindOn 36 rfl) ic_2 ?_
      obtain rfl := Option.some.inj h
      exact R_iret rfl (dd dt_11_kindOn 37 rfl) hQ
  · rw [if_pos hc] at h
    refine R_aload_n (dd dt_11_kindOn 10 rfl) 0 rfl rfl ?_
    refine g_11_10 rfl k0 (dd dt_11_kindOn 11 rfl) ?_
    refine g_11_135 rfl (ty_11_0 k0) (dd dt_11_kindOn 12 rfl) ?_
    refine R_iload_n (dd dt_11_kindOn 13 rfl) 2 rfl rfl ?_
    obtain ⟨r11, e12, h⟩ := bi_el h
    refine R_aald (t0 := 6) e12 (ty_9_10 (ty_11_0 k0)) (by decide) (by decide) rfl rfl (dd dt_11_kindOn 14 rfl) ?_
    refine g_11_178 rfl (tl_26 e12 (ty_9_10 (ty_11_0 k0))) (dd dt_11_kindOn 15 rfl) ?_
    refine R_ifeq (dd dt_11_kindOn 16 rfl) (tgt := 33) rfl (fun hc => ?_) (fun hc => ?_)
    · rw [if_pos hc] at h
      refine R_aload_n (dd dt_11_kindOn 19 rfl) 0 rfl rfl ?_
      refine g_11_10 rfl k0 (dd dt_11_kindOn 20 rfl) ?_
      refine g_11_135 rfl (ty_11_0 k0) (dd dt_11_kindOn 21 rfl) ?_
      refine R_iload_n (dd dt_11_kindOn 22 rfl) 2 rfl rfl ?_
      obtain ⟨r13, e14, h⟩ := bi_el h
      refine R_aald (t0 := 6) e14 (ty_9_10 (ty_11_0 k0)) (by decide) (by decide) rfl rfl (dd dt_11_kindOn 23 rfl) ?_
      refine g_11_185 rfl (tl_26 e14 (ty_9_10 (ty_11_0 k0))) (dd dt_11_kindOn 24 rfl) ?_
      refine R_ifeq (dd dt_11_kindOn 25 rfl) (tgt := 52) rfl (fun hc => ?_) (fun hc => ?_)
      · rw [if_pos hc] at h
        refine R_iconst (v := 1) (dd dt_11_kindOn 28 rfl) ic_1 ?_
        obtain rfl := Option.some.inj h
        exact R_iret rfl (dd dt_11_kindOn 29 rfl) hQ
      · rw [if_neg hc] at h
        refine R_iconst (v := 4) (dd dt_11_kindOn 26 rfl) ic_4 ?_
        refine R_goto (dd dt_11_kindOn 27 rfl) (tgt := 53) rfl ?_
        obtain rfl := Option.some.inj h
        exact R_iret rfl (dd dt_11_kindOn 29 rfl) hQ
    · rw [if_neg hc] at h
      refine R_iconst (v := 5) (dd dt_11_kindOn 17 rfl) ic_5 ?_
      obtain rfl := Option.some.inj h
      exact R_iret rfl (dd dt_11_kindOn 18 rfl) hQ
/-! LongStrike$Deals.kindAbove(I)I -/
def tab_0_kindAbove : List (Nat × Instr × Nat) := [(0, .iload_n 0, 1), (1, .tableswitch 33 4 6 #[27, 29, 31], 27), (28, .iconst 1, 1), (29, .ireturn, 1), (30, .iconst 1, 1), (31, .ireturn, 1), (32, .iconst 3, 1), (33, .ireturn, 1), (34, .iconst 0, 1), (35, .ireturn, 1)]
set_option maxRecDepth 100000 in
theorem dt_0_kindAbove : ∀ q ∈ tab_0_kindAbove, decode m_0_kindAbove.2.1 q.1 = .ok q.2 := by decide +kernel
def f_0_kindAbove (a0 : Int32) (μ : mm) : Option (Int32) :=
  if a0 = 4 then
    some 1
  else if a0 = 5 then
    some 1
  else if a0 = 6 then
    some 3
  else 
    some 0
set_option maxRecDepth 100000 in
set_option maxHeartbeats 4000000 in
theorem ok_0_kindAbove {l : Launch} {E : ce} {d : Nat}  {a0 : Int32} {μ : mm} {r : Int32} {Q : Option Value → mm → Prop} (h : f_0_kindAbove a0 μ = some r)  (hQ : Q (some (.int r)) μ) : Ct l E d yX0_kindAbove m_0_kindAbove [.int a0] μ Q := by
  refine Ct_of (lv := [some (.int a0)]) (by decide) rfl (Nat.le_of_ble_eq_true rfl) rfl ?_
  unfold f_0_kindAbove at h
  refine R_iload_n (dd dt_0_kindAbove 0 rfl) 0 rfl rfl ?_
  by_cases hs4 : a0 = 4
  · refine R_tabIn (off := 27) (tgt := 28) (dd dt_0_kindAbove 1 rfl) (by rw [hs4]; decide) (by rw [hs4]; decide) (by rw [hs4]; rfl) rfl ?_
    rw [if_pos hs4] at h
    refine R_iconst (v := 1) (dd dt_0_kindAbove 2 rfl) ic_1 ?_
    obtain rfl := Option.some.inj h
    exact R_iret rfl (dd dt_0_kindAbove 3 rfl) hQ
  rw [if_neg hs4] at h
  by_cases hs5 : a0 = 5
  · refine R_tabIn (off := 29) (tgt := 30) (dd dt_0_kindAbove 1 rfl) (by rw [hs5]; decide) (by rw [hs5]; decide) (by rw [hs5]; rfl) rfl ?_
    rw [if_pos hs5] at h
    refine R_iconst (v := 1) (dd dt_0_kindAbove 4 rfl) ic_1 ?_
    obtain rfl := Option.some.inj h
    exact R_iret rfl (dd dt_0_kindAbove 5 rfl) hQ
  rw [if_neg hs5] at h
  by_cases hs6 : a0 = 6
  · refine R_tabIn (off := 31) (tgt := 32) (dd dt_0_kindAbove 1 rfl) (by rw [hs6]; decide) (by rw [hs6]; decide) (by rw [hs6]; rfl) rfl ?_
    rw [if_pos hs6] at h
    refine R_iconst (v := 3) (dd dt_0_kindAbove 6 rfl) ic_3 ?_
    obtain rfl := Option.some.inj h
    exact R_iret rfl (dd dt_0_kindAbove 7 rfl) hQ
  rw [if_neg hs6] at h
  refine R_tabOut (tgt := 34) (dd dt_0_kindAbove 1 rfl) (by have hn4 := lv_neT hs4 (a := 4) (by decide); have hn5 := lv_neT hs5 (a := 5) (by decide); have hn6 := lv_neT hs6 (a := 6) (by decide); omega) rfl ?_
  refine R_iconst (v := 0) (dd dt_0_kindAbove 8 rfl) ic_0 ?_
  obtain rfl := Option.some.inj h
  exact R_iret rfl (dd dt_0_kindAbove 9 rfl) hQ
/-! LongStrike$Deals.isOrIsUnder(II)Z -/
def tab_0_isOrIsUnder : List (Nat × Instr × Nat) := [(0, .iload_n 0, 1), (1, .iload_n 1, 1), (2, .if_icmp .eq 15, 3), (5, .iload_n 1, 1), (6, .ifCond .eq 11, 3), (9, .iload_n 0, 1), (10, .invokestatic 35, 3), (13, .iload_n 1, 1), (14, .if_icmp .ne 7, 3), (17, .iconst 1, 1), (18, .goto 4, 3), (21, .iconst 0, 1), (22, .ireturn, 1)]
set_option maxRecDepth 100000 in
theorem dt_0_isOrIsUnder : ∀ q ∈ tab_0_isOrIsUnder, decode m_0_isOrIsUnder.2.1 q.1 = .ok q.2 := by decide +kernel
def f_0_isOrIsUnder (a0 : Int32) (a1 : Int32) (μ : mm) : Option (Int32) :=
  if a0 = a1 then
    some 1
  else
    if a1 = 0 then
      some 1
    else
      (f_0_kindAbove a0 μ).bind fun x2 =>
      if x2 = a1 then
        some 1
      else
        some 0
set_option maxRecDepth 100000 in
set_option maxHeartbeats 4000000 in
theorem ok_0_isOrIsUnder {l : Launch} {E : ce} {d : Nat}  {a0 : Int32} {a1 : Int32} {μ : mm} {r : Int32} {Q : Option Value → mm → Prop} (h : f_0_isOrIsUnder a0 a1 μ = some r)  (hQ : Q (some (.int r)) μ) : Ct l E (d + 1) yX0_isOrIsUnder m_0_isOrIsUnder [.int a0, .int a1] μ Q := by
  refine Ct_of (lv := [some (.int a0), some (.int a1)]) (by decide) rfl (Nat.le_of_ble_eq_true rfl) rfl ?_
  unfold f_0_isOrIsUnder at h
  refine R_iload_n (dd dt_0_isOrIsUnder 0 rfl) 0 rfl rfl ?_
  refine R_iload_n (dd dt_0_isOrIsUnder 1 rfl) 1 rfl rfl ?_
  refine R_cmpeq (dd dt_0_isOrIsUnder 2 rfl) (tgt := 17) rfl (fun hc => ?_) (fun hc => ?_)
  · rw [if_pos hc] at h
    refine R_iconst (v := 1) (dd dt_0_isOrIsUnder 9 rfl) ic_1 ?_
    refine R_goto (dd dt_0_isOrIsUnder 10 rfl) (tgt := 22) rfl ?_
    obtain rfl := Option.some.inj h
    exact R_zret rfl (by decide) (dd dt_0_isOrIsUnder 12 rfl) hQ
  · rw [if_neg hc] at h
    refine R_iload_n (dd dt_0_isOrIsUnder 3 rfl) 1 rfl rfl ?_
    refine R_ifeq (dd dt_0_isOrIsUnder 4 rfl) (tgt := 17) rfl (fun hc => ?_) (fun hc => ?_)
    · rw [if_pos hc] at h
      refine R_iconst (v := 1) (dd dt_0_isOrIsUnder 9 rfl) ic_1 ?_
      refine R_goto (dd dt_0_isOrIsUnder 10 rfl) (tgt := 22) rfl ?_
      obtain rfl := Option.some.inj h
      exact R_zret rfl (by decide) (dd dt_0_isOrIsUnder 12 rfl) hQ
    · rw [if_neg hc] at h
      refine R_iload_n (dd dt_0_isOrIsUnder 5 rfl) 0 rfl rfl ?_
      obtain ⟨x2, e1, h⟩ := bi_el h
      refine c_0_35 (As := [.int a0]) (st1 := [.int x2]) rfl (fun Q1 hq => ok_0_kindAbove e1 hq) rfl rfl (Nat.le_of_ble_eq_true rfl) (dd dt_0_isOrIsUnder 6 rfl) rfl ?_
      refine R_iload_n (dd dt_0_isOrIsUnder 7 rfl) 1 rfl rfl ?_
      refine R_cmpne (dd dt_0_isOrIsUnder 8 rfl) (tgt := 21) rfl (fun hc => ?_) (fun hc => ?_)
      · rw [if_neg hc] at h
        refine R_iconst (v := 0) (dd dt_0_isOrIsUnder 11 rfl) ic_0 ?_
        obtain rfl := Option.some.inj h
        exact R_zret rfl (by decide) (dd dt_0_isOrIsUnder 12 rfl) hQ
      · rw [if_pos hc] at h
        refine R_iconst (v := 1) (dd dt_0_isOrIsUnder 9 rfl) ic_1 ?_
        refine R_goto (dd dt_0_isOrIsUnder 10 rfl) (tgt := 22) rfl ?_
        obtain rfl := Option.some.inj h
        exact R_zret rfl (by decide) (dd dt_0_isOrIsUnder 12 rfl) hQ
/-! LongStrike.taken(II)I -/
def tab_11_taken : List (Nat × Instr × Nat) := [(0, .iload_n 2, 1), (1, .bipush 10, 2), (3, .bipush 14, 2), (5, .invokestatic 83, 3), (8, .istore_n 3, 1), (9, .iload_n 1, 1), (10, .invokestatic 482, 3), (13, .ifCond .eq 17, 3), (16, .iload_n 3, 1), (17, .ifCond .ne 15, 3), (20, .iload_n 2, 1), (21, .iconst 0, 1), (22, .bipush 6, 2), (24, .invokestatic 83, 3), (27, .ifCond .ne 5, 3), (30, .iconst (-1), 1), (31, .ireturn, 1), (32, .aload_n 0, 1), (33, .iload_n 1, 1), (34, .invokevirtual 492, 3), (37, .ifCond .eq 6, 3), (40, .bipush (-11), 2), (42, .ireturn, 1), (43, .aload_n 0, 1), (44, .getfield 68, 3), (47, .iload_n 1, 1), (48, .iaload, 1), (49, .iconst 3, 1), (50, .if_icmp .ne 7, 3), (53, .iconst 1, 1), (54, .goto 4, 3), (57, .iconst 0, 1), (58, .istore 4, 2), (60, .iload 4, 2), (62, .iload_n 3, 1), (63, .if_icmp .eq 6, 3), (66, .bipush (-13), 2), (68, .ireturn, 1), (69, .iload 4, 2), (71, .ifCond .eq 28, 3), (74, .aload_n 0, 1), (75, .getfield 71, 3), (78, .iload_n 1, 1), (79, .iaload, 1), (80, .iload_n 2, 1), (81, .bipush 10, 2), (83, .isub, 1), (84, .if_icmp .ne 12, 3), (87, .aload_n 0, 1), (88, .getfield 74, 3), (91, .iload_n 1, 1), (92, .iaload, 1), (93, .goto 5, 3), (96, .bipush (-13), 2), (98, .ireturn, 1), (99, .aload_n 0, 1), (100, .iload_n 1, 1), (101, .invokevirtual 495, 3), (104, .iload_n 2, 1), (105, .invokestatic 498, 3), (108, .ifCond .eq 12, 3), (111, .aload_n 0, 1), (112, .getfield 71, 3), (115, .iload_n 1, 1), (116, .iaload, 1), (117, .goto 5, 3), (120, .bipush (-13), 2), (122, .ireturn, 1)]
set_option maxRecDepth 100000 in
theorem dt_11_taken : ∀ q ∈ tab_11_taken, decode m_11_taken.2.1 q.1 = .ok q.2 := by decide +kernel
def f_11_taken_b32 (a0 : Nat) (a1 : Int32) (a2 : Int32) (a3 : Int32) (μ : mm) : Option (Int32) :=
  (f_11_isBare a0 a1 μ).bind fun x2 =>
  if x2 = 0 then
    (ld μ (rf a0 14) a1).bind fun x3 =>
    (if x3 = 3 then
        some 1
      else
        some 0).bind fun (z5 : Int32) =>
    if z5 = a3 then
      if z5 = 0 then
        (f_11_kindOn a0 a1 μ).bind fun x7 =>
        (f_0_isOrIsUnder x7 a2 μ).bind fun x9 =>
        if x9 = 0 then
          some (-13)
        else
          (ld μ (rf a0 15) a1).bind fun x10 =>
          some x10
      else
        (ld μ (rf a0 15) a1).bind fun x12 =>
        if x12 = (a2 - 10) then
          (ld μ (rf a0 16) a1).bind fun x14 =>
          some x14
        else
          some (-13)
    else
      some (-13)
  else
    some (-11)
set_option maxRecDepth 100000 in
set_option maxHeartbeats 4000000 in
theorem ok_11_taken_b32 {l : Launch} {E : ce} {d : Nat}  {a0 : Nat} {a1 : Int32} {a2 : Int32} {a3 : Int32} {μ : mm} {r : Int32} {Q : Option Value → mm → Prop} (h : f_11_taken_b32 a0 a1 a2 a3 μ = some r) (k0 : kd a0 = 11) (hQ : Q (some (.int r)) μ) : Rj l E (d + 3) m_11_taken 32 [some (.ref a0), some (.int a1), some (.int a2), some (.int a3), none] [] μ Q := by
  unfold f_11_taken_b32 at h
  refine R_aload_n (dd dt_11_taken 17 rfl) 0 rfl rfl ?_
  refine R_iload_n (dd dt_11_taken 18 rfl) 1 rfl rfl ?_
  obtain ⟨x2, e1, h⟩ := bi_el h
  refine c_11_492 (As := [.int a1]) (st1 := [.int x2]) rfl (fun Q1 hq => ok_11_isBare e1 k0 hq) k0 rfl rfl (Nat.le_of_ble_eq_true rfl) (dd dt_11_taken 19 rfl) rfl ?_
  refine R_ifeq (dd dt_11_taken 20 rfl) (tgt := 43) rfl (fun hc => ?_) (fun hc => ?_)
  · rw [if_pos hc] at h
    refine R_aload_n (dd dt_11_taken 23 rfl) 0 rfl rfl ?_
    refine g_11_68 rfl k0 (dd dt_11_taken 24 rfl) ?_
    refine R_iload_n (dd dt_11_taken 25 rfl) 1 rfl rfl ?_
    obtain ⟨x3, e4, h⟩ := bi_el h
    refine R_ild e4 (ty_11_14 k0) (dd dt_11_taken 26 rfl) ?_
    refine R_iconst (v := 3) (dd dt_11_taken 27 rfl) ic_3 ?_
    obtain ⟨z5, hz5, h⟩ := bi_el h
    have K5 : Rj l E (d + 3) m_11_taken 58 [some (.ref a0), some (.int a1), some (.int a2), some (.int a3), none] [.int z5] μ Q := by
      clear hz5
      refine R_istore (lv' := [some (.ref a0), some (.int a1), some (.int a2), some (.int a3), some (.int z5)]) (dd dt_11_taken 32 rfl) (by decide) rfl rfl ?_
      refine R_iload (dd dt_11_taken 33 rfl) rfl ?_
      refine R_iload_n (dd dt_11_taken 34 rfl) 3 rfl rfl ?_
      refine R_cmpeq (dd dt_11_taken 35 rfl) (tgt := 69) rfl (fun hc => ?_) (fun hc => ?_)
      · rw [if_pos hc] at h
        refine R_iload (dd dt_11_taken 38 rfl) rfl ?_
        refine R_ifeq (dd dt_11_taken 39 rfl) (tgt := 99) rfl (fun hc => ?_) (fun hc => ?_)
        · rw [if_pos hc] at h
          refine R_aload_n (dd dt_11_taken 55 rfl) 0 rfl rfl ?_
          refine R_iload_n (dd dt_11_taken 56 rfl) 1 rfl rfl ?_
          obtain ⟨x7, e6, h⟩ := bi_el h
          refine c_11_495 (As := [.int a1]) (st1 := [.int x7]) rfl (fun Q1 hq => ok_11_kindOn e6 k0 hq) k0 rfl rfl (Nat.le_of_ble_eq_true rfl) (dd dt_11_taken 57 rfl) rfl ?_
          refine R_iload_n (dd dt_11_taken 58 rfl) 2 rfl rfl ?_
          obtain ⟨x9, e8, h⟩ := bi_el h
          refine c_11_498 (As := [.int x7, .int a2]) (st1 := [.int x9]) rfl (fun Q1 hq => ok_0_isOrIsUnder e8 hq) rfl rfl (Nat.le_of_ble_eq_true rfl) (dd dt_11_taken 59 rfl) rfl ?_
          refine R_ifeq (dd dt_11_taken 60 rfl) (tgt := 120) rfl (fun hc => ?_) (fun hc => ?_)
          · rw [if_pos hc] at h
            refine R_bipush (v := (-13)) (dd dt_11_taken 66 rfl) bp_m13 ?_
            obtain rfl := Option.some.inj h
            exact R_iret rfl (dd dt_11_taken 67 rfl) hQ
          · rw [if_neg hc] at h
            refine R_aload_n (dd dt_11_taken 61 rfl) 0 rfl rfl ?_
            refine g_11_71 rfl k0 (dd dt_11_taken 62 rfl) ?_
            refine R_iload_n (dd dt_11_taken 63 rfl) 1 rfl rfl ?_
            obtain ⟨x10, e11, h⟩ := bi_el h
            refine R_ild e11 (ty_11_15 k0) (dd dt_11_taken 64 rfl) ?_
            refine R_goto (dd dt_11_taken 65 rfl) (tgt := 122) rfl ?_
            obtain rfl := Option.some.inj h
            exact R_iret rfl (dd dt_11_taken 67 rfl) hQ
        · rw [if_neg hc] at h
          refine R_aload_n (dd dt_11_taken 40 rfl) 0 rfl rfl ?_
          refine g_11_71 rfl k0 (dd dt_11_taken 41 rfl) ?_
          refine R_iload_n (dd dt_11_taken 42 rfl) 1 rfl rfl ?_
          obtain ⟨x12, e13, h⟩ := bi_el h
          refine R_ild e13 (ty_11_15 k0) (dd dt_11_taken 43 rfl) ?_
          refine R_iload_n (dd dt_11_taken 44 rfl) 2 rfl rfl ?_
          refine R_bipush (v := 10) (dd dt_11_taken 45 rfl) bp_10 ?_
          refine R_isub (dd dt_11_taken 46 rfl) ?_
          refine R_cmpne (dd dt_11_taken 47 rfl) (tgt := 96) rfl (fun hc => ?_) (fun hc => ?_)
          · rw [if_neg hc] at h
            refine R_bipush (v := (-13)) (dd dt_11_taken 53 rfl) bp_m13 ?_
            obtain rfl := Option.some.inj h
            exact R_iret rfl (dd dt_11_taken 54 rfl) hQ
          · rw [if_pos hc] at h
            refine R_aload_n (dd dt_11_taken 48 rfl) 0 rfl rfl ?_
            refine g_11_74 rfl k0 (dd dt_11_taken 49 rfl) ?_
            refine R_iload_n (dd dt_11_taken 50 rfl) 1 rfl rfl ?_
            obtain ⟨x14, e15, h⟩ := bi_el h
            refine R_ild e15 (ty_11_16 k0) (dd dt_11_taken 51 rfl) ?_
            refine R_goto (dd dt_11_taken 52 rfl) (tgt := 98) rfl ?_
            obtain rfl := Option.some.inj h
            exact R_iret rfl (dd dt_11_taken 54 rfl) hQ
      · rw [if_neg hc] at h
        refine R_bipush (v := (-13)) (dd dt_11_taken 36 rfl) bp_m13 ?_
        obtain rfl := Option.some.inj h
        exact R_iret rfl (dd dt_11_taken 37 rfl) hQ
    clear h
    have h := hz5
    clear hz5
    refine R_cmpne (dd dt_11_taken 28 rfl) (tgt := 57) rfl (fun hc => ?_) (fun hc => ?_)
    · rw [if_neg hc] at h
      refine R_iconst (v := 0) (dd dt_11_taken 31 rfl) ic_0 ?_
      obtain rfl := Option.some.inj h
      exact R_mask [true, true, true, true, false] rfl K5
    · rw [if_pos hc] at h
      refine R_iconst (v := 1) (dd dt_11_taken 29 rfl) ic_1 ?_
      refine R_goto (dd dt_11_taken 30 rfl) (tgt := 58) rfl ?_
      obtain rfl := Option.some.inj h
      exact R_mask [true, true, true, true, false] rfl K5
  · rw [if_neg hc] at h
    refine R_bipush (v := (-11)) (dd dt_11_taken 21 rfl) bp_m11 ?_
    obtain rfl := Option.some.inj h
    exact R_iret rfl (dd dt_11_taken 22 rfl) hQ
def f_11_taken (a0 : Nat) (a1 : Int32) (a2 : Int32) (μ : mm) : Option (Int32) :=
  (f_11_isIn a2 10 14 μ).bind fun x2 =>
  (f_11_isShelf a1 μ).bind fun x4 =>
  if x4 = 0 then
    some (-1)
  else
    if x2 = 0 then
      (f_11_isIn a2 0 6 μ).bind fun x6 =>
      if x6 = 0 then
        some (-1)
      else
        f_11_taken_b32 a0 a1 a2 x2 μ
    else
      f_11_taken_b32 a0 a1 a2 x2 μ
set_option maxRecDepth 100000 in
set_option maxHeartbeats 4000000 in
theorem ok_11_taken {l : Launch} {E : ce} {d : Nat}  {a0 : Nat} {a1 : Int32} {a2 : Int32} {μ : mm} {r : Int32} {Q : Option Value → mm → Prop} (h : f_11_taken a0 a1 a2 μ = some r) (k0 : kd a0 = 11) (hQ : Q (some (.int r)) μ) : Ct l E (d + 3) yX11_taken m_11_taken [.ref a0, .int a1, .int a2] μ Q := by
  refine Ct_of (lv := [some (.ref a0), some (.int a1), some (.int a2), none, none]) (by decide) rfl (Nat.le_of_ble_eq_true rfl) rfl ?_
  unfold f_11_taken at h
  refine R_iload_n (dd dt_11_taken 0 rfl) 2 rfl rfl ?_
  refine R_bipush (v := 10) (dd dt_11_taken 1 rfl) bp_10 ?_
  refine R_bipush (v := 14) (dd dt_11_taken 2 rfl) bp_14 ?_
  obtain ⟨x2, e1, h⟩ := bi_el h
  refine c_11_83 (As := [.int a2, .int 10, .int 14]) (st1 := [.int x2]) rfl (fun Q1 hq => ok_11_isIn e1 hq) rfl rfl (Nat.le_of_ble_eq_true rfl) (dd dt_11_taken 3 rfl) rfl ?_
  refine R_istore_n (lv' := [some (.ref a0), some (.int a1), some (.int a2), some (.int x2), none]) (dd dt_11_taken 4 rfl) 3 rfl (by decide) rfl rfl ?_
  refine R_iload_n (dd dt_11_taken 5 rfl) 1 rfl rfl ?_
  obtain ⟨x4, e3, h⟩ := bi_el h
  refine c_11_482 (As := [.int a1]) (st1 := [.int x4]) rfl (fun Q1 hq => ok_11_isShelf e3 hq) rfl rfl (Nat.le_of_ble_eq_true rfl) (dd dt_11_taken 6 rfl) rfl ?_
  refine R_ifeq (dd dt_11_taken 7 rfl) (tgt := 30) rfl (fun hc => ?_) (fun hc => ?_)
  · rw [if_pos hc] at h
    refine R_iconst (v := (-1)) (dd dt_11_taken 15 rfl) ic_m1 ?_
    obtain rfl := Option.some.inj h
    exact R_iret rfl (dd dt_11_taken 16 rfl) hQ
  · rw [if_neg hc] at h
    refine R_iload_n (dd dt_11_taken 8 rfl) 3 rfl rfl ?_
    refine R_ifne (dd dt_11_taken 9 rfl) (tgt := 32) rfl (fun hc => ?_) (fun hc => ?_)
    · rw [if_neg hc] at h
      exact R_mask [true, true, true, true, false] rfl (ok_11_taken_b32  h k0 hQ)
    · rw [if_pos hc] at h
      refine R_iload_n (dd dt_11_taken 10 rfl) 2 rfl rfl ?_
      refine R_iconst (v := 0) (dd dt_11_taken 11 rfl) ic_0 ?_
      refine R_bipush (v := 6) (dd dt_11_taken 12 rfl) bp_6 ?_
      obtain ⟨x6, e5, h⟩ := bi_el h
      refine c_11_83 (As := [.int a2, .int 0, .int 6]) (st1 := [.int x6]) rfl (fun Q1 hq => ok_11_isIn e5 hq) rfl rfl (Nat.le_of_ble_eq_true rfl) (dd dt_11_taken 13 rfl) rfl ?_
      refine R_ifne (dd dt_11_taken 14 rfl) (tgt := 32) rfl (fun hc => ?_) (fun hc => ?_)
      · rw [if_neg hc] at h
        exact R_mask [true, true, true, true, false] rfl (ok_11_taken_b32  h k0 hQ)
      · rw [if_pos hc] at h
        refine R_iconst (v := (-1)) (dd dt_11_taken 15 rfl) ic_m1 ?_
        obtain rfl := Option.some.inj h
        exact R_iret rfl (dd dt_11_taken 16 rfl) hQ
/-! LongStrike$Deals.forget()V -/
def tab_0_forget : List (Nat × Instr × Nat) := [(0, .aload_n 0, 1), (1, .iconst 0, 1), (2, .putfield 15, 3), (5, .return_, 1)]
set_option maxRecDepth 100000 in
theorem dt_0_forget : ∀ q ∈ tab_0_forget, decode m_0_forget.2.1 q.1 = .ok q.2 := by decide +kernel
def f_0_forget (a0 : Nat) (μ : mm) : Option (mm) :=
  (pf μ a0 1 0).bind fun μ1 =>
  some μ1
set_option maxRecDepth 100000 in
set_option maxHeartbeats 4000000 in
theorem ok_0_forget {l : Launch} {E : ce} {d : Nat}  {a0 : Nat} {μ : mm} {r : mm} {Q : Option Value → mm → Prop} (h : f_0_forget a0 μ = some r) (k0 : kd a0 = 0) (hQ : Q none r) : Ct l E d yX0_forget m_0_forget [.ref a0] μ Q := by
  refine Ct_of (lv := [some (.ref a0)]) (by decide) rfl (Nat.le_of_ble_eq_true rfl) rfl ?_
  unfold f_0_forget at h
  refine R_aload_n (dd dt_0_forget 0 rfl) 0 rfl rfl ?_
  refine R_iconst (v := 0) (dd dt_0_forget 1 rfl) ic_0 ?_
  obtain ⟨μ1, e2, h⟩ := bi_el h
  refine p_0_15 rfl k0 (dd dt_0_forget 2 rfl) e2 ?_
  obtain rfl := Option.some.inj h
  exact R_vret rfl (dd dt_0_forget 3 rfl) hQ
/-! LongStrike$Deals.meet(IIII)V -/
def tab_0_meet : List (Nat × Instr × Nat) := [(0, .aload_n 0, 1), (1, .iload_n 1, 1), (2, .putfield 19, 3), (5, .aload_n 0, 1), (6, .iload_n 2, 1), (7, .putfield 22, 3), (10, .aload_n 0, 1), (11, .iload_n 3, 1), (12, .putfield 25, 3), (15, .aload_n 0, 1), (16, .iload 4, 2), (18, .putfield 28, 3), (21, .return_, 1)]
set_option maxRecDepth 100000 in
theorem dt_0_meet : ∀ q ∈ tab_0_meet, decode m_0_meet.2.1 q.1 = .ok q.2 := by decide +kernel
def f_0_meet (a0 : Nat) (a1 : Int32) (a2 : Int32) (a3 : Int32) (a4 : Int32) (μ : mm) : Option (mm) :=
  (pf μ a0 2 a1).bind fun μ1 =>
  (pf μ1 a0 3 a2).bind fun μ3 =>
  (pf μ3 a0 4 a3).bind fun μ5 =>
  (pf μ5 a0 5 a4).bind fun μ7 =>
  some μ7
set_option maxRecDepth 100000 in
set_option maxHeartbeats 4000000 in
theorem ok_0_meet {l : Launch} {E : ce} {d : Nat}  {a0 : Nat} {a1 : Int32} {a2 : Int32} {a3 : Int32} {a4 : Int32} {μ : mm} {r : mm} {Q : Option Value → mm → Prop} (h : f_0_meet a0 a1 a2 a3 a4 μ = some r) (k0 : kd a0 = 0) (hQ : Q none r) : Ct l E d yX0_meet m_0_meet [.ref a0, .int a1, .int a2, .int a3, .int a4] μ Q := by
  refine Ct_of (lv := [some (.ref a0), some (.int a1), some (.int a2), some (.int a3), some (.int a4)]) (by decide) rfl (Nat.le_of_ble_eq_true rfl) rfl ?_
  unfold f_0_meet at h
  refine R_aload_n (dd dt_0_meet 0 rfl) 0 rfl rfl ?_
  refine R_iload_n (dd dt_0_meet 1 rfl) 1 rfl rfl ?_
  obtain ⟨μ1, e2, h⟩ := bi_el h
  refine p_0_19 rfl k0 (dd dt_0_meet 2 rfl) e2 ?_
  refine R_aload_n (dd dt_0_meet 3 rfl) 0 rfl rfl ?_
  refine R_iload_n (dd dt_0_meet 4 rfl) 2 rfl rfl ?_
  obtain ⟨μ3, e4, h⟩ := bi_el h
  refine p_0_22 rfl k0 (dd dt_0_meet 5 rfl) e4 ?_
  refine R_aload_n (dd dt_0_meet 6 rfl) 0 rfl rfl ?_
  refine R_iload_n (dd dt_0_meet 7 rfl) 3 rfl rfl ?_
  obtain ⟨μ5, e6, h⟩ := bi_el h
  refine p_0_25 rfl k0 (dd dt_0_meet 8 rfl) e6 ?_
  refine R_aload_n (dd dt_0_meet 9 rfl) 0 rfl rfl ?_
  refine R_iload (dd dt_0_meet 10 rfl) rfl ?_
  obtain ⟨μ7, e8, h⟩ := bi_el h
  refine p_0_28 rfl k0 (dd dt_0_meet 11 rfl) e8 ?_
  obtain rfl := Option.some.inj h
  exact R_vret rfl (dd dt_0_meet 12 rfl) hQ
/-! LongStrike$Deals.begin(I)V -/
def tab_0_begin : List (Nat × Instr × Nat) := [(0, .aload_n 0, 1), (1, .getfield 15, 3), (4, .bipush 30, 2), (6, .if_icmp .ge 23, 3), (9, .aload_n 0, 1), (10, .getfield 11, 3), (13, .aload_n 0, 1), (14, .getfield 15, 3), (17, .iload_n 1, 1), (18, .iastore, 1), (19, .aload_n 0, 1), (20, .dup, 1), (21, .getfield 15, 3), (24, .iconst 1, 1), (25, .iadd, 1), (26, .putfield 15, 3), (29, .return_, 1)]
set_option maxRecDepth 100000 in
theorem dt_0_begin : ∀ q ∈ tab_0_begin, decode m_0_begin.2.1 q.1 = .ok q.2 := by decide +kernel
def f_0_begin (a0 : Nat) (a1 : Int32) (μ : mm) : Option (mm) :=
  if 30 ≤ (μ a0 1) then
    some μ
  else
    (sto μ (rf a0 0) (μ a0 1) a1).bind fun μ1 =>
    (pf μ1 a0 1 ((μ1 a0 1) + 1)).bind fun μ3 =>
    some μ3
set_option maxRecDepth 100000 in
set_option maxHeartbeats 4000000 in
theorem ok_0_begin {l : Launch} {E : ce} {d : Nat}  {a0 : Nat} {a1 : Int32} {μ : mm} {r : mm} {Q : Option Value → mm → Prop} (h : f_0_begin a0 a1 μ = some r) (k0 : kd a0 = 0) (hQ : Q none r) : Ct l E d yX0_begin m_0_begin [.ref a0, .int a1] μ Q := by
  refine Ct_of (lv := [some (.ref a0), some (.int a1)]) (by decide) rfl (Nat.le_of_ble_eq_true rfl) rfl ?_
  unfold f_0_begin at h
  refine R_aload_n (dd dt_0_begin 0 rfl) 0 rfl rfl ?_
  refine g_0_15 rfl k0 (dd dt_0_begin 1 rfl) ?_
  refine R_bipush (v := 30) (dd dt_0_begin 2 rfl) bp_30 ?_
  refine R_cmpge (dd dt_0_begin 3 rfl) (tgt := 29) rfl (fun hc => ?_) (fun hc => ?_)
  · rw [if_pos hc] at h
    obtain rfl := Option.some.inj h
    exact R_vret rfl (dd dt_0_begin 16 rfl) hQ
  · rw [if_neg hc] at h
    refine R_aload_n (dd dt_0_begin 4 rfl) 0 rfl rfl ?_
    refine g_0_11 rfl k0 (dd dt_0_begin 5 rfl) ?_
    refine R_aload_n (dd dt_0_begin 6 rfl) 0 rfl rfl ?_
    refine g_0_15 rfl k0 (dd dt_0_begin 7 rfl) ?_
    refine R_iload_n (dd dt_0_begin 8 rfl) 1 rfl rfl ?_
    obtain ⟨μ1, e2, h⟩ := bi_el h
    refine R_isto e2 (ty_0_0 k0) (dd dt_0_begin 9 rfl) ?_
    refine R_aload_n (dd dt_0_begin 10 rfl) 0 rfl rfl ?_
    refine R_dup (dd dt_0_begin 11 rfl) rfl ?_
    refine g_0_15 rfl k0 (dd dt_0_begin 12 rfl) ?_
    refine R_iconst (v := 1) (dd dt_0_begin 13 rfl) ic_1 ?_
    refine R_iadd (dd dt_0_begin 14 rfl) ?_
    obtain ⟨μ3, e4, h⟩ := bi_el h
    refine p_0_15 rfl k0 (dd dt_0_begin 15 rfl) e4 ?_
    obtain rfl := Option.some.inj h
    exact R_vret rfl (dd dt_0_begin 16 rfl) hQ
/-! LongStrike$Deals.eats(II)I -/
def tab_0_eats : List (Nat × Instr × Nat) := [(0, .iload_n 1, 1), (1, .tableswitch 97 1 6 #[79, 97, 97, 57, 72, 39], 39), (40, .aload_n 0, 1), (41, .bipush 71, 2), (43, .invokevirtual 52, 3), (46, .aload_n 0, 1), (47, .iconst 3, 1), (48, .iload_n 2, 1), (49, .invokevirtual 39, 3), (52, .aload_n 0, 1), (53, .getfield 22, 3), (56, .imul, 1), (57, .ireturn, 1), (58, .aload_n 0, 1), (59, .bipush 50, 2), (61, .invokevirtual 52, 3), (64, .aload_n 0, 1), (65, .iconst 1, 1), (66, .iload_n 2, 1), (67, .iconst 1, 1), (68, .isub, 1), (69, .invokevirtual 39, 3), (72, .ireturn, 1), (73, .aload_n 0, 1), (74, .iconst 1, 1), (75, .iload_n 2, 1), (76, .invokevirtual 39, 3), (79, .ireturn, 1), (80, .aload_n 0, 1), (81, .bipush 20, 2), (83, .invokevirtual 52, 3), (86, .aload_n 0, 1), (87, .iconst 0, 1), (88, .iload_n 2, 1), (89, .invokevirtual 39, 3), (92, .aload_n 0, 1), (93, .getfield 22, 3), (96, .ixor, 1), (97, .ireturn, 1), (98, .aload_n 0, 1), (99, .bipush 10, 2), (101, .invokevirtual 52, 3), (104, .iload_n 2, 1), (105, .aload_n 0, 1), (106, .getfield 28, 3), (109, .iadd, 1), (110, .ireturn, 1)]
set_option maxRecDepth 100000 in
theorem dt_0_eats : ∀ q ∈ tab_0_eats, decode m_0_eats.2.1 q.1 = .ok q.2 := by decide +kernel
def f_0_eats_b (rc : Nat → Nat → Int32 → Int32 → mm → Option (Int32 × mm)) (a0 : Nat) (a1 : Int32) (a2 : Int32) (μ : mm) : Option (Int32 × mm) :=
  if a1 = 1 then
    (f_0_begin a0 20 μ).bind fun μ2 =>
    (rc 0 a0 0 a2 μ2).bind fun z4 =>
    some ((z4.1 ^^^ (z4.2 a0 3)), z4.2)
  else if a1 = 4 then
    (f_0_begin a0 50 μ).bind fun μ6 =>
    (rc 0 a0 1 (a2 - 1) μ6).bind fun z8 =>
    some (z8.1, z8.2)
  else if a1 = 5 then
    (rc 0 a0 1 a2 μ).bind fun z10 =>
    some (z10.1, z10.2)
  else if a1 = 6 then
    (f_0_begin a0 71 μ).bind fun μ12 =>
    (rc 0 a0 3 a2 μ12).bind fun z14 =>
    some ((z14.1 * (z14.2 a0 3)), z14.2)
  else 
    (f_0_begin a0 10 μ).bind fun μ16 =>
    some ((a2 + (μ16 a0 5)), μ16)
set_option maxRecDepth 100000 in
set_option maxHeartbeats 4000000 in
theorem ok_0_eats_b {l : Launch} {E : ce} {d nf : Nat} (rc : Nat → Nat → Int32 → Int32 → mm → Option (Int32 × mm)) (hrc0 : ∀ {b0 : Nat} {x0 : Int32} {x1 : Int32} {μ : mm} {r : Int32 × mm} {Q : Option Value → mm → Prop}, rc 0 b0 x0 x1 μ = some r → kd b0 = 0 → Q (some (.int r.1)) r.2 → Ct l E (d + nf + 0) yX0_eats m_0_eats [.ref b0, .int x0, .int x1] μ Q)  {a0 : Nat} {a1 : Int32} {a2 : Int32} {μ : mm} {r : Int32 × mm} {Q : Option Value → mm → Prop} (h : f_0_eats_b rc a0 a1 a2 μ = some r) (k0 : kd a0 = 0) (hQ : Q (some (.int r.1)) r.2) : Ct l E (d + nf + 0 + 1) yX0_eats m_0_eats [.ref a0, .int a1, .int a2] μ Q := by
  refine Ct_of (lv := [some (.ref a0), some (.int a1), some (.int a2)]) (by decide) rfl (Nat.le_of_ble_eq_true rfl) rfl ?_
  unfold f_0_eats_b at h
  refine R_iload_n (dd dt_0_eats 0 rfl) 1 rfl rfl ?_
  by_cases hs1 : a1 = 1
  · refine R_tabIn (off := 79) (tgt := 80) (dd dt_0_eats 1 rfl) (by rw [hs1]; decide) (by rw [hs1]; decide) (by rw [hs1]; rfl) rfl ?_
    rw [if_pos hs1] at h
    refine R_aload_n (dd dt_0_eats 28 rfl) 0 rfl rfl ?_
    refine R_bipush (v := 20) (dd dt_0_eats 29 rfl) bp_20 ?_
    obtain ⟨μ2, e1, h⟩ := bi_el h
    refine c_0_52 (As := [.int 20]) (st1 := []) rfl (fun Q1 hq => ok_0_begin e1 k0 hq) k0 rfl rfl (Nat.le_of_ble_eq_true rfl) (dd dt_0_eats 30 rfl) rfl ?_
    refine R_aload_n (dd dt_0_eats 31 rfl) 0 rfl rfl ?_
    refine R_iconst (v := 0) (dd dt_0_eats 32 rfl) ic_0 ?_
    refine R_iload_n (dd dt_0_eats 33 rfl) 2 rfl rfl ?_
    obtain ⟨z4, e3, h⟩ := bi_el h
    refine c_0_39 (As := [.int 0, .int a2]) (st1 := [.int z4.1]) rfl (fun Q1 hq => hrc0 e3 k0 hq) k0 rfl rfl (Nat.le_of_ble_eq_true rfl) (dd dt_0_eats 34 rfl) rfl ?_
    refine R_aload_n (dd dt_0_eats 35 rfl) 0 rfl rfl ?_
    refine g_0_22 rfl k0 (dd dt_0_eats 36 rfl) ?_
    refine R_ixor (dd dt_0_eats 37 rfl) ?_
    obtain rfl := Option.some.inj h
    exact R_iret rfl (dd dt_0_eats 38 rfl) hQ
  rw [if_neg hs1] at h
  by_cases hs4 : a1 = 4
  · refine R_tabIn (off := 57) (tgt := 58) (dd dt_0_eats 1 rfl) (by rw [hs4]; decide) (by rw [hs4]; decide) (by rw [hs4]; rfl) rfl ?_
    rw [if_pos hs4] at h
    refine R_aload_n (dd dt_0_eats 13 rfl) 0 rfl rfl ?_
    refine R_bipush (v := 50) (dd dt_0_eats 14 rfl) bp_50 ?_
    obtain ⟨μ6, e5, h⟩ := bi_el h
    refine c_0_52 (As := [.int 50]) (st1 := []) rfl (fun Q1 hq => ok_0_begin e5 k0 hq) k0 rfl rfl (Nat.le_of_ble_eq_true rfl) (dd dt_0_eats 15 rfl) rfl ?_
    refine R_aload_n (dd dt_0_eats 16 rfl) 0 rfl rfl ?_
    refine R_iconst (v := 1) (dd dt_0_eats 17 rfl) ic_1 ?_
    refine R_iload_n (dd dt_0_eats 18 rfl) 2 rfl rfl ?_
    refine R_iconst (v := 1) (dd dt_0_eats 19 rfl) ic_1 ?_
    refine R_isub (dd dt_0_eats 20 rfl) ?_
    obtain ⟨z8, e7, h⟩ := bi_el h
    refine c_0_39 (As := [.int 1, .int (a2 - 1)]) (st1 := [.int z8.1]) rfl (fun Q1 hq => hrc0 e7 k0 hq) k0 rfl rfl (Nat.le_of_ble_eq_true rfl) (dd dt_0_eats 21 rfl) rfl ?_
    obtain rfl := Option.some.inj h
    exact R_iret rfl (dd dt_0_eats 22 rfl) hQ
  rw [if_neg hs4] at h
  by_cases hs5 : a1 = 5
  · refine R_tabIn (off := 72) (tgt := 73) (dd dt_0_eats 1 rfl) (by rw [hs5]; decide) (by rw [hs5]; decide) (by rw [hs5]; rfl) rfl ?_
    rw [if_pos hs5] at h
    refine R_aload_n (dd dt_0_eats 23 rfl) 0 rfl rfl ?_
    refine R_iconst (v := 1) (dd dt_0_eats 24 rfl) ic_1 ?_
    refine R_iload_n (dd dt_0_eats 25 rfl) 2 rfl rfl ?_
    obtain ⟨z10, e9, h⟩ := bi_el h
    refine c_0_39 (As := [.int 1, .int a2]) (st1 := [.int z10.1]) rfl (fun Q1 hq => hrc0 e9 k0 hq) k0 rfl rfl (Nat.le_of_ble_eq_true rfl) (dd dt_0_eats 26 rfl) rfl ?_
    obtain rfl := Option.some.inj h
    exact R_iret rfl (dd dt_0_eats 27 rfl) hQ
  rw [if_neg hs5] at h
  by_cases hs6 : a1 = 6
  · refine R_tabIn (off := 39) (tgt := 40) (dd dt_0_eats 1 rfl) (by rw [hs6]; decide) (by rw [hs6]; decide) (by rw [hs6]; rfl) rfl ?_
    rw [if_pos hs6] at h
    refine R_aload_n (dd dt_0_eats 2 rfl) 0 rfl rfl ?_
    refine R_bipush (v := 71) (dd dt_0_eats 3 rfl) bp_71 ?_
    obtain ⟨μ12, e11, h⟩ := bi_el h
    refine c_0_52 (As := [.int 71]) (st1 := []) rfl (fun Q1 hq => ok_0_begin e11 k0 hq) k0 rfl rfl (Nat.le_of_ble_eq_true rfl) (dd dt_0_eats 4 rfl) rfl ?_
    refine R_aload_n (dd dt_0_eats 5 rfl) 0 rfl rfl ?_
    refine R_iconst (v := 3) (dd dt_0_eats 6 rfl) ic_3 ?_
    refine R_iload_n (dd dt_0_eats 7 rfl) 2 rfl rfl ?_
    obtain ⟨z14, e13, h⟩ := bi_el h
    refine c_0_39 (As := [.int 3, .int a2]) (st1 := [.int z14.1]) rfl (fun Q1 hq => hrc0 e13 k0 hq) k0 rfl rfl (Nat.le_of_ble_eq_true rfl) (dd dt_0_eats 8 rfl) rfl ?_
    refine R_aload_n (dd dt_0_eats 9 rfl) 0 rfl rfl ?_
    refine g_0_22 rfl k0 (dd dt_0_eats 10 rfl) ?_
    refine R_imul (dd dt_0_eats 11 rfl) ?_
    obtain rfl := Option.some.inj h
    exact R_iret rfl (dd dt_0_eats 12 rfl) hQ
  rw [if_neg hs6] at h
  have KD : Rj l E (d + nf + 0 + 1) m_0_eats 98 [some (.ref a0), some (.int a1), some (.int a2)] [] μ Q := by
    refine R_aload_n (dd dt_0_eats 39 rfl) 0 rfl rfl ?_
    refine R_bipush (v := 10) (dd dt_0_eats 40 rfl) bp_10 ?_
    obtain ⟨μ16, e15, h⟩ := bi_el h
    refine c_0_52 (As := [.int 10]) (st1 := []) rfl (fun Q1 hq => ok_0_begin e15 k0 hq) k0 rfl rfl (Nat.le_of_ble_eq_true rfl) (dd dt_0_eats 41 rfl) rfl ?_
    refine R_iload_n (dd dt_0_eats 42 rfl) 2 rfl rfl ?_
    refine R_aload_n (dd dt_0_eats 43 rfl) 0 rfl rfl ?_
    refine g_0_28 rfl k0 (dd dt_0_eats 44 rfl) ?_
    refine R_iadd (dd dt_0_eats 45 rfl) ?_
    obtain rfl := Option.some.inj h
    exact R_iret rfl (dd dt_0_eats 46 rfl) hQ
  by_cases hs2 : a1 = 2
  · exact R_tabIn (off := 97) (tgt := 98) (dd dt_0_eats 1 rfl) (by rw [hs2]; decide) (by rw [hs2]; decide) (by rw [hs2]; rfl) rfl KD
  by_cases hs3 : a1 = 3
  · exact R_tabIn (off := 97) (tgt := 98) (dd dt_0_eats 1 rfl) (by rw [hs3]; decide) (by rw [hs3]; decide) (by rw [hs3]; rfl) rfl KD
  refine R_tabOut (tgt := 98) (dd dt_0_eats 1 rfl) (by have hn1 := lv_neT hs1 (a := 1) (by decide); have hn2 := lv_neT hs2 (a := 2) (by decide); have hn3 := lv_neT hs3 (a := 3) (by decide); have hn4 := lv_neT hs4 (a := 4) (by decide); have hn5 := lv_neT hs5 (a := 5) (by decide); have hn6 := lv_neT hs6 (a := 6) (by decide); omega) rfl ?_
  exact KD
def f_0_eats_G : Nat → Nat → Nat → Int32 → Int32 → mm → Option (Int32 × mm)
  | 0, _, _, _, _, _ => none
  | n + 1, t, b0, x0, x1, μ => if t = 0 then f_0_eats_b (f_0_eats_G n) b0 x0 x1 μ else none
set_option maxRecDepth 100000 in
theorem ok_0_eats_G {l : Launch} {E : ce} {d : Nat} : ∀ n : Nat, (∀ {b0 : Nat} {x0 : Int32} {x1 : Int32} {μ : mm} {r : Int32 × mm} {Q : Option Value → mm → Prop}, f_0_eats_G n 0 b0 x0 x1 μ = some r → kd b0 = 0 → Q (some (.int r.1)) r.2 → Ct l E (d + n + 0) yX0_eats m_0_eats [.ref b0, .int x0, .int x1] μ Q) ∧ True
  | 0 => by
    refine ⟨?_, trivial⟩
    · intro b0 x0 x1 μ r Q h kb hQ
      rw [f_0_eats_G] at h
      cases h
  | n + 1 => by
    obtain ⟨i0, -⟩ := ok_0_eats_G (l := l) (E := E) (d := d) n
    refine ⟨?_, trivial⟩
    · intro b0 x0 x1 μ r Q h kb hQ
      simp only [f_0_eats_G, if_pos] at h
      have hh := ok_0_eats_b (l := l) (E := E) (d := d) (nf := n) (rc := f_0_eats_G n) (fun h k q => i0 h k q) h kb hQ
      rw [show d + (n + 1) + 0 = d + n + 0 + 1 by omega]
      exact hh
theorem ok_0_eats_G_0 {l : Launch} {E : ce} {d : Nat} (n : Nat) {b0 : Nat} {x0 : Int32} {x1 : Int32} {μ : mm} {r : Int32 × mm} {Q : Option Value → mm → Prop} (h : f_0_eats_G n 0 b0 x0 x1 μ = some r) (kb : kd b0 = 0) (hQ : Q (some (.int r.1)) r.2) : Ct l E (d + n + 0) yX0_eats m_0_eats [.ref b0, .int x0, .int x1] μ Q := (ok_0_eats_G (l := l) (E := E) (d := d) n).1 h kb hQ
/-! LongStrike$Deals.owes(II)I -/
def tab_0_owes : List (Nat × Instr × Nat) := [(0, .iload_n 1, 1), (1, .lookupswitch 57 #[(2, 42), (5, 27)], 27), (28, .aload_n 0, 1), (29, .bipush 60, 2), (31, .invokevirtual 52, 3), (34, .aload_n 0, 1), (35, .iconst 1, 1), (36, .iload_n 2, 1), (37, .invokevirtual 43, 3), (40, .iconst 5, 1), (41, .iadd, 1), (42, .ireturn, 1), (43, .aload_n 0, 1), (44, .bipush 30, 2), (46, .invokevirtual 52, 3), (49, .iconst 0, 1), (50, .aload_n 0, 1), (51, .iconst 0, 1), (52, .iload_n 2, 1), (53, .invokevirtual 43, 3), (56, .isub, 1), (57, .ireturn, 1), (58, .aload_n 0, 1), (59, .bipush 11, 2), (61, .invokevirtual 52, 3), (64, .aload_n 0, 1), (65, .aload_n 0, 1), (66, .getfield 19, 3), (69, .iload_n 2, 1), (70, .invokevirtual 39, 3), (73, .iconst 2, 1), (74, .imul, 1), (75, .ireturn, 1)]
set_option maxRecDepth 100000 in
theorem dt_0_owes : ∀ q ∈ tab_0_owes, decode m_0_owes.2.1 q.1 = .ok q.2 := by decide +kernel
def f_0_owes_b (rc : Nat → Nat → Int32 → Int32 → mm → Option (Int32 × mm)) (a0 : Nat) (a1 : Int32) (a2 : Int32) (μ : mm) : Option (Int32 × mm) :=
  if a1 = 2 then
    (f_0_begin a0 30 μ).bind fun μ2 =>
    (rc 0 a0 0 a2 μ2).bind fun z4 =>
    some ((0 - z4.1), z4.2)
  else if a1 = 5 then
    (f_0_begin a0 60 μ).bind fun μ6 =>
    (rc 0 a0 1 a2 μ6).bind fun z8 =>
    some ((z8.1 + 5), z8.2)
  else 
    (f_0_begin a0 11 μ).bind fun μ10 =>
    (f_0_eats_G 9 0 a0 (μ10 a0 2) a2 μ10).bind fun z12 =>
    some ((z12.1 * 2), z12.2)
set_option maxRecDepth 100000 in
set_option maxHeartbeats 4000000 in
theorem ok_0_owes_b {l : Launch} {E : ce} {d nf : Nat} (rc : Nat → Nat → Int32 → Int32 → mm → Option (Int32 × mm)) (hrc0 : ∀ {b0 : Nat} {x0 : Int32} {x1 : Int32} {μ : mm} {r : Int32 × mm} {Q : Option Value → mm → Prop}, rc 0 b0 x0 x1 μ = some r → kd b0 = 0 → Q (some (.int r.1)) r.2 → Ct l E (d + nf + 9) yX0_owes m_0_owes [.ref b0, .int x0, .int x1] μ Q)  {a0 : Nat} {a1 : Int32} {a2 : Int32} {μ : mm} {r : Int32 × mm} {Q : Option Value → mm → Prop} (h : f_0_owes_b rc a0 a1 a2 μ = some r) (k0 : kd a0 = 0) (hQ : Q (some (.int r.1)) r.2) : Ct l E (d + nf + 9 + 1) yX0_owes m_0_owes [.ref a0, .int a1, .int a2] μ Q := by
  refine Ct_of (lv := [some (.ref a0), some (.int a1), some (.int a2)]) (by decide) rfl (Nat.le_of_ble_eq_true rfl) rfl ?_
  unfold f_0_owes_b at h
  refine R_iload_n (dd dt_0_owes 0 rfl) 1 rfl rfl ?_
  by_cases hs2 : a1 = 2
  · refine R_lookup (off := 42) (tgt := 43) (dd dt_0_owes 1 rfl) (by decide) (by rw [hs2]; rfl) rfl ?_
    rw [if_pos hs2] at h
    refine R_aload_n (dd dt_0_owes 12 rfl) 0 rfl rfl ?_
    refine R_bipush (v := 30) (dd dt_0_owes 13 rfl) bp_30 ?_
    obtain ⟨μ2, e1, h⟩ := bi_el h
    refine c_0_52 (As := [.int 30]) (st1 := []) rfl (fun Q1 hq => ok_0_begin e1 k0 hq) k0 rfl rfl (Nat.le_of_ble_eq_true rfl) (dd dt_0_owes 14 rfl) rfl ?_
    refine R_iconst (v := 0) (dd dt_0_owes 15 rfl) ic_0 ?_
    refine R_aload_n (dd dt_0_owes 16 rfl) 0 rfl rfl ?_
    refine R_iconst (v := 0) (dd dt_0_owes 17 rfl) ic_0 ?_
    refine R_iload_n (dd dt_0_owes 18 rfl) 2 rfl rfl ?_
    obtain ⟨z4, e3, h⟩ := bi_el h
    refine c_0_43 (As := [.int 0, .int a2]) (st1 := [.int z4.1, .int 0]) rfl (fun Q1 hq => hrc0 e3 k0 hq) k0 rfl rfl (Nat.le_of_ble_eq_true rfl) (dd dt_0_owes 19 rfl) rfl ?_
    refine R_isub (dd dt_0_owes 20 rfl) ?_
    obtain rfl := Option.some.inj h
    exact R_iret rfl (dd dt_0_owes 21 rfl) hQ
  rw [if_neg hs2] at h
  by_cases hs5 : a1 = 5
  · refine R_lookup (off := 27) (tgt := 28) (dd dt_0_owes 1 rfl) (by decide) (by rw [hs5]; rfl) rfl ?_
    rw [if_pos hs5] at h
    refine R_aload_n (dd dt_0_owes 2 rfl) 0 rfl rfl ?_
    refine R_bipush (v := 60) (dd dt_0_owes 3 rfl) bp_60 ?_
    obtain ⟨μ6, e5, h⟩ := bi_el h
    refine c_0_52 (As := [.int 60]) (st1 := []) rfl (fun Q1 hq => ok_0_begin e5 k0 hq) k0 rfl rfl (Nat.le_of_ble_eq_true rfl) (dd dt_0_owes 4 rfl) rfl ?_
    refine R_aload_n (dd dt_0_owes 5 rfl) 0 rfl rfl ?_
    refine R_iconst (v := 1) (dd dt_0_owes 6 rfl) ic_1 ?_
    refine R_iload_n (dd dt_0_owes 7 rfl) 2 rfl rfl ?_
    obtain ⟨z8, e7, h⟩ := bi_el h
    refine c_0_43 (As := [.int 1, .int a2]) (st1 := [.int z8.1]) rfl (fun Q1 hq => hrc0 e7 k0 hq) k0 rfl rfl (Nat.le_of_ble_eq_true rfl) (dd dt_0_owes 8 rfl) rfl ?_
    refine R_iconst (v := 5) (dd dt_0_owes 9 rfl) ic_5 ?_
    refine R_iadd (dd dt_0_owes 10 rfl) ?_
    obtain rfl := Option.some.inj h
    exact R_iret rfl (dd dt_0_owes 11 rfl) hQ
  rw [if_neg hs5] at h
  refine R_lookup (off := 57) (tgt := 58) (dd dt_0_owes 1 rfl) (by decide) ((lv_osw hs2 (by decide)).trans ((lv_osw hs5 (by decide)).trans (rfl))) rfl ?_
  refine R_aload_n (dd dt_0_owes 22 rfl) 0 rfl rfl ?_
  refine R_bipush (v := 11) (dd dt_0_owes 23 rfl) bp_11 ?_
  obtain ⟨μ10, e9, h⟩ := bi_el h
  refine c_0_52 (As := [.int 11]) (st1 := []) rfl (fun Q1 hq => ok_0_begin e9 k0 hq) k0 rfl rfl (Nat.le_of_ble_eq_true rfl) (dd dt_0_owes 24 rfl) rfl ?_
  refine R_aload_n (dd dt_0_owes 25 rfl) 0 rfl rfl ?_
  refine R_aload_n (dd dt_0_owes 26 rfl) 0 rfl rfl ?_
  refine g_0_19 rfl k0 (dd dt_0_owes 27 rfl) ?_
  refine R_iload_n (dd dt_0_owes 28 rfl) 2 rfl rfl ?_
  obtain ⟨z12, e11, h⟩ := bi_el h
  refine c_0_39 (As := [.int (μ10 a0 2), .int a2]) (st1 := [.int z12.1]) rfl (fun Q1 hq => ok_0_eats_G_0 _ e11 k0 hq) k0 rfl rfl (Nat.le_of_ble_eq_true rfl) (dd dt_0_owes 29 rfl) rfl ?_
  refine R_iconst (v := 2) (dd dt_0_owes 30 rfl) ic_2 ?_
  refine R_imul (dd dt_0_owes 31 rfl) ?_
  obtain rfl := Option.some.inj h
  exact R_iret rfl (dd dt_0_owes 32 rfl) hQ
def f_0_owes_G : Nat → Nat → Nat → Int32 → Int32 → mm → Option (Int32 × mm)
  | 0, _, _, _, _, _ => none
  | n + 1, t, b0, x0, x1, μ => if t = 0 then f_0_owes_b (f_0_owes_G n) b0 x0 x1 μ else none
set_option maxRecDepth 100000 in
theorem ok_0_owes_G {l : Launch} {E : ce} {d : Nat} : ∀ n : Nat, (∀ {b0 : Nat} {x0 : Int32} {x1 : Int32} {μ : mm} {r : Int32 × mm} {Q : Option Value → mm → Prop}, f_0_owes_G n 0 b0 x0 x1 μ = some r → kd b0 = 0 → Q (some (.int r.1)) r.2 → Ct l E (d + n + 9) yX0_owes m_0_owes [.ref b0, .int x0, .int x1] μ Q) ∧ True
  | 0 => by
    refine ⟨?_, trivial⟩
    · intro b0 x0 x1 μ r Q h kb hQ
      rw [f_0_owes_G] at h
      cases h
  | n + 1 => by
    obtain ⟨i0, -⟩ := ok_0_owes_G (l := l) (E := E) (d := d) n
    refine ⟨?_, trivial⟩
    · intro b0 x0 x1 μ r Q h kb hQ
      simp only [f_0_owes_G, if_pos] at h
      have hh := ok_0_owes_b (l := l) (E := E) (d := d) (nf := n) (rc := f_0_owes_G n) (fun h k q => i0 h k q) h kb hQ
      rw [show d + (n + 1) + 9 = d + n + 9 + 1 by omega]
      exact hh
theorem ok_0_owes_G_0 {l : Launch} {E : ce} {d : Nat} (n : Nat) {b0 : Nat} {x0 : Int32} {x1 : Int32} {μ : mm} {r : Int32 × mm} {Q : Option Value → mm → Prop} (h : f_0_owes_G n 0 b0 x0 x1 μ = some r) (kb : kd b0 = 0) (hQ : Q (some (.int r.1)) r.2) : Ct l E (d + n + 9) yX0_owes m_0_owes [.ref b0, .int x0, .int x1] μ Q := (ok_0_owes_G (l := l) (E := E) (d := d) n).1 h kb hQ
/-! LongStrike$Deals.quotient(II)I -/
def tab_0_quotient : List (Nat × Instr × Nat) := [(0, .iload_n 2, 1), (1, .ifCond .ne 10, 3), (4, .aload_n 0, 1), (5, .iconst 1, 1), (6, .putfield 31, 3), (9, .iconst 0, 1), (10, .ireturn, 1), (11, .iload_n 1, 1), (12, .iload_n 2, 1), (13, .idiv, 1), (14, .ireturn, 1)]
set_option maxRecDepth 100000 in
theorem dt_0_quotient : ∀ q ∈ tab_0_quotient, decode m_0_quotient.2.1 q.1 = .ok q.2 := by decide +kernel
def f_0_quotient (a0 : Nat) (a1 : Int32) (a2 : Int32) (μ : mm) : Option (Int32 × mm) :=
  if a2 = 0 then
    (pf μ a0 6 1).bind fun μ2 =>
    some (0, μ2)
  else
    (gd a2).bind fun _ =>
    some ((a1 / a2), μ)
set_option maxRecDepth 100000 in
set_option maxHeartbeats 4000000 in
theorem ok_0_quotient {l : Launch} {E : ce} {d : Nat}  {a0 : Nat} {a1 : Int32} {a2 : Int32} {μ : mm} {r : Int32 × mm} {Q : Option Value → mm → Prop} (h : f_0_quotient a0 a1 a2 μ = some r) (k0 : kd a0 = 0) (hQ : Q (some (.int r.1)) r.2) : Ct l E d yX0_quotient m_0_quotient [.ref a0, .int a1, .int a2] μ Q := by
  refine Ct_of (lv := [some (.ref a0), some (.int a1), some (.int a2)]) (by decide) rfl (Nat.le_of_ble_eq_true rfl) rfl ?_
  unfold f_0_quotient at h
  refine R_iload_n (dd dt_0_quotient 0 rfl) 2 rfl rfl ?_
  refine R_ifne (dd dt_0_quotient 1 rfl) (tgt := 11) rfl (fun hc => ?_) (fun hc => ?_)
  · rw [if_neg hc] at h
    refine R_iload_n (dd dt_0_quotient 7 rfl) 1 rfl rfl ?_
    refine R_iload_n (dd dt_0_quotient 8 rfl) 2 rfl rfl ?_
    obtain ⟨_, q1, h⟩ := bi_el h
    refine R_idiv (dd dt_0_quotient 9 rfl) (gd_el q1).1 ?_
    obtain rfl := Option.some.inj h
    exact R_iret rfl (dd dt_0_quotient 10 rfl) hQ
  · rw [if_pos hc] at h
    refine R_aload_n (dd dt_0_quotient 2 rfl) 0 rfl rfl ?_
    refine R_iconst (v := 1) (dd dt_0_quotient 3 rfl) ic_1 ?_
    obtain ⟨μ2, e3, h⟩ := bi_el h
    refine p_0_31 rfl k0 (by decide) (dd dt_0_quotient 4 rfl) e3 ?_
    refine R_iconst (v := 0) (dd dt_0_quotient 5 rfl) ic_0 ?_
    obtain rfl := Option.some.inj h
    exact R_iret rfl (dd dt_0_quotient 6 rfl) hQ
/-! LongStrike$Deals.parts(II)I -/
def tab_0_parts : List (Nat × Instr × Nat) := [(0, .iload_n 1, 1), (1, .tableswitch 64 3 6 #[46, 64, 31, 46], 31), (32, .aload_n 0, 1), (33, .bipush 61, 2), (35, .invokevirtual 52, 3), (38, .iconst 0, 1), (39, .aload_n 0, 1), (40, .iconst 1, 1), (41, .iload_n 2, 1), (42, .invokevirtual 49, 3), (45, .isub, 1), (46, .ireturn, 1), (47, .aload_n 0, 1), (48, .bipush 41, 2), (50, .invokevirtual 52, 3), (53, .aload_n 0, 1), (54, .iconst 0, 1), (55, .iload_n 2, 1), (56, .aload_n 0, 1), (57, .getfield 25, 3), (60, .iadd, 1), (61, .invokevirtual 49, 3), (64, .ireturn, 1), (65, .aload_n 0, 1), (66, .bipush 13, 2), (68, .invokevirtual 52, 3), (71, .aload_n 0, 1), (72, .iload_n 2, 1), (73, .aload_n 0, 1), (74, .getfield 22, 3), (77, .iconst 1, 1), (78, .isub, 1), (79, .invokevirtual 56, 3), (82, .ireturn, 1)]
set_option maxRecDepth 100000 in
theorem dt_0_parts : ∀ q ∈ tab_0_parts, decode m_0_parts.2.1 q.1 = .ok q.2 := by decide +kernel
def f_0_parts_b (rc : Nat → Nat → Int32 → Int32 → mm → Option (Int32 × mm)) (a0 : Nat) (a1 : Int32) (a2 : Int32) (μ : mm) : Option (Int32 × mm) :=
  if a1 = 3 then
    (f_0_begin a0 41 μ).bind fun μ2 =>
    (rc 0 a0 0 (a2 + (μ2 a0 4)) μ2).bind fun z4 =>
    some (z4.1, z4.2)
  else if a1 = 5 then
    (f_0_begin a0 61 μ).bind fun μ6 =>
    (rc 0 a0 1 a2 μ6).bind fun z8 =>
    some ((0 - z8.1), z8.2)
  else if a1 = 6 then
    (f_0_begin a0 41 μ).bind fun μ10 =>
    (rc 0 a0 0 (a2 + (μ10 a0 4)) μ10).bind fun z12 =>
    some (z12.1, z12.2)
  else 
    (f_0_begin a0 13 μ).bind fun μ14 =>
    (f_0_quotient a0 a2 ((μ14 a0 3) - 1) μ14).bind fun z16 =>
    some (z16.1, z16.2)
set_option maxRecDepth 100000 in
set_option maxHeartbeats 4000000 in
theorem ok_0_parts_b {l : Launch} {E : ce} {d nf : Nat} (rc : Nat → Nat → Int32 → Int32 → mm → Option (Int32 × mm)) (hrc0 : ∀ {b0 : Nat} {x0 : Int32} {x1 : Int32} {μ : mm} {r : Int32 × mm} {Q : Option Value → mm → Prop}, rc 0 b0 x0 x1 μ = some r → kd b0 = 0 → Q (some (.int r.1)) r.2 → Ct l E (d + nf + 0) yX0_parts m_0_parts [.ref b0, .int x0, .int x1] μ Q)  {a0 : Nat} {a1 : Int32} {a2 : Int32} {μ : mm} {r : Int32 × mm} {Q : Option Value → mm → Prop} (h : f_0_parts_b rc a0 a1 a2 μ = some r) (k0 : kd a0 = 0) (hQ : Q (some (.int r.1)) r.2) : Ct l E (d + nf + 0 + 1) yX0_parts m_0_parts [.ref a0, .int a1, .int a2] μ Q := by
  refine Ct_of (lv := [some (.ref a0), some (.int a1), some (.int a2)]) (by decide) rfl (Nat.le_of_ble_eq_true rfl) rfl ?_
  unfold f_0_parts_b at h
  refine R_iload_n (dd dt_0_parts 0 rfl) 1 rfl rfl ?_
  by_cases hs3 : a1 = 3
  · refine R_tabIn (off := 46) (tgt := 47) (dd dt_0_parts 1 rfl) (by rw [hs3]; decide) (by rw [hs3]; decide) (by rw [hs3]; rfl) rfl ?_
    rw [if_pos hs3] at h
    refine R_aload_n (dd dt_0_parts 12 rfl) 0 rfl rfl ?_
    refine R_bipush (v := 41) (dd dt_0_parts 13 rfl) bp_41 ?_
    obtain ⟨μ2, e1, h⟩ := bi_el h
    refine c_0_52 (As := [.int 41]) (st1 := []) rfl (fun Q1 hq => ok_0_begin e1 k0 hq) k0 rfl rfl (Nat.le_of_ble_eq_true rfl) (dd dt_0_parts 14 rfl) rfl ?_
    refine R_aload_n (dd dt_0_parts 15 rfl) 0 rfl rfl ?_
    refine R_iconst (v := 0) (dd dt_0_parts 16 rfl) ic_0 ?_
    refine R_iload_n (dd dt_0_parts 17 rfl) 2 rfl rfl ?_
    refine R_aload_n (dd dt_0_parts 18 rfl) 0 rfl rfl ?_
    refine g_0_25 rfl k0 (dd dt_0_parts 19 rfl) ?_
    refine R_iadd (dd dt_0_parts 20 rfl) ?_
    obtain ⟨z4, e3, h⟩ := bi_el h
    refine c_0_49 (As := [.int 0, .int (a2 + (μ2 a0 4))]) (st1 := [.int z4.1]) rfl (fun Q1 hq => hrc0 e3 k0 hq) k0 rfl rfl (Nat.le_of_ble_eq_true rfl) (dd dt_0_parts 21 rfl) rfl ?_
    obtain rfl := Option.some.inj h
    exact R_iret rfl (dd dt_0_parts 22 rfl) hQ
  rw [if_neg hs3] at h
  by_cases hs5 : a1 = 5
  · refine R_tabIn (off := 31) (tgt := 32) (dd dt_0_parts 1 rfl) (by rw [hs5]; decide) (by rw [hs5]; decide) (by rw [hs5]; rfl) rfl ?_
    rw [if_pos hs5] at h
    refine R_aload_n (dd dt_0_parts 2 rfl) 0 rfl rfl ?_
    refine R_bipush (v := 61) (dd dt_0_parts 3 rfl) bp_61 ?_
    obtain ⟨μ6, e5, h⟩ := bi_el h
    refine c_0_52 (As := [.int 61]) (st1 := []) rfl (fun Q1 hq => ok_0_begin e5 k0 hq) k0 rfl rfl (Nat.le_of_ble_eq_true rfl) (dd dt_0_parts 4 rfl) rfl ?_
    refine R_iconst (v := 0) (dd dt_0_parts 5 rfl) ic_0 ?_
    refine R_aload_n (dd dt_0_parts 6 rfl) 0 rfl rfl ?_
    refine R_iconst (v := 1) (dd dt_0_parts 7 rfl) ic_1 ?_
    refine R_iload_n (dd dt_0_parts 8 rfl) 2 rfl rfl ?_
    obtain ⟨z8, e7, h⟩ := bi_el h
    refine c_0_49 (As := [.int 1, .int a2]) (st1 := [.int z8.1, .int 0]) rfl (fun Q1 hq => hrc0 e7 k0 hq) k0 rfl rfl (Nat.le_of_ble_eq_true rfl) (dd dt_0_parts 9 rfl) rfl ?_
    refine R_isub (dd dt_0_parts 10 rfl) ?_
    obtain rfl := Option.some.inj h
    exact R_iret rfl (dd dt_0_parts 11 rfl) hQ
  rw [if_neg hs5] at h
  by_cases hs6 : a1 = 6
  · refine R_tabIn (off := 46) (tgt := 47) (dd dt_0_parts 1 rfl) (by rw [hs6]; decide) (by rw [hs6]; decide) (by rw [hs6]; rfl) rfl ?_
    rw [if_pos hs6] at h
    refine R_aload_n (dd dt_0_parts 12 rfl) 0 rfl rfl ?_
    refine R_bipush (v := 41) (dd dt_0_parts 13 rfl) bp_41 ?_
    obtain ⟨μ10, e9, h⟩ := bi_el h
    refine c_0_52 (As := [.int 41]) (st1 := []) rfl (fun Q1 hq => ok_0_begin e9 k0 hq) k0 rfl rfl (Nat.le_of_ble_eq_true rfl) (dd dt_0_parts 14 rfl) rfl ?_
    refine R_aload_n (dd dt_0_parts 15 rfl) 0 rfl rfl ?_
    refine R_iconst (v := 0) (dd dt_0_parts 16 rfl) ic_0 ?_
    refine R_iload_n (dd dt_0_parts 17 rfl) 2 rfl rfl ?_
    refine R_aload_n (dd dt_0_parts 18 rfl) 0 rfl rfl ?_
    refine g_0_25 rfl k0 (dd dt_0_parts 19 rfl) ?_
    refine R_iadd (dd dt_0_parts 20 rfl) ?_
    obtain ⟨z12, e11, h⟩ := bi_el h
    refine c_0_49 (As := [.int 0, .int (a2 + (μ10 a0 4))]) (st1 := [.int z12.1]) rfl (fun Q1 hq => hrc0 e11 k0 hq) k0 rfl rfl (Nat.le_of_ble_eq_true rfl) (dd dt_0_parts 21 rfl) rfl ?_
    obtain rfl := Option.some.inj h
    exact R_iret rfl (dd dt_0_parts 22 rfl) hQ
  rw [if_neg hs6] at h
  have KD : Rj l E (d + nf + 0 + 1) m_0_parts 65 [some (.ref a0), some (.int a1), some (.int a2)] [] μ Q := by
    refine R_aload_n (dd dt_0_parts 23 rfl) 0 rfl rfl ?_
    refine R_bipush (v := 13) (dd dt_0_parts 24 rfl) bp_13 ?_
    obtain ⟨μ14, e13, h⟩ := bi_el h
    refine c_0_52 (As := [.int 13]) (st1 := []) rfl (fun Q1 hq => ok_0_begin e13 k0 hq) k0 rfl rfl (Nat.le_of_ble_eq_true rfl) (dd dt_0_parts 25 rfl) rfl ?_
    refine R_aload_n (dd dt_0_parts 26 rfl) 0 rfl rfl ?_
    refine R_iload_n (dd dt_0_parts 27 rfl) 2 rfl rfl ?_
    refine R_aload_n (dd dt_0_parts 28 rfl) 0 rfl rfl ?_
    refine g_0_22 rfl k0 (dd dt_0_parts 29 rfl) ?_
    refine R_iconst (v := 1) (dd dt_0_parts 30 rfl) ic_1 ?_
    refine R_isub (dd dt_0_parts 31 rfl) ?_
    obtain ⟨z16, e15, h⟩ := bi_el h
    refine c_0_56 (As := [.int a2, .int ((μ14 a0 3) - 1)]) (st1 := [.int z16.1]) rfl (fun Q1 hq => ok_0_quotient e15 k0 hq) k0 rfl rfl (Nat.le_of_ble_eq_true rfl) (dd dt_0_parts 32 rfl) rfl ?_
    obtain rfl := Option.some.inj h
    exact R_iret rfl (dd dt_0_parts 33 rfl) hQ
  by_cases hs4 : a1 = 4
  · exact R_tabIn (off := 64) (tgt := 65) (dd dt_0_parts 1 rfl) (by rw [hs4]; decide) (by rw [hs4]; decide) (by rw [hs4]; rfl) rfl KD
  refine R_tabOut (tgt := 65) (dd dt_0_parts 1 rfl) (by have hn3 := lv_neT hs3 (a := 3) (by decide); have hn4 := lv_neT hs4 (a := 4) (by decide); have hn5 := lv_neT hs5 (a := 5) (by decide); have hn6 := lv_neT hs6 (a := 6) (by decide); omega) rfl ?_
  exact KD
def f_0_parts_G : Nat → Nat → Nat → Int32 → Int32 → mm → Option (Int32 × mm)
  | 0, _, _, _, _, _ => none
  | n + 1, t, b0, x0, x1, μ => if t = 0 then f_0_parts_b (f_0_parts_G n) b0 x0 x1 μ else none
set_option maxRecDepth 100000 in
theorem ok_0_parts_G {l : Launch} {E : ce} {d : Nat} : ∀ n : Nat, (∀ {b0 : Nat} {x0 : Int32} {x1 : Int32} {μ : mm} {r : Int32 × mm} {Q : Option Value → mm → Prop}, f_0_parts_G n 0 b0 x0 x1 μ = some r → kd b0 = 0 → Q (some (.int r.1)) r.2 → Ct l E (d + n + 0) yX0_parts m_0_parts [.ref b0, .int x0, .int x1] μ Q) ∧ True
  | 0 => by
    refine ⟨?_, trivial⟩
    · intro b0 x0 x1 μ r Q h kb hQ
      rw [f_0_parts_G] at h
      cases h
  | n + 1 => by
    obtain ⟨i0, -⟩ := ok_0_parts_G (l := l) (E := E) (d := d) n
    refine ⟨?_, trivial⟩
    · intro b0 x0 x1 μ r Q h kb hQ
      simp only [f_0_parts_G, if_pos] at h
      have hh := ok_0_parts_b (l := l) (E := E) (d := d) (nf := n) (rc := f_0_parts_G n) (fun h k q => i0 h k q) h kb hQ
      rw [show d + (n + 1) + 0 = d + n + 0 + 1 by omega]
      exact hh
theorem ok_0_parts_G_0 {l : Launch} {E : ce} {d : Nat} (n : Nat) {b0 : Nat} {x0 : Int32} {x1 : Int32} {μ : mm} {r : Int32 × mm} {Q : Option Value → mm → Prop} (h : f_0_parts_G n 0 b0 x0 x1 μ = some r) (kb : kd b0 = 0) (hQ : Q (some (.int r.1)) r.2) : Ct l E (d + n + 0) yX0_parts m_0_parts [.ref b0, .int x0, .int x1] μ Q := (ok_0_parts_G (l := l) (E := E) (d := d) n).1 h kb hQ
/-! LongStrike$Deals.votes(II)I -/
def tab_0_votes : List (Nat × Instr × Nat) := [(0, .iload_n 1, 1), (1, .tableswitch 100 1 6 #[77, 100, 62, 77, 77, 39], 39), (40, .aload_n 0, 1), (41, .bipush 70, 2), (43, .invokevirtual 52, 3), (46, .aload_n 0, 1), (47, .iconst 3, 1), (48, .iload_n 2, 1), (49, .invokevirtual 46, 3), (52, .aload_n 0, 1), (53, .aload_n 0, 1), (54, .getfield 19, 3), (57, .iconst 0, 1), (58, .invokevirtual 43, 3), (61, .isub, 1), (62, .ireturn, 1), (63, .aload_n 0, 1), (64, .bipush 40, 2), (66, .invokevirtual 52, 3), (69, .aload_n 0, 1), (70, .iconst 0, 1), (71, .iload_n 2, 1), (72, .invokevirtual 46, 3), (75, .iconst 3, 1), (76, .imul, 1), (77, .ireturn, 1), (78, .aload_n 0, 1), (79, .bipush 21, 2), (81, .invokevirtual 52, 3), (84, .aload_n 0, 1), (85, .iconst 0, 1), (86, .iload_n 2, 1), (87, .invokevirtual 46, 3), (90, .aload_n 0, 1), (91, .aload_n 0, 1), (92, .getfield 19, 3), (95, .iconst 1, 1), (96, .invokevirtual 39, 3), (99, .iadd, 1), (100, .ireturn, 1), (101, .aload_n 0, 1), (102, .bipush 12, 2), (104, .invokevirtual 52, 3), (107, .aload_n 0, 1), (108, .aload_n 0, 1), (109, .getfield 19, 3), (112, .iload_n 2, 1), (113, .invokevirtual 43, 3), (116, .aload_n 0, 1), (117, .getfield 25, 3), (120, .isub, 1), (121, .ireturn, 1)]
set_option maxRecDepth 100000 in
theorem dt_0_votes : ∀ q ∈ tab_0_votes, decode m_0_votes.2.1 q.1 = .ok q.2 := by decide +kernel
def f_0_votes_b (rc : Nat → Nat → Int32 → Int32 → mm → Option (Int32 × mm)) (a0 : Nat) (a1 : Int32) (a2 : Int32) (μ : mm) : Option (Int32 × mm) :=
  if a1 = 1 then
    (f_0_begin a0 21 μ).bind fun μ2 =>
    (rc 0 a0 0 a2 μ2).bind fun z4 =>
    (f_0_eats_G 9 0 a0 (z4.2 a0 2) 1 z4.2).bind fun z6 =>
    some ((z4.1 + z6.1), z6.2)
  else if a1 = 3 then
    (f_0_begin a0 40 μ).bind fun μ8 =>
    (rc 0 a0 0 a2 μ8).bind fun z10 =>
    some ((z10.1 * 3), z10.2)
  else if a1 = 4 then
    (f_0_begin a0 21 μ).bind fun μ12 =>
    (rc 0 a0 0 a2 μ12).bind fun z14 =>
    (f_0_eats_G 9 0 a0 (z14.2 a0 2) 1 z14.2).bind fun z16 =>
    some ((z14.1 + z16.1), z16.2)
  else if a1 = 5 then
    (f_0_begin a0 21 μ).bind fun μ18 =>
    (rc 0 a0 0 a2 μ18).bind fun z20 =>
    (f_0_eats_G 9 0 a0 (z20.2 a0 2) 1 z20.2).bind fun z22 =>
    some ((z20.1 + z22.1), z22.2)
  else if a1 = 6 then
    (f_0_begin a0 70 μ).bind fun μ24 =>
    (rc 0 a0 3 a2 μ24).bind fun z26 =>
    (f_0_owes_G 9 0 a0 (z26.2 a0 2) 0 z26.2).bind fun z28 =>
    some ((z26.1 - z28.1), z28.2)
  else 
    (f_0_begin a0 12 μ).bind fun μ30 =>
    (f_0_owes_G 9 0 a0 (μ30 a0 2) a2 μ30).bind fun z32 =>
    some ((z32.1 - (z32.2 a0 4)), z32.2)
set_option maxRecDepth 100000 in
set_option maxHeartbeats 4000000 in
theorem ok_0_votes_b {l : Launch} {E : ce} {d nf : Nat} (rc : Nat → Nat → Int32 → Int32 → mm → Option (Int32 × mm)) (hrc0 : ∀ {b0 : Nat} {x0 : Int32} {x1 : Int32} {μ : mm} {r : Int32 × mm} {Q : Option Value → mm → Prop}, rc 0 b0 x0 x1 μ = some r → kd b0 = 0 → Q (some (.int r.1)) r.2 → Ct l E (d + nf + 18) yX0_votes m_0_votes [.ref b0, .int x0, .int x1] μ Q)  {a0 : Nat} {a1 : Int32} {a2 : Int32} {μ : mm} {r : Int32 × mm} {Q : Option Value → mm → Prop} (h : f_0_votes_b rc a0 a1 a2 μ = some r) (k0 : kd a0 = 0) (hQ : Q (some (.int r.1)) r.2) : Ct l E (d + nf + 18 + 1) yX0_votes m_0_votes [.ref a0, .int a1, .int a2] μ Q := by
  refine Ct_of (lv := [some (.ref a0), some (.int a1), some (.int a2)]) (by decide) rfl (Nat.le_of_ble_eq_true rfl) rfl ?_
  unfold f_0_votes_b at h
  refine R_iload_n (dd dt_0_votes 0 rfl) 1 rfl rfl ?_
  by_cases hs1 : a1 = 1
  · refine R_tabIn (off := 77) (tgt := 78) (dd dt_0_votes 1 rfl) (by rw [hs1]; decide) (by rw [hs1]; decide) (by rw [hs1]; rfl) rfl ?_
    rw [if_pos hs1] at h
    refine R_aload_n (dd dt_0_votes 26 rfl) 0 rfl rfl ?_
    refine R_bipush (v := 21) (dd dt_0_votes 27 rfl) bp_21 ?_
    obtain ⟨μ2, e1, h⟩ := bi_el h
    refine c_0_52 (As := [.int 21]) (st1 := []) rfl (fun Q1 hq => ok_0_begin e1 k0 hq) k0 rfl rfl (Nat.le_of_ble_eq_true rfl) (dd dt_0_votes 28 rfl) rfl ?_
    refine R_aload_n (dd dt_0_votes 29 rfl) 0 rfl rfl ?_
    refine R_iconst (v := 0) (dd dt_0_votes 30 rfl) ic_0 ?_
    refine R_iload_n (dd dt_0_votes 31 rfl) 2 rfl rfl ?_
    obtain ⟨z4, e3, h⟩ := bi_el h
    refine c_0_46 (As := [.int 0, .int a2]) (st1 := [.int z4.1]) rfl (fun Q1 hq => hrc0 e3 k0 hq) k0 rfl rfl (Nat.le_of_ble_eq_true rfl) (dd dt_0_votes 32 rfl) rfl ?_
    refine R_aload_n (dd dt_0_votes 33 rfl) 0 rfl rfl ?_
    refine R_aload_n (dd dt_0_votes 34 rfl) 0 rfl rfl ?_
    refine g_0_19 rfl k0 (dd dt_0_votes 35 rfl) ?_
    refine R_iconst (v := 1) (dd dt_0_votes 36 rfl) ic_1 ?_
    obtain ⟨z6, e5, h⟩ := bi_el h
    refine c_0_39 (As := [.int (z4.2 a0 2), .int 1]) (st1 := [.int z6.1, .int z4.1]) rfl (fun Q1 hq => ok_0_eats_G_0 _ e5 k0 hq) k0 rfl rfl (Nat.le_of_ble_eq_true rfl) (dd dt_0_votes 37 rfl) rfl ?_
    refine R_iadd (dd dt_0_votes 38 rfl) ?_
    obtain rfl := Option.some.inj h
    exact R_iret rfl (dd dt_0_votes 39 rfl) hQ
  rw [if_neg hs1] at h
  by_cases hs3 : a1 = 3
  · refine R_tabIn (off := 62) (tgt := 63) (dd dt_0_votes 1 rfl) (by rw [hs3]; decide) (by rw [hs3]; decide) (by rw [hs3]; rfl) rfl ?_
    rw [if_pos hs3] at h
    refine R_aload_n (dd dt_0_votes 16 rfl) 0 rfl rfl ?_
    refine R_bipush (v := 40) (dd dt_0_votes 17 rfl) bp_40 ?_
    obtain ⟨μ8, e7, h⟩ := bi_el h
    refine c_0_52 (As := [.int 40]) (st1 := []) rfl (fun Q1 hq => ok_0_begin e7 k0 hq) k0 rfl rfl (Nat.le_of_ble_eq_true rfl) (dd dt_0_votes 18 rfl) rfl ?_
    refine R_aload_n (dd dt_0_votes 19 rfl) 0 rfl rfl ?_
    refine R_iconst (v := 0) (dd dt_0_votes 20 rfl) ic_0 ?_
    refine R_iload_n (dd dt_0_votes 21 rfl) 2 rfl rfl ?_
    obtain ⟨z10, e9, h⟩ := bi_el h
    refine c_0_46 (As := [.int 0, .int a2]) (st1 := [.int z10.1]) rfl (fun Q1 hq => hrc0 e9 k0 hq) k0 rfl rfl (Nat.le_of_ble_eq_true rfl) (dd dt_0_votes 22 rfl) rfl ?_
    refine R_iconst (v := 3) (dd dt_0_votes 23 rfl) ic_3 ?_
    refine R_imul (dd dt_0_votes 24 rfl) ?_
    obtain rfl := Option.some.inj h
    exact R_iret rfl (dd dt_0_votes 25 rfl) hQ
  rw [if_neg hs3] at h
  by_cases hs4 : a1 = 4
  · refine R_tabIn (off := 77) (tgt := 78) (dd dt_0_votes 1 rfl) (by rw [hs4]; decide) (by rw [hs4]; decide) (by rw [hs4]; rfl) rfl ?_
    rw [if_pos hs4] at h
    refine R_aload_n (dd dt_0_votes 26 rfl) 0 rfl rfl ?_
    refine R_bipush (v := 21) (dd dt_0_votes 27 rfl) bp_21 ?_
    obtain ⟨μ12, e11, h⟩ := bi_el h
    refine c_0_52 (As := [.int 21]) (st1 := []) rfl (fun Q1 hq => ok_0_begin e11 k0 hq) k0 rfl rfl (Nat.le_of_ble_eq_true rfl) (dd dt_0_votes 28 rfl) rfl ?_
    refine R_aload_n (dd dt_0_votes 29 rfl) 0 rfl rfl ?_
    refine R_iconst (v := 0) (dd dt_0_votes 30 rfl) ic_0 ?_
    refine R_iload_n (dd dt_0_votes 31 rfl) 2 rfl rfl ?_
    obtain ⟨z14, e13, h⟩ := bi_el h
    refine c_0_46 (As := [.int 0, .int a2]) (st1 := [.int z14.1]) rfl (fun Q1 hq => hrc0 e13 k0 hq) k0 rfl rfl (Nat.le_of_ble_eq_true rfl) (dd dt_0_votes 32 rfl) rfl ?_
    refine R_aload_n (dd dt_0_votes 33 rfl) 0 rfl rfl ?_
    refine R_aload_n (dd dt_0_votes 34 rfl) 0 rfl rfl ?_
    refine g_0_19 rfl k0 (dd dt_0_votes 35 rfl) ?_
    refine R_iconst (v := 1) (dd dt_0_votes 36 rfl) ic_1 ?_
    obtain ⟨z16, e15, h⟩ := bi_el h
    refine c_0_39 (As := [.int (z14.2 a0 2), .int 1]) (st1 := [.int z16.1, .int z14.1]) rfl (fun Q1 hq => ok_0_eats_G_0 _ e15 k0 hq) k0 rfl rfl (Nat.le_of_ble_eq_true rfl) (dd dt_0_votes 37 rfl) rfl ?_
    refine R_iadd (dd dt_0_votes 38 rfl) ?_
    obtain rfl := Option.some.inj h
    exact R_iret rfl (dd dt_0_votes 39 rfl) hQ
  rw [if_neg hs4] at h
  by_cases hs5 : a1 = 5
  · refine R_tabIn (off := 77) (tgt := 78) (dd dt_0_votes 1 rfl) (by rw [hs5]; decide) (by rw [hs5]; decide) (by rw [hs5]; rfl) rfl ?_
    rw [if_pos hs5] at h
    refine R_aload_n (dd dt_0_votes 26 rfl) 0 rfl rfl ?_
    refine R_bipush (v := 21) (dd dt_0_votes 27 rfl) bp_21 ?_
    obtain ⟨μ18, e17, h⟩ := bi_el h
    refine c_0_52 (As := [.int 21]) (st1 := []) rfl (fun Q1 hq => ok_0_begin e17 k0 hq) k0 rfl rfl (Nat.le_of_ble_eq_true rfl) (dd dt_0_votes 28 rfl) rfl ?_
    refine R_aload_n (dd dt_0_votes 29 rfl) 0 rfl rfl ?_
    refine R_iconst (v := 0) (dd dt_0_votes 30 rfl) ic_0 ?_
    refine R_iload_n (dd dt_0_votes 31 rfl) 2 rfl rfl ?_
    obtain ⟨z20, e19, h⟩ := bi_el h
    refine c_0_46 (As := [.int 0, .int a2]) (st1 := [.int z20.1]) rfl (fun Q1 hq => hrc0 e19 k0 hq) k0 rfl rfl (Nat.le_of_ble_eq_true rfl) (dd dt_0_votes 32 rfl) rfl ?_
    refine R_aload_n (dd dt_0_votes 33 rfl) 0 rfl rfl ?_
    refine R_aload_n (dd dt_0_votes 34 rfl) 0 rfl rfl ?_
    refine g_0_19 rfl k0 (dd dt_0_votes 35 rfl) ?_
    refine R_iconst (v := 1) (dd dt_0_votes 36 rfl) ic_1 ?_
    obtain ⟨z22, e21, h⟩ := bi_el h
    refine c_0_39 (As := [.int (z20.2 a0 2), .int 1]) (st1 := [.int z22.1, .int z20.1]) rfl (fun Q1 hq => ok_0_eats_G_0 _ e21 k0 hq) k0 rfl rfl (Nat.le_of_ble_eq_true rfl) (dd dt_0_votes 37 rfl) rfl ?_
    refine R_iadd (dd dt_0_votes 38 rfl) ?_
    obtain rfl := Option.some.inj h
    exact R_iret rfl (dd dt_0_votes 39 rfl) hQ
  rw [if_neg hs5] at h
  by_cases hs6 : a1 = 6
  · refine R_tabIn (off := 39) (tgt := 40) (dd dt_0_votes 1 rfl) (by rw [hs6]; decide) (by rw [hs6]; decide) (by rw [hs6]; rfl) rfl ?_
    rw [if_pos hs6] at h
    refine R_aload_n (dd dt_0_votes 2 rfl) 0 rfl rfl ?_
    refine R_bipush (v := 70) (dd dt_0_votes 3 rfl) bp_70 ?_
    obtain ⟨μ24, e23, h⟩ := bi_el h
    refine c_0_52 (As := [.int 70]) (st1 := []) rfl (fun Q1 hq => ok_0_begin e23 k0 hq) k0 rfl rfl (Nat.le_of_ble_eq_true rfl) (dd dt_0_votes 4 rfl) rfl ?_
    refine R_aload_n (dd dt_0_votes 5 rfl) 0 rfl rfl ?_
    refine R_iconst (v := 3) (dd dt_0_votes 6 rfl) ic_3 ?_
    refine R_iload_n (dd dt_0_votes 7 rfl) 2 rfl rfl ?_
    obtain ⟨z26, e25, h⟩ := bi_el h
    refine c_0_46 (As := [.int 3, .int a2]) (st1 := [.int z26.1]) rfl (fun Q1 hq => hrc0 e25 k0 hq) k0 rfl rfl (Nat.le_of_ble_eq_true rfl) (dd dt_0_votes 8 rfl) rfl ?_
    refine R_aload_n (dd dt_0_votes 9 rfl) 0 rfl rfl ?_
    refine R_aload_n (dd dt_0_votes 10 rfl) 0 rfl rfl ?_
    refine g_0_19 rfl k0 (dd dt_0_votes 11 rfl) ?_
    refine R_iconst (v := 0) (dd dt_0_votes 12 rfl) ic_0 ?_
    obtain ⟨z28, e27, h⟩ := bi_el h
    refine c_0_43 (As := [.int (z26.2 a0 2), .int 0]) (st1 := [.int z28.1, .int z26.1]) rfl (fun Q1 hq => ok_0_owes_G_0 _ e27 k0 hq) k0 rfl rfl (Nat.le_of_ble_eq_true rfl) (dd dt_0_votes 13 rfl) rfl ?_
    refine R_isub (dd dt_0_votes 14 rfl) ?_
    obtain rfl := Option.some.inj h
    exact R_iret rfl (dd dt_0_votes 15 rfl) hQ
  rw [if_neg hs6] at h
  have KD : Rj l E (d + nf + 18 + 1) m_0_votes 101 [some (.ref a0), some (.int a1), some (.int a2)] [] μ Q := by
    refine R_aload_n (dd dt_0_votes 40 rfl) 0 rfl rfl ?_
    refine R_bipush (v := 12) (dd dt_0_votes 41 rfl) bp_12 ?_
    obtain ⟨μ30, e29, h⟩ := bi_el h
    refine c_0_52 (As := [.int 12]) (st1 := []) rfl (fun Q1 hq => ok_0_begin e29 k0 hq) k0 rfl rfl (Nat.le_of_ble_eq_true rfl) (dd dt_0_votes 42 rfl) rfl ?_
    refine R_aload_n (dd dt_0_votes 43 rfl) 0 rfl rfl ?_
    refine R_aload_n (dd dt_0_votes 44 rfl) 0 rfl rfl ?_
    refine g_0_19 rfl k0 (dd dt_0_votes 45 rfl) ?_
    refine R_iload_n (dd dt_0_votes 46 rfl) 2 rfl rfl ?_
    obtain ⟨z32, e31, h⟩ := bi_el h
    refine c_0_43 (As := [.int (μ30 a0 2), .int a2]) (st1 := [.int z32.1]) rfl (fun Q1 hq => ok_0_owes_G_0 _ e31 k0 hq) k0 rfl rfl (Nat.le_of_ble_eq_true rfl) (dd dt_0_votes 47 rfl) rfl ?_
    refine R_aload_n (dd dt_0_votes 48 rfl) 0 rfl rfl ?_
    refine g_0_25 rfl k0 (dd dt_0_votes 49 rfl) ?_
    refine R_isub (dd dt_0_votes 50 rfl) ?_
    obtain rfl := Option.some.inj h
    exact R_iret rfl (dd dt_0_votes 51 rfl) hQ
  by_cases hs2 : a1 = 2
  · exact R_tabIn (off := 100) (tgt := 101) (dd dt_0_votes 1 rfl) (by rw [hs2]; decide) (by rw [hs2]; decide) (by rw [hs2]; rfl) rfl KD
  refine R_tabOut (tgt := 101) (dd dt_0_votes 1 rfl) (by have hn1 := lv_neT hs1 (a := 1) (by decide); have hn2 := lv_neT hs2 (a := 2) (by decide); have hn3 := lv_neT hs3 (a := 3) (by decide); have hn4 := lv_neT hs4 (a := 4) (by decide); have hn5 := lv_neT hs5 (a := 5) (by decide); have hn6 := lv_neT hs6 (a := 6) (by decide); omega) rfl ?_
  exact KD
def f_0_votes_G : Nat → Nat → Nat → Int32 → Int32 → mm → Option (Int32 × mm)
  | 0, _, _, _, _, _ => none
  | n + 1, t, b0, x0, x1, μ => if t = 0 then f_0_votes_b (f_0_votes_G n) b0 x0 x1 μ else none
set_option maxRecDepth 100000 in
theorem ok_0_votes_G {l : Launch} {E : ce} {d : Nat} : ∀ n : Nat, (∀ {b0 : Nat} {x0 : Int32} {x1 : Int32} {μ : mm} {r : Int32 × mm} {Q : Option Value → mm → Prop}, f_0_votes_G n 0 b0 x0 x1 μ = some r → kd b0 = 0 → Q (some (.int r.1)) r.2 → Ct l E (d + n + 18) yX0_votes m_0_votes [.ref b0, .int x0, .int x1] μ Q) ∧ True
  | 0 => by
    refine ⟨?_, trivial⟩
    · intro b0 x0 x1 μ r Q h kb hQ
      rw [f_0_votes_G] at h
      cases h
  | n + 1 => by
    obtain ⟨i0, -⟩ := ok_0_votes_G (l := l) (E := E) (d := d) n
    refine ⟨?_, trivial⟩
    · intro b0 x0 x1 μ r Q h kb hQ
      simp only [f_0_votes_G, if_pos] at h
      have hh := ok_0_votes_b (l := l) (E := E) (d := d) (nf := n) (rc := f_0_votes_G n) (fun h k q => i0 h k q) h kb hQ
      rw [show d + (n + 1) + 18 = d + n + 18 + 1 by omega]
      exact hh
theorem ok_0_votes_G_0 {l : Launch} {E : ce} {d : Nat} (n : Nat) {b0 : Nat} {x0 : Int32} {x1 : Int32} {μ : mm} {r : Int32 × mm} {Q : Option Value → mm → Prop} (h : f_0_votes_G n 0 b0 x0 x1 μ = some r) (kb : kd b0 = 0) (hQ : Q (some (.int r.1)) r.2) : Ct l E (d + n + 18) yX0_votes m_0_votes [.ref b0, .int x0, .int x1] μ Q := (ok_0_votes_G (l := l) (E := E) (d := d) n).1 h kb hQ
/-! LongStrike$Deals.run(II)I -/
def tab_0_run : List (Nat × Instr × Nat) := [(0, .aload_n 0, 1), (1, .iconst 0, 1), (2, .putfield 31, 3), (5, .iload_n 1, 1), (6, .tableswitch 65 0 2 #[26, 39, 52], 26), (32, .aload_n 0, 1), (33, .aload_n 0, 1), (34, .getfield 19, 3), (37, .iload_n 2, 1), (38, .invokevirtual 39, 3), (41, .istore_n 3, 1), (42, .goto 39, 3), (45, .aload_n 0, 1), (46, .aload_n 0, 1), (47, .getfield 19, 3), (50, .iload_n 2, 1), (51, .invokevirtual 43, 3), (54, .istore_n 3, 1), (55, .goto 26, 3), (58, .aload_n 0, 1), (59, .aload_n 0, 1), (60, .getfield 19, 3), (63, .iload_n 2, 1), (64, .invokevirtual 46, 3), (67, .istore_n 3, 1), (68, .goto 13, 3), (71, .aload_n 0, 1), (72, .aload_n 0, 1), (73, .getfield 19, 3), (76, .iload_n 2, 1), (77, .invokevirtual 49, 3), (80, .istore_n 3, 1), (81, .aload_n 0, 1), (82, .getfield 31, 3), (85, .ifCond .eq 8, 3), (88, .bipush (-15), 2), (90, .goto 4, 3), (93, .iload_n 3, 1), (94, .ireturn, 1)]
set_option maxRecDepth 100000 in
theorem dt_0_run : ∀ q ∈ tab_0_run, decode m_0_run.2.1 q.1 = .ok q.2 := by decide +kernel
def f_0_run (a0 : Nat) (a1 : Int32) (a2 : Int32) (μ : mm) : Option (Int32 × mm) :=
  (pf μ a0 6 0).bind fun μ1 =>
  (if a1 = 0 then
      (f_0_eats_G 9 0 a0 (μ1 a0 2) a2 μ1).bind fun z4 =>
      some (z4.1, z4.2)
    else if a1 = 1 then
      (f_0_owes_G 9 0 a0 (μ1 a0 2) a2 μ1).bind fun z6 =>
      some (z6.1, z6.2)
    else if a1 = 2 then
      (f_0_votes_G 9 0 a0 (μ1 a0 2) a2 μ1).bind fun z8 =>
      some (z8.1, z8.2)
    else 
      (f_0_parts_G 9 0 a0 (μ1 a0 2) a2 μ1).bind fun z10 =>
      some (z10.1, z10.2)).bind fun (z11 : Int32 × mm) =>
  if (z11.2 a0 6) = 0 then
    some (z11.1, z11.2)
  else
    some ((-15), z11.2)
set_option maxRecDepth 100000 in
set_option maxHeartbeats 4000000 in
theorem ok_0_run {l : Launch} {E : ce} {d : Nat}  {a0 : Nat} {a1 : Int32} {a2 : Int32} {μ : mm} {r : Int32 × mm} {Q : Option Value → mm → Prop} (h : f_0_run a0 a1 a2 μ = some r) (k0 : kd a0 = 0) (hQ : Q (some (.int r.1)) r.2) : Ct l E (d + 28) yX0_run m_0_run [.ref a0, .int a1, .int a2] μ Q := by
  refine Ct_of (lv := [some (.ref a0), some (.int a1), some (.int a2), none]) (by decide) rfl (Nat.le_of_ble_eq_true rfl) rfl ?_
  unfold f_0_run at h
  refine R_aload_n (dd dt_0_run 0 rfl) 0 rfl rfl ?_
  refine R_iconst (v := 0) (dd dt_0_run 1 rfl) ic_0 ?_
  obtain ⟨μ1, e2, h⟩ := bi_el h
  refine p_0_31 rfl k0 (by decide) (dd dt_0_run 2 rfl) e2 ?_
  refine R_iload_n (dd dt_0_run 3 rfl) 1 rfl rfl ?_
  obtain ⟨z11, hz11, h⟩ := bi_el h
  have K11 : Rj l E (d + 28) m_0_run 81 [some (.ref a0), none, none, some (.int z11.1)] [] z11.2 Q := by
    clear hz11
    refine R_aload_n (dd dt_0_run 32 rfl) 0 rfl rfl ?_
    refine g_0_31 rfl k0 (dd dt_0_run 33 rfl) ?_
    refine R_ifeq (dd dt_0_run 34 rfl) (tgt := 93) rfl (fun hc => ?_) (fun hc => ?_)
    · rw [if_pos hc] at h
      refine R_iload_n (dd dt_0_run 37 rfl) 3 rfl rfl ?_
      obtain rfl := Option.some.inj h
      exact R_iret rfl (dd dt_0_run 38 rfl) hQ
    · rw [if_neg hc] at h
      refine R_bipush (v := (-15)) (dd dt_0_run 35 rfl) bp_m15 ?_
      refine R_goto (dd dt_0_run 36 rfl) (tgt := 94) rfl ?_
      obtain rfl := Option.some.inj h
      exact R_iret rfl (dd dt_0_run 38 rfl) hQ
  clear h
  have h := hz11
  clear hz11
  by_cases hs0 : a1 = 0
  · refine R_tabIn (off := 26) (tgt := 32) (dd dt_0_run 4 rfl) (by rw [hs0]; decide) (by rw [hs0]; decide) (by rw [hs0]; rfl) rfl ?_
    rw [if_pos hs0] at h
    refine R_aload_n (dd dt_0_run 5 rfl) 0 rfl rfl ?_
    refine R_aload_n (dd dt_0_run 6 rfl) 0 rfl rfl ?_
    refine g_0_19 rfl k0 (dd dt_0_run 7 rfl) ?_
    refine R_iload_n (dd dt_0_run 8 rfl) 2 rfl rfl ?_
    obtain ⟨z4, e3, h⟩ := bi_el h
    refine c_0_39 (As := [.int (μ1 a0 2), .int a2]) (st1 := [.int z4.1]) rfl (fun Q1 hq => ok_0_eats_G_0 _ e3 k0 hq) k0 rfl rfl (Nat.le_of_ble_eq_true rfl) (dd dt_0_run 9 rfl) rfl ?_
    refine R_istore_n (lv' := [some (.ref a0), some (.int a1), some (.int a2), some (.int z4.1)]) (dd dt_0_run 10 rfl) 3 rfl (by decide) rfl rfl ?_
    refine R_goto (dd dt_0_run 11 rfl) (tgt := 81) rfl ?_
    obtain rfl := Option.some.inj h
    exact R_mask [true, false, false, true] rfl K11
  rw [if_neg hs0] at h
  by_cases hs1 : a1 = 1
  · refine R_tabIn (off := 39) (tgt := 45) (dd dt_0_run 4 rfl) (by rw [hs1]; decide) (by rw [hs1]; decide) (by rw [hs1]; rfl) rfl ?_
    rw [if_pos hs1] at h
    refine R_aload_n (dd dt_0_run 12 rfl) 0 rfl rfl ?_
    refine R_aload_n (dd dt_0_run 13 rfl) 0 rfl rfl ?_
    refine g_0_19 rfl k0 (dd dt_0_run 14 rfl) ?_
    refine R_iload_n (dd dt_0_run 15 rfl) 2 rfl rfl ?_
    obtain ⟨z6, e5, h⟩ := bi_el h
    refine c_0_43 (As := [.int (μ1 a0 2), .int a2]) (st1 := [.int z6.1]) rfl (fun Q1 hq => ok_0_owes_G_0 _ e5 k0 hq) k0 rfl rfl (Nat.le_of_ble_eq_true rfl) (dd dt_0_run 16 rfl) rfl ?_
    refine R_istore_n (lv' := [some (.ref a0), some (.int a1), some (.int a2), some (.int z6.1)]) (dd dt_0_run 17 rfl) 3 rfl (by decide) rfl rfl ?_
    refine R_goto (dd dt_0_run 18 rfl) (tgt := 81) rfl ?_
    obtain rfl := Option.some.inj h
    exact R_mask [true, false, false, true] rfl K11
  rw [if_neg hs1] at h
  by_cases hs2 : a1 = 2
  · refine R_tabIn (off := 52) (tgt := 58) (dd dt_0_run 4 rfl) (by rw [hs2]; decide) (by rw [hs2]; decide) (by rw [hs2]; rfl) rfl ?_
    rw [if_pos hs2] at h
    refine R_aload_n (dd dt_0_run 19 rfl) 0 rfl rfl ?_
    refine R_aload_n (dd dt_0_run 20 rfl) 0 rfl rfl ?_
    refine g_0_19 rfl k0 (dd dt_0_run 21 rfl) ?_
    refine R_iload_n (dd dt_0_run 22 rfl) 2 rfl rfl ?_
    obtain ⟨z8, e7, h⟩ := bi_el h
    refine c_0_46 (As := [.int (μ1 a0 2), .int a2]) (st1 := [.int z8.1]) rfl (fun Q1 hq => ok_0_votes_G_0 _ e7 k0 hq) k0 rfl rfl (Nat.le_of_ble_eq_true rfl) (dd dt_0_run 23 rfl) rfl ?_
    refine R_istore_n (lv' := [some (.ref a0), some (.int a1), some (.int a2), some (.int z8.1)]) (dd dt_0_run 24 rfl) 3 rfl (by decide) rfl rfl ?_
    refine R_goto (dd dt_0_run 25 rfl) (tgt := 81) rfl ?_
    obtain rfl := Option.some.inj h
    exact R_mask [true, false, false, true] rfl K11
  rw [if_neg hs2] at h
  refine R_tabOut (tgt := 71) (dd dt_0_run 4 rfl) (by have hn0 := lv_neT hs0 (a := 0) (by decide); have hn1 := lv_neT hs1 (a := 1) (by decide); have hn2 := lv_neT hs2 (a := 2) (by decide); omega) rfl ?_
  refine R_aload_n (dd dt_0_run 26 rfl) 0 rfl rfl ?_
  refine R_aload_n (dd dt_0_run 27 rfl) 0 rfl rfl ?_
  refine g_0_19 rfl k0 (dd dt_0_run 28 rfl) ?_
  refine R_iload_n (dd dt_0_run 29 rfl) 2 rfl rfl ?_
  obtain ⟨z10, e9, h⟩ := bi_el h
  refine c_0_49 (As := [.int (μ1 a0 2), .int a2]) (st1 := [.int z10.1]) rfl (fun Q1 hq => ok_0_parts_G_0 _ e9 k0 hq) k0 rfl rfl (Nat.le_of_ble_eq_true rfl) (dd dt_0_run 30 rfl) rfl ?_
  refine R_istore_n (lv' := [some (.ref a0), some (.int a1), some (.int a2), some (.int z10.1)]) (dd dt_0_run 31 rfl) 3 rfl (by decide) rfl rfl ?_
  obtain rfl := Option.some.inj h
  exact R_mask [true, false, false, true] rfl K11
/-! LongStrike.deal(III)I -/
def tab_11_deal : List (Nat × Instr × Nat) := [(0, .aload_n 0, 1), (1, .getfield 36, 3), (4, .invokevirtual 501, 3), (7, .iload_n 1, 1), (8, .invokestatic 482, 3), (11, .ifCond .eq 12, 3), (14, .iload_n 2, 1), (15, .iconst 0, 1), (16, .iconst 3, 1), (17, .invokestatic 83, 3), (20, .ifCond .ne 5, 3), (23, .iconst 0, 1), (24, .ireturn, 1), (25, .aload_n 0, 1), (26, .iload_n 1, 1), (27, .invokevirtual 492, 3), (30, .ifCond .ne 13, 3), (33, .aload_n 0, 1), (34, .getfield 68, 3), (37, .iload_n 1, 1), (38, .iaload, 1), (39, .iconst 3, 1), (40, .if_icmp .ne 5, 3), (43, .iconst 0, 1), (44, .ireturn, 1), (45, .aload_n 0, 1), (46, .getfield 71, 3), (49, .iload_n 1, 1), (50, .iaload, 1), (51, .istore 4, 2), (53, .aload_n 0, 1), (54, .getfield 68, 3), (57, .iload_n 1, 1), (58, .iaload, 1), (59, .lookupswitch 111 #[(0, 25), (1, 68)], 25), (84, .aload_n 0, 1), (85, .getfield 36, 3), (88, .aload_n 0, 1), (89, .iload_n 1, 1), (90, .invokevirtual 495, 3), (93, .iload 4, 2), (95, .aload_n 0, 1), (96, .getfield 10, 3), (99, .getfield 135, 3), (102, .iload 4, 2), (104, .aaload, 1), (105, .getfield 148, 3), (108, .aload_n 0, 1), (109, .getfield 10, 3), (112, .getfield 135, 3), (115, .iload 4, 2), (117, .aaload, 1), (118, .getfield 154, 3), (121, .invokevirtual 504, 3), (124, .goto 86, 3), (127, .aload_n 0, 1), (128, .getfield 36, 3), (131, .aload_n 0, 1), (132, .iload_n 1, 1), (133, .invokevirtual 495, 3), (136, .iload 4, 2), (138, .aload_n 0, 1), (139, .getfield 10, 3), (142, .getfield 119, 3), (145, .iload 4, 2), (147, .aaload, 1), (148, .getfield 227, 3), (151, .aload_n 0, 1), (152, .getfield 10, 3), (155, .getfield 119, 3), (158, .iload 4, 2), (160, .aaload, 1), (161, .getfield 228, 3), (164, .invokevirtual 504, 3), (167, .goto 43, 3), (170, .aload_n 0, 1), (171, .getfield 36, 3), (174, .aload_n 0, 1), (175, .iload_n 1, 1), (176, .invokevirtual 495, 3), (179, .iload 4, 2), (181, .aload_n 0, 1), (182, .getfield 10, 3), (185, .getfield 106, 3), (188, .iload 4, 2), (190, .aaload, 1), (191, .getfield 202, 3), (194, .aload_n 0, 1), (195, .getfield 10, 3), (198, .getfield 106, 3), (201, .iload 4, 2), (203, .aaload, 1), (204, .getfield 507, 3), (207, .invokevirtual 504, 3), (210, .aload_n 0, 1), (211, .getfield 36, 3), (214, .iload_n 2, 1), (215, .iload_n 3, 1), (216, .invokevirtual 510, 3), (219, .ireturn, 1)]
set_option maxRecDepth 100000 in
theorem dt_11_deal : ∀ q ∈ tab_11_deal, decode m_11_deal.2.1 q.1 = .ok q.2 := by decide +kernel
def f_11_deal (a0 : Nat) (a1 : Int32) (a2 : Int32) (a3 : Int32) (μ : mm) : Option (Int32 × mm) :=
  (f_0_forget (rf a0 5) μ).bind fun μ2 =>
  (f_11_isShelf a1 μ2).bind fun x4 =>
  if x4 = 0 then
    some (0, μ2)
  else
    (f_11_isIn a2 0 3 μ2).bind fun x6 =>
    if x6 = 0 then
      some (0, μ2)
    else
      (f_11_isBare a0 a1 μ2).bind fun x8 =>
      if x8 = 0 then
        (ld μ2 (rf a0 14) a1).bind fun x9 =>
        if x9 = 3 then
          some (0, μ2)
        else
          (ld μ2 (rf a0 15) a1).bind fun x11 =>
          (ld μ2 (rf a0 14) a1).bind fun x13 =>
          (if x13 = 0 then
              (f_11_kindOn a0 a1 μ2).bind fun x16 =>
              (lda (rf (rf a0 0) 10) x11).bind fun r17 =>
              (lda (rf (rf a0 0) 10) x11).bind fun r19 =>
              (f_0_meet (rf a0 5) x16 x11 (μ2 r17 0) (μ2 r19 2) μ2).bind fun μ22 =>
              some μ22
            else if x13 = 1 then
              (f_11_kindOn a0 a1 μ2).bind fun x24 =>
              (lda (rf (rf a0 0) 9) x11).bind fun r25 =>
              (lda (rf (rf a0 0) 9) x11).bind fun r27 =>
              (f_0_meet (rf a0 5) x24 x11 (μ2 r25 0) (μ2 r27 1) μ2).bind fun μ30 =>
              some μ30
            else 
              (f_11_kindOn a0 a1 μ2).bind fun x32 =>
              (lda (rf (rf a0 0) 8) x11).bind fun r33 =>
              (lda (rf (rf a0 0) 8) x11).bind fun r35 =>
              (f_0_meet (rf a0 5) x32 x11 (μ2 r33 0) (μ2 r35 3) μ2).bind fun μ38 =>
              some μ38).bind fun (z39 : mm) =>
          (f_0_run (rf a0 5) a2 a3 z39).bind fun z41 =>
          some (z41.1, z41.2)
      else
        some (0, μ2)
set_option maxRecDepth 100000 in
set_option maxHeartbeats 4000000 in
theorem ok_11_deal {l : Launch} {E : ce} {d : Nat}  {a0 : Nat} {a1 : Int32} {a2 : Int32} {a3 : Int32} {μ : mm} {r : Int32 × mm} {Q : Option Value → mm → Prop} (h : f_11_deal a0 a1 a2 a3 μ = some r) (k0 : kd a0 = 11) (hQ : Q (some (.int r.1)) r.2) : Ct l E (d + 29) yX11_deal m_11_deal [.ref a0, .int a1, .int a2, .int a3] μ Q := by
  refine Ct_of (lv := [some (.ref a0), some (.int a1), some (.int a2), some (.int a3), none]) (by decide) rfl (Nat.le_of_ble_eq_true rfl) rfl ?_
  unfold f_11_deal at h
  refine R_aload_n (dd dt_11_deal 0 rfl) 0 rfl rfl ?_
  refine g_11_36 rfl k0 (dd dt_11_deal 1 rfl) ?_
  obtain ⟨μ2, e1, h⟩ := bi_el h
  refine c_11_501 (As := []) (st1 := []) rfl (fun Q1 hq => ok_0_forget e1 (ty_11_5 k0) hq) (ty_11_5 k0) rfl rfl (Nat.le_of_ble_eq_true rfl) (dd dt_11_deal 2 rfl) rfl ?_
  refine R_iload_n (dd dt_11_deal 3 rfl) 1 rfl rfl ?_
  obtain ⟨x4, e3, h⟩ := bi_el h
  refine c_11_482 (As := [.int a1]) (st1 := [.int x4]) rfl (fun Q1 hq => ok_11_isShelf e3 hq) rfl rfl (Nat.le_of_ble_eq_true rfl) (dd dt_11_deal 4 rfl) rfl ?_
  refine R_ifeq (dd dt_11_deal 5 rfl) (tgt := 23) rfl (fun hc => ?_) (fun hc => ?_)
  · rw [if_pos hc] at h
    refine R_iconst (v := 0) (dd dt_11_deal 11 rfl) ic_0 ?_
    obtain rfl := Option.some.inj h
    exact R_iret rfl (dd dt_11_deal 12 rfl) hQ
  · rw [if_neg hc] at h
    refine R_iload_n (dd dt_11_deal 6 rfl) 2 rfl rfl ?_
    refine R_iconst (v := 0) (dd dt_11_deal 7 rfl) ic_0 ?_
    refine R_iconst (v := 3) (dd dt_11_deal 8 rfl) ic_3 ?_
    obtain ⟨x6, e5, h⟩ := bi_el h
    refine c_11_83 (As := [.int a2, .int 0, .int 3]) (st1 := [.int x6]) rfl (fun Q1 hq => ok_11_isIn e5 hq) rfl rfl (Nat.le_of_ble_eq_true rfl) (dd dt_11_deal 9 rfl) rfl ?_
    refine R_ifne (dd dt_11_deal 10 rfl) (tgt := 25) rfl (fun hc => ?_) (fun hc => ?_)
    · rw [if_neg hc] at h
      refine R_aload_n (dd dt_11_deal 13 rfl) 0 rfl rfl ?_
      refine R_iload_n (dd dt_11_deal 14 rfl) 1 rfl rfl ?_
      obtain ⟨x8, e7, h⟩ := bi_el h
      refine c_11_492 (As := [.int a1]) (st1 := [.int x8]) rfl (fun Q1 hq => ok_11_isBare e7 k0 hq) k0 rfl rfl (Nat.le_of_ble_eq_true rfl) (dd dt_11_deal 15 rfl) rfl ?_
      refine R_ifne (dd dt_11_deal 16 rfl) (tgt := 43) rfl (fun hc => ?_) (fun hc => ?_)
      · rw [if_neg hc] at h
        refine R_iconst (v := 0) (dd dt_11_deal 23 rfl) ic_0 ?_
        obtain rfl := Option.some.inj h
        exact R_iret rfl (dd dt_11_deal 24 rfl) hQ
      · rw [if_pos hc] at h
        refine R_aload_n (dd dt_11_deal 17 rfl) 0 rfl rfl ?_
        refine g_11_68 rfl k0 (dd dt_11_deal 18 rfl) ?_
        refine R_iload_n (dd dt_11_deal 19 rfl) 1 rfl rfl ?_
        obtain ⟨x9, e10, h⟩ := bi_el h
        refine R_ild e10 (ty_11_14 k0) (dd dt_11_deal 20 rfl) ?_
        refine R_iconst (v := 3) (dd dt_11_deal 21 rfl) ic_3 ?_
        refine R_cmpne (dd dt_11_deal 22 rfl) (tgt := 45) rfl (fun hc => ?_) (fun hc => ?_)
        · rw [if_neg hc] at h
          refine R_aload_n (dd dt_11_deal 25 rfl) 0 rfl rfl ?_
          refine g_11_71 rfl k0 (dd dt_11_deal 26 rfl) ?_
          refine R_iload_n (dd dt_11_deal 27 rfl) 1 rfl rfl ?_
          obtain ⟨x11, e12, h⟩ := bi_el h
          refine R_ild e12 (ty_11_15 k0) (dd dt_11_deal 28 rfl) ?_
          refine R_istore (lv' := [some (.ref a0), some (.int a1), some (.int a2), some (.int a3), some (.int x11)]) (dd dt_11_deal 29 rfl) (by decide) rfl rfl ?_
          refine R_aload_n (dd dt_11_deal 30 rfl) 0 rfl rfl ?_
          refine g_11_68 rfl k0 (dd dt_11_deal 31 rfl) ?_
          refine R_iload_n (dd dt_11_deal 32 rfl) 1 rfl rfl ?_
          obtain ⟨x13, e14, h⟩ := bi_el h
          refine R_ild e14 (ty_11_14 k0) (dd dt_11_deal 33 rfl) ?_
          obtain ⟨z39, hz39, h⟩ := bi_el h
          have K39 : Rj l E (d + 29) m_11_deal 210 [some (.ref a0), none, some (.int a2), some (.int a3), none] [] z39 Q := by
            clear hz39
            refine R_aload_n (dd dt_11_deal 94 rfl) 0 rfl rfl ?_
            refine g_11_36 rfl k0 (dd dt_11_deal 95 rfl) ?_
            refine R_iload_n (dd dt_11_deal 96 rfl) 2 rfl rfl ?_
            refine R_iload_n (dd dt_11_deal 97 rfl) 3 rfl rfl ?_
            obtain ⟨z41, e40, h⟩ := bi_el h
            refine c_11_510 (As := [.int a2, .int a3]) (st1 := [.int z41.1]) rfl (fun Q1 hq => ok_0_run e40 (ty_11_5 k0) hq) (ty_11_5 k0) rfl rfl (Nat.le_of_ble_eq_true rfl) (dd dt_11_deal 98 rfl) rfl ?_
            obtain rfl := Option.some.inj h
            exact R_iret rfl (dd dt_11_deal 99 rfl) hQ
          clear h
          have h := hz39
          clear hz39
          by_cases hs0 : x13 = 0
          · refine R_lookup (off := 25) (tgt := 84) (dd dt_11_deal 34 rfl) (by decide) (by rw [hs0]; rfl) rfl ?_
            rw [if_pos hs0] at h
            refine R_aload_n (dd dt_11_deal 35 rfl) 0 rfl rfl ?_
            refine g_11_36 rfl k0 (dd dt_11_deal 36 rfl) ?_
            refine R_aload_n (dd dt_11_deal 37 rfl) 0 rfl rfl ?_
            refine R_iload_n (dd dt_11_deal 38 rfl) 1 rfl rfl ?_
            obtain ⟨x16, e15, h⟩ := bi_el h
            refine c_11_495 (As := [.int a1]) (st1 := [.int x16, .ref (rf a0 5)]) rfl (fun Q1 hq => ok_11_kindOn e15 k0 hq) k0 rfl rfl (Nat.le_of_ble_eq_true rfl) (dd dt_11_deal 39 rfl) rfl ?_
            refine R_iload (dd dt_11_deal 40 rfl) rfl ?_
            refine R_aload_n (dd dt_11_deal 41 rfl) 0 rfl rfl ?_
            refine g_11_10 rfl k0 (dd dt_11_deal 42 rfl) ?_
            refine g_11_135 rfl (ty_11_0 k0) (dd dt_11_deal 43 rfl) ?_
            refine R_iload (dd dt_11_deal 44 rfl) rfl ?_
            obtain ⟨r17, e18, h⟩ := bi_el h
            refine R_aald (t0 := 6) e18 (ty_9_10 (ty_11_0 k0)) (by decide) (by decide) rfl rfl (dd dt_11_deal 45 rfl) ?_
            refine g_11_148 rfl (tl_26 e18 (ty_9_10 (ty_11_0 k0))) (dd dt_11_deal 46 rfl) ?_
            refine R_aload_n (dd dt_11_deal 47 rfl) 0 rfl rfl ?_
            refine g_11_10 rfl k0 (dd dt_11_deal 48 rfl) ?_
            refine g_11_135 rfl (ty_11_0 k0) (dd dt_11_deal 49 rfl) ?_
            refine R_iload (dd dt_11_deal 50 rfl) rfl ?_
            obtain ⟨r19, e20, h⟩ := bi_el h
            refine R_aald (t0 := 6) e20 (ty_9_10 (ty_11_0 k0)) (by decide) (by decide) rfl rfl (dd dt_11_deal 51 rfl) ?_
            refine g_11_154 rfl (tl_26 e20 (ty_9_10 (ty_11_0 k0))) (dd dt_11_deal 52 rfl) ?_
            obtain ⟨μ22, e21, h⟩ := bi_el h
            refine c_11_504 (As := [.int x16, .int x11, .int (μ2 r17 0), .int (μ2 r19 2)]) (st1 := []) rfl (fun Q1 hq => ok_0_meet e21 (ty_11_5 k0) hq) (ty_11_5 k0) rfl rfl (Nat.le_of_ble_eq_true rfl) (dd dt_11_deal 53 rfl) rfl ?_
            refine R_goto (dd dt_11_deal 54 rfl) (tgt := 210) rfl ?_
            obtain rfl := Option.some.inj h
            exact R_mask [true, false, true, true, false] rfl K39
          rw [if_neg hs0] at h
          by_cases hs1 : x13 = 1
          · refine R_lookup (off := 68) (tgt := 127) (dd dt_11_deal 34 rfl) (by decide) (by rw [hs1]; rfl) rfl ?_
            rw [if_pos hs1] at h
            refine R_aload_n (dd dt_11_deal 55 rfl) 0 rfl rfl ?_
            refine g_11_36 rfl k0 (dd dt_11_deal 56 rfl) ?_
            refine R_aload_n (dd dt_11_deal 57 rfl) 0 rfl rfl ?_
            refine R_iload_n (dd dt_11_deal 58 rfl) 1 rfl rfl ?_
            obtain ⟨x24, e23, h⟩ := bi_el h
            refine c_11_495 (As := [.int a1]) (st1 := [.int x24, .ref (rf a0 5)]) rfl (fun Q1 hq => ok_11_kindOn e23 k0 hq) k0 rfl rfl (Nat.le_of_ble_eq_true rfl) (dd dt_11_deal 59 rfl) rfl ?_
            refine R_iload (dd dt_11_deal 60 rfl) rfl ?_
            refine R_aload_n (dd dt_11_deal 61 rfl) 0 rfl rfl ?_
            refine g_11_10 rfl k0 (dd dt_11_deal 62 rfl) ?_
            refine g_11_119 rfl (ty_11_0 k0) (dd dt_11_deal 63 rfl) ?_
            refine R_iload (dd dt_11_deal 64 rfl) rfl ?_
            obtain ⟨r25, e26, h⟩ := bi_el h
            refine R_aald (t0 := 5) e26 (ty_9_9 (ty_11_0 k0)) (by decide) (by decide) rfl rfl (dd dt_11_deal 65 rfl) ?_
            refine g_11_227 rfl (tl_25 e26 (ty_9_9 (ty_11_0 k0))) (dd dt_11_deal 66 rfl) ?_
            refine R_aload_n (dd dt_11_deal 67 rfl) 0 rfl rfl ?_
            refine g_11_10 rfl k0 (dd dt_11_deal 68 rfl) ?_
            refine g_11_119 rfl (ty_11_0 k0) (dd dt_11_deal 69 rfl) ?_
            refine R_iload (dd dt_11_deal 70 rfl) rfl ?_
            obtain ⟨r27, e28, h⟩ := bi_el h
            refine R_aald (t0 := 5) e28 (ty_9_9 (ty_11_0 k0)) (by decide) (by decide) rfl rfl (dd dt_11_deal 71 rfl) ?_
            refine g_11_228 rfl (tl_25 e28 (ty_9_9 (ty_11_0 k0))) (dd dt_11_deal 72 rfl) ?_
            obtain ⟨μ30, e29, h⟩ := bi_el h
            refine c_11_504 (As := [.int x24, .int x11, .int (μ2 r25 0), .int (μ2 r27 1)]) (st1 := []) rfl (fun Q1 hq => ok_0_meet e29 (ty_11_5 k0) hq) (ty_11_5 k0) rfl rfl (Nat.le_of_ble_eq_true rfl) (dd dt_11_deal 73 rfl) rfl ?_
            refine R_goto (dd dt_11_deal 74 rfl) (tgt := 210) rfl ?_
            obtain rfl := Option.some.inj h
            exact R_mask [true, false, true, true, false] rfl K39
          rw [if_neg hs1] at h
          refine R_lookup (off := 111) (tgt := 170) (dd dt_11_deal 34 rfl) (by decide) ((lv_osw hs0 (by decide)).trans ((lv_osw hs1 (by decide)).trans (rfl))) rfl ?_
          refine R_aload_n (dd dt_11_deal 75 rfl) 0 rfl rfl ?_
          refine g_11_36 rfl k0 (dd dt_11_deal 76 rfl) ?_
          refine R_aload_n (dd dt_11_deal 77 rfl) 0 rfl rfl ?_
          refine R_iload_n (dd dt_11_deal 78 rfl) 1 rfl rfl ?_
          obtain ⟨x32, e31, h⟩ := bi_el h
          refine c_11_495 (As := [.int a1]) (st1 := [.int x32, .ref (rf a0 5)]) rfl (fun Q1 hq => ok_11_kindOn e31 k0 hq) k0 rfl rfl (Nat.le_of_ble_eq_true rfl) (dd dt_11_deal 79 rfl) rfl ?_
          refine R_iload (dd dt_11_deal 80 rfl) rfl ?_
          refine R_aload_n (dd dt_11_deal 81 rfl) 0 rfl rfl ?_
          refine g_11_10 rfl k0 (dd dt_11_deal 82 rfl) ?_
          refine g_11_106 rfl (ty_11_0 k0) (dd dt_11_deal 83 rfl) ?_
          refine R_iload (dd dt_11_deal 84 rfl) rfl ?_
          obtain ⟨r33, e34, h⟩ := bi_el h
          refine R_aald (t0 := 4) e34 (ty_9_8 (ty_11_0 k0)) (by decide) (by decide) rfl rfl (dd dt_11_deal 85 rfl) ?_
          refine g_11_202 rfl (tl_24 e34 (ty_9_8 (ty_11_0 k0))) (dd dt_11_deal 86 rfl) ?_
          refine R_aload_n (dd dt_11_deal 87 rfl) 0 rfl rfl ?_
          refine g_11_10 rfl k0 (dd dt_11_deal 88 rfl) ?_
          refine g_11_106 rfl (ty_11_0 k0) (dd dt_11_deal 89 rfl) ?_
          refine R_iload (dd dt_11_deal 90 rfl) rfl ?_
          obtain ⟨r35, e36, h⟩ := bi_el h
          refine R_aald (t0 := 4) e36 (ty_9_8 (ty_11_0 k0)) (by decide) (by decide) rfl rfl (dd dt_11_deal 91 rfl) ?_
          refine g_11_507 rfl (tl_24 e36 (ty_9_8 (ty_11_0 k0))) (dd dt_11_deal 92 rfl) ?_
          obtain ⟨μ38, e37, h⟩ := bi_el h
          refine c_11_504 (As := [.int x32, .int x11, .int (μ2 r33 0), .int (μ2 r35 3)]) (st1 := []) rfl (fun Q1 hq => ok_0_meet e37 (ty_11_5 k0) hq) (ty_11_5 k0) rfl rfl (Nat.le_of_ble_eq_true rfl) (dd dt_11_deal 93 rfl) rfl ?_
          obtain rfl := Option.some.inj h
          exact R_mask [true, false, true, true, false] rfl K39
        · rw [if_pos hc] at h
          refine R_iconst (v := 0) (dd dt_11_deal 23 rfl) ic_0 ?_
          obtain rfl := Option.some.inj h
          exact R_iret rfl (dd dt_11_deal 24 rfl) hQ
    · rw [if_pos hc] at h
      refine R_iconst (v := 0) (dd dt_11_deal 11 rfl) ic_0 ?_
      obtain rfl := Option.some.inj h
      exact R_iret rfl (dd dt_11_deal 12 rfl) hQ
/-! LongStrike.trace(I)I -/
def tab_11_trace : List (Nat × Instr × Nat) := [(0, .iload_n 1, 1), (1, .iconst 0, 1), (2, .aload_n 0, 1), (3, .getfield 36, 3), (6, .getfield 513, 3), (9, .iconst 1, 1), (10, .isub, 1), (11, .invokestatic 83, 3), (14, .ifCond .eq 15, 3), (17, .aload_n 0, 1), (18, .getfield 36, 3), (21, .getfield 516, 3), (24, .iload_n 1, 1), (25, .iaload, 1), (26, .goto 5, 3), (29, .bipush (-3), 2), (31, .ireturn, 1)]
set_option maxRecDepth 100000 in
theorem dt_11_trace : ∀ q ∈ tab_11_trace, decode m_11_trace.2.1 q.1 = .ok q.2 := by decide +kernel
def f_11_trace (a0 : Nat) (a1 : Int32) (μ : mm) : Option (Int32) :=
  (f_11_isIn a1 0 ((μ (rf a0 5) 1) - 1) μ).bind fun x2 =>
  if x2 = 0 then
    some (-3)
  else
    (ld μ (rf (rf a0 5) 0) a1).bind fun x3 =>
    some x3
set_option maxRecDepth 100000 in
set_option maxHeartbeats 4000000 in
theorem ok_11_trace {l : Launch} {E : ce} {d : Nat}  {a0 : Nat} {a1 : Int32} {μ : mm} {r : Int32} {Q : Option Value → mm → Prop} (h : f_11_trace a0 a1 μ = some r) (k0 : kd a0 = 11) (hQ : Q (some (.int r)) μ) : Ct l E (d + 1) yX11_trace m_11_trace [.ref a0, .int a1] μ Q := by
  refine Ct_of (lv := [some (.ref a0), some (.int a1)]) (by decide) rfl (Nat.le_of_ble_eq_true rfl) rfl ?_
  unfold f_11_trace at h
  refine R_iload_n (dd dt_11_trace 0 rfl) 1 rfl rfl ?_
  refine R_iconst (v := 0) (dd dt_11_trace 1 rfl) ic_0 ?_
  refine R_aload_n (dd dt_11_trace 2 rfl) 0 rfl rfl ?_
  refine g_11_36 rfl k0 (dd dt_11_trace 3 rfl) ?_
  refine g_11_513 rfl (ty_11_5 k0) (dd dt_11_trace 4 rfl) ?_
  refine R_iconst (v := 1) (dd dt_11_trace 5 rfl) ic_1 ?_
  refine R_isub (dd dt_11_trace 6 rfl) ?_
  obtain ⟨x2, e1, h⟩ := bi_el h
  refine c_11_83 (As := [.int a1, .int 0, .int ((μ (rf a0 5) 1) - 1)]) (st1 := [.int x2]) rfl (fun Q1 hq => ok_11_isIn e1 hq) rfl rfl (Nat.le_of_ble_eq_true rfl) (dd dt_11_trace 7 rfl) rfl ?_
  refine R_ifeq (dd dt_11_trace 8 rfl) (tgt := 29) rfl (fun hc => ?_) (fun hc => ?_)
  · rw [if_pos hc] at h
    refine R_bipush (v := (-3)) (dd dt_11_trace 15 rfl) bp_m3 ?_
    obtain rfl := Option.some.inj h
    exact R_iret rfl (dd dt_11_trace 16 rfl) hQ
  · rw [if_neg hc] at h
    refine R_aload_n (dd dt_11_trace 9 rfl) 0 rfl rfl ?_
    refine g_11_36 rfl k0 (dd dt_11_trace 10 rfl) ?_
    refine g_11_516 rfl (ty_11_5 k0) (dd dt_11_trace 11 rfl) ?_
    refine R_iload_n (dd dt_11_trace 12 rfl) 1 rfl rfl ?_
    obtain ⟨x3, e4, h⟩ := bi_el h
    refine R_ild e4 (ty_0_0 (ty_11_5 k0)) (dd dt_11_trace 13 rfl) ?_
    refine R_goto (dd dt_11_trace 14 rfl) (tgt := 31) rfl ?_
    obtain rfl := Option.some.inj h
    exact R_iret rfl (dd dt_11_trace 16 rfl) hQ
