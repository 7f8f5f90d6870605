/-! LongStrikeModel.watch(I)I -/
def tab_12_watch : List (Nat × Instr × Nat) := [(0, .iload_n 1, 1), (1, .iconst 0, 1), (2, .iconst 1, 1), (3, .invokestatic 80, 3), (6, .ifCond .ne 24, 3), (9, .iload_n 1, 1), (10, .bipush 10, 2), (12, .if_icmp .lt 16, 3), (15, .aload_n 0, 1), (16, .iload_n 1, 1), (17, .bipush 10, 2), (19, .isub, 1), (20, .bipush 16, 2), (22, .invokevirtual 84, 3), (25, .ifCond .ne 5, 3), (28, .iconst (-1), 1), (29, .ireturn, 1), (30, .aload_n 0, 1), (31, .invokevirtual 280, 3), (34, .iconst 1, 1), (35, .aload_n 0, 1), (36, .getfield 9, 3), (39, .bipush 15, 2), (41, .iaload, 1), (42, .ishl, 1), (43, .iconst 1, 1), (44, .isub, 1), (45, .istore_n 2, 1), (46, .aload_n 0, 1), (47, .getfield 53, 3), (50, .iload_n 2, 1), (51, .iaload, 1), (52, .istore_n 3, 1), (53, .iload_n 3, 1), (54, .ldc_w 276, 3), (57, .if_icmp .lt 6, 3), (60, .bipush (-3), 2), (62, .ireturn, 1), (63, .aload_n 0, 1), (64, .iconst 0, 1), (65, .putfield 283, 3), (68, .iconst 0, 1), (69, .istore 4, 2), (71, .iload 4, 2), (73, .aload_n 0, 1), (74, .getfield 9, 3), (77, .bipush 16, 2), (79, .iaload, 1), (80, .if_icmp .ge 187, 3), (83, .aload_n 0, 1), (84, .getfield 56, 3), (87, .iload 4, 2), (89, .bipush (-9), 2), (91, .iastore, 1), (92, .aload_n 0, 1), (93, .getfield 9, 3), (96, .bipush 15, 2), (98, .iaload, 1), (99, .iconst 1, 1), (100, .isub, 1), (101, .istore 5, 2), (103, .iload 5, 2), (105, .ifCond .lt 91, 3), (108, .iload_n 2, 1), (109, .iload 5, 2), (111, .ishr, 1), (112, .iconst 1, 1), (113, .iand, 1), (114, .iconst 1, 1), (115, .if_icmp .ne 48, 3), (118, .aload_n 0, 1), (119, .iload 4, 2), (121, .iload 5, 2), (123, .invokevirtual 277, 3), (126, .aload_n 0, 1), (127, .getfield 53, 3), (130, .iload 4, 2), (132, .iconst 1, 1), (133, .iadd, 1), (134, .iconst 4, 1), (135, .ishl, 1), (136, .iload_n 2, 1), (137, .iconst 1, 1), (138, .iload 5, 2), (140, .ishl, 1), (141, .ixor, 1), (142, .iadd, 1), (143, .iaload, 1), (144, .iadd, 1), (145, .aload_n 0, 1), (146, .getfield 53, 3), (149, .iload 4, 2), (151, .iconst 4, 1), (152, .ishl, 1), (153, .iload_n 2, 1), (154, .iadd, 1), (155, .iaload, 1), (156, .if_icmp .ne 7, 3), (159, .iconst 1, 1), (160, .goto 4, 3), (163, .iconst 0, 1), (164, .istore 6, 2), (166, .aload_n 0, 1), (167, .getfield 56, 3), (170, .iload 4, 2), (172, .iload 6, 2), (174, .ifCond .eq 8, 3), (177, .iload 5, 2), (179, .goto 10, 3), (182, .aload_n 0, 1), (183, .getfield 56, 3), (186, .iload 4, 2), (188, .iaload, 1), (189, .iastore, 1), (190, .iinc 5 (-1), 3), (193, .goto (-90), 3), (196, .aload_n 0, 1), (197, .getfield 56, 3), (200, .iload 4, 2), (202, .iaload, 1), (203, .ifCond .lt 58, 3), (206, .iload_n 2, 1), (207, .iconst 1, 1), (208, .aload_n 0, 1), (209, .getfield 56, 3), (212, .iload 4, 2), (214, .iaload, 1), (215, .ishl, 1), (216, .ixor, 1), (217, .istore_n 2, 1), (218, .aload_n 0, 1), (219, .getfield 22, 3), (222, .iconst 2, 1), (223, .aload_n 0, 1), (224, .getfield 283, 3), (227, .imul, 1), (228, .iload 4, 2), (230, .iastore, 1), (231, .aload_n 0, 1), (232, .getfield 22, 3), (235, .iconst 2, 1), (236, .aload_n 0, 1), (237, .getfield 283, 3), (240, .imul, 1), (241, .iconst 1, 1), (242, .iadd, 1), (243, .aload_n 0, 1), (244, .getfield 56, 3), (247, .iload 4, 2), (249, .iaload, 1), (250, .iastore, 1), (251, .aload_n 0, 1), (252, .dup, 1), (253, .getfield 283, 3), (256, .iconst 1, 1), (257, .iadd, 1), (258, .putfield 283, 3), (261, .iinc 4 1, 3), (264, .goto (-193), 3), (267, .aload_n 0, 1), (268, .aload_n 0, 1), (269, .getfield 283, 3), (272, .putfield 28, 3), (275, .iconst 0, 1), (276, .istore 4, 2), (278, .iload 4, 2), (280, .iconst 2, 1), (281, .aload_n 0, 1), (282, .getfield 283, 3), (285, .imul, 1), (286, .if_icmp .ge 23, 3), (289, .aload_n 0, 1), (290, .getfield 25, 3), (293, .iload 4, 2), (295, .aload_n 0, 1), (296, .getfield 22, 3), (299, .iload 4, 2), (301, .iaload, 1), (302, .iastore, 1), (303, .iinc 4 1, 3), (306, .goto (-28), 3), (309, .iload_n 1, 1), (310, .ifCond .ne 10, 3), (313, .aload_n 0, 1), (314, .getfield 283, 3), (317, .goto 21, 3), (320, .iload_n 1, 1), (321, .iconst 1, 1), (322, .if_icmp .ne 7, 3), (325, .iload_n 3, 1), (326, .goto 12, 3), (329, .aload_n 0, 1), (330, .getfield 56, 3), (333, .iload_n 1, 1), (334, .bipush 10, 2), (336, .isub, 1), (337, .iaload, 1), (338, .ireturn, 1)]
set_option maxRecDepth 100000 in
theorem dt_12_watch : ∀ q ∈ tab_12_watch, decode m_12_watch.2.1 q.1 = .ok q.2 := by decide +kernel
def f_12_watch_l103 (a0 : Nat) (a1 : Int32) (a2 : Int32) (a3 : Int32) (a4 : Int32) : Nat → Int32 → mm → Option (mm)
  | 0, _, _ => none
  | n + 1, v5, μ => if v5 < 0 then
      some μ
    else
      (if ((a2 >>> (v5 &&& 31)) &&& 1) = 1 then
          (f_12_walk a0 a4 v5 μ).bind fun x2 =>
          (ld μ (rf a0 24) (((a4 + 1) <<< (4 &&& 31)) + (a2 ^^^ (1 <<< (v5 &&& 31))))).bind fun x3 =>
          (ld μ (rf a0 24) ((a4 <<< (4 &&& 31)) + a2)).bind fun x5 =>
          if (x2 + x3) = x5 then
            some 1
          else
            some 0
        else
          some 0).bind fun (z7 : Int32) =>
      (if z7 = 0 then
          (ld μ (rf a0 25) a4).bind fun x8 =>
          some x8
        else
          some v5).bind fun (z10 : Int32) =>
      (sto μ (rf a0 25) a4 z10).bind fun μ11 =>
      f_12_watch_l103 a0 a1 a2 a3 a4 n (v5 + (-1)) μ11
set_option maxRecDepth 100000 in
theorem ok_12_watch_l103 {l : Launch} {E : ce} {d : Nat} {Q : Option Value → mm → Prop} (a0 : Nat) (a1 : Int32) (a2 : Int32) (a3 : Int32) (a4 : Int32) (k0 : kd a0 = 12) : ∀ (n : Nat) (v5 : Int32) (μ : mm) (z : mm), f_12_watch_l103 a0 a1 a2 a3 a4 n v5 μ = some z → Rj l E (d + 3) m_12_watch 196 [some (.ref a0), some (.int a1), some (.int a2), some (.int a3), some (.int a4), none, none] [] z Q → Rj l E (d + 3) m_12_watch 103 [some (.ref a0), some (.int a1), some (.int a2), some (.int a3), some (.int a4), some (.int v5), none] [] μ Q
  | 0, _, _, z, h, _ => by
    rw [f_12_watch_l103] at h
    cases h
  | n + 1, v5, μ, z, h, KX => by
    rw [f_12_watch_l103] at h
    refine R_iload (dd dt_12_watch 61 rfl) rfl ?_
    refine R_iflt (dd dt_12_watch 62 rfl) (tgt := 196) rfl (fun hc => ?_) (fun hc => ?_)
    · rw [if_pos hc] at h
      obtain rfl := Option.some.inj h
      exact R_mask [true, true, true, true, true, false, false] rfl KX
    · rw [if_neg hc] at h
      refine R_iload_n (dd dt_12_watch 63 rfl) 2 rfl rfl ?_
      refine R_iload (dd dt_12_watch 64 rfl) rfl ?_
      refine R_ishr (dd dt_12_watch 65 rfl) ?_
      refine R_iconst (v := 1) (dd dt_12_watch 66 rfl) ic_1 ?_
      refine R_iand (dd dt_12_watch 67 rfl) ?_
      refine R_iconst (v := 1) (dd dt_12_watch 68 rfl) ic_1 ?_
      obtain ⟨z7, hz7, h⟩ := bi_el h
      have K7 : Rj l E (d + 3) m_12_watch 164 [some (.ref a0), some (.int a1), some (.int a2), some (.int a3), some (.int a4), some (.int v5), none] [.int z7] μ Q := by
        clear hz7
        refine R_istore (lv' := [some (.ref a0), some (.int a1), some (.int a2), some (.int a3), some (.int a4), some (.int v5), some (.int z7)]) (dd dt_12_watch 101 rfl) (by decide) rfl rfl ?_
        refine R_aload_n (dd dt_12_watch 102 rfl) 0 rfl rfl ?_
        refine g_12_56 rfl k0 (dd dt_12_watch 103 rfl) ?_
        refine R_iload (dd dt_12_watch 104 rfl) rfl ?_
        refine R_iload (dd dt_12_watch 105 rfl) rfl ?_
        obtain ⟨z10, hz10, h⟩ := bi_el h
        have K10 : Rj l E (d + 3) m_12_watch 189 [some (.ref a0), some (.int a1), some (.int a2), some (.int a3), some (.int a4), some (.int v5), none] [.int z10, .int a4, .ref (rf a0 25)] μ Q := by
          clear hz10
          obtain ⟨μ11, e12, h⟩ := bi_el h
          refine R_isto e12 (ty_12_25 k0) (dd dt_12_watch 113 rfl) ?_
          refine R_iinc (v := (-1)) (lv' := [some (.ref a0), some (.int a1), some (.int a2), some (.int a3), some (.int a4), some (.int (v5 + (-1))), none]) (dd dt_12_watch 114 rfl) (by decide) rfl rfl ic_m1 rfl ?_
          refine R_goto (dd dt_12_watch 115 rfl) (tgt := 103) rfl ?_
          exact R_mask [true, true, true, true, true, true, false] rfl (ok_12_watch_l103 a0 a1 a2 a3 a4 k0 n (v5 + (-1)) μ11 _ h KX)
        clear h
        have h := hz10
        clear hz10
        refine R_ifeq (dd dt_12_watch 106 rfl) (tgt := 182) rfl (fun hc => ?_) (fun hc => ?_)
        · rw [if_pos hc] at h
          refine R_aload_n (dd dt_12_watch 109 rfl) 0 rfl rfl ?_
          refine g_12_56 rfl k0 (dd dt_12_watch 110 rfl) ?_
          refine R_iload (dd dt_12_watch 111 rfl) rfl ?_
          obtain ⟨x8, e9, h⟩ := bi_el h
          refine R_ild e9 (ty_12_25 k0) (dd dt_12_watch 112 rfl) ?_
          obtain rfl := Option.some.inj h
          exact R_mask [true, true, true, true, true, true, false] rfl K10
        · rw [if_neg hc] at h
          refine R_iload (dd dt_12_watch 107 rfl) rfl ?_
          refine R_goto (dd dt_12_watch 108 rfl) (tgt := 189) rfl ?_
          obtain rfl := Option.some.inj h
          exact R_mask [true, true, true, true, true, true, false] rfl K10
      clear h
      have h := hz7
      clear hz7
      refine R_cmpne (dd dt_12_watch 69 rfl) (tgt := 163) rfl (fun hc => ?_) (fun hc => ?_)
      · rw [if_neg hc] at h
        refine R_iconst (v := 0) (dd dt_12_watch 100 rfl) ic_0 ?_
        obtain rfl := Option.some.inj h
        exact R_mask [true, true, true, true, true, true, false] rfl K7
      · rw [if_pos hc] at h
        refine R_aload_n (dd dt_12_watch 70 rfl) 0 rfl rfl ?_
        refine R_iload (dd dt_12_watch 71 rfl) rfl ?_
        refine R_iload (dd dt_12_watch 72 rfl) rfl ?_
        obtain ⟨x2, e1, h⟩ := bi_el h
        refine c_12_277 (As := [.int a4, .int v5]) (st1 := [.int x2]) rfl (fun Q1 hq => ok_12_walk e1 k0 hq) k0 rfl rfl (Nat.le_of_ble_eq_true rfl) (dd dt_12_watch 73 rfl) rfl ?_
        refine R_aload_n (dd dt_12_watch 74 rfl) 0 rfl rfl ?_
        refine g_12_53 rfl k0 (dd dt_12_watch 75 rfl) ?_
        refine R_iload (dd dt_12_watch 76 rfl) rfl ?_
        refine R_iconst (v := 1) (dd dt_12_watch 77 rfl) ic_1 ?_
        refine R_iadd (dd dt_12_watch 78 rfl) ?_
        refine R_iconst (v := 4) (dd dt_12_watch 79 rfl) ic_4 ?_
        refine R_ishl (dd dt_12_watch 80 rfl) ?_
        refine R_iload_n (dd dt_12_watch 81 rfl) 2 rfl rfl ?_
        refine R_iconst (v := 1) (dd dt_12_watch 82 rfl) ic_1 ?_
        refine R_iload (dd dt_12_watch 83 rfl) rfl ?_
        refine R_ishl (dd dt_12_watch 84 rfl) ?_
        refine R_ixor (dd dt_12_watch 85 rfl) ?_
        refine R_iadd (dd dt_12_watch 86 rfl) ?_
        obtain ⟨x3, e4, h⟩ := bi_el h
        refine R_ild e4 (ty_12_24 k0) (dd dt_12_watch 87 rfl) ?_
        refine R_iadd (dd dt_12_watch 88 rfl) ?_
        refine R_aload_n (dd dt_12_watch 89 rfl) 0 rfl rfl ?_
        refine g_12_53 rfl k0 (dd dt_12_watch 90 rfl) ?_
        refine R_iload (dd dt_12_watch 91 rfl) rfl ?_
        refine R_iconst (v := 4) (dd dt_12_watch 92 rfl) ic_4 ?_
        refine R_ishl (dd dt_12_watch 93 rfl) ?_
        refine R_iload_n (dd dt_12_watch 94 rfl) 2 rfl rfl ?_
        refine R_iadd (dd dt_12_watch 95 rfl) ?_
        obtain ⟨x5, e6, h⟩ := bi_el h
        refine R_ild e6 (ty_12_24 k0) (dd dt_12_watch 96 rfl) ?_
        refine R_cmpne (dd dt_12_watch 97 rfl) (tgt := 163) rfl (fun hc => ?_) (fun hc => ?_)
        · rw [if_neg hc] at h
          refine R_iconst (v := 0) (dd dt_12_watch 100 rfl) ic_0 ?_
          obtain rfl := Option.some.inj h
          exact R_mask [true, true, true, true, true, true, false] rfl K7
        · rw [if_pos hc] at h
          refine R_iconst (v := 1) (dd dt_12_watch 98 rfl) ic_1 ?_
          refine R_goto (dd dt_12_watch 99 rfl) (tgt := 164) rfl ?_
          obtain rfl := Option.some.inj h
          exact R_mask [true, true, true, true, true, true, false] rfl K7
def f_12_watch_l71 (a0 : Nat) (a1 : Int32) (a3 : Int32) : Nat → Int32 → Int32 → mm → Option (mm)
  | 0, _, _, _ => none
  | n + 1, v2, v4, μ => (ld μ (rf a0 0) 16).bind fun x1 =>
    if x1 ≤ v4 then
      some μ
    else
      (sto μ (rf a0 25) v4 (-9)).bind fun μ3 =>
      (ld μ3 (rf a0 0) 15).bind fun x5 =>
      (f_12_watch_l103 a0 a1 v2 a3 v4 FU (x5 - 1) μ3).bind fun z7 =>
      (ld z7 (rf a0 25) v4).bind fun x9 =>
      if x9 < 0 then
        f_12_watch_l71 a0 a1 a3 n v2 (v4 + 1) z7
      else
        (ld z7 (rf a0 25) v4).bind fun x11 =>
        (sto z7 (rf a0 6) (2 * (z7 a0 8)) v4).bind fun μ13 =>
        (ld μ13 (rf a0 25) v4).bind fun x15 =>
        (sto μ13 (rf a0 6) ((2 * (μ13 a0 8)) + 1) x15).bind fun μ17 =>
        (pf μ17 a0 8 ((μ17 a0 8) + 1)).bind fun μ19 =>
        f_12_watch_l71 a0 a1 a3 n (v2 ^^^ (1 <<< (x11 &&& 31))) (v4 + 1) μ19
set_option maxRecDepth 100000 in
theorem ok_12_watch_l71 {l : Launch} {E : ce} {d : Nat} {Q : Option Value → mm → Prop} (a0 : Nat) (a1 : Int32) (a3 : Int32) (k0 : kd a0 = 12) : ∀ (n : Nat) (v2 : Int32) (v4 : Int32) (μ : mm) (z : mm), f_12_watch_l71 a0 a1 a3 n v2 v4 μ = some z → Rj l E (d + 3) m_12_watch 267 [some (.ref a0), some (.int a1), none, some (.int a3), none, none, none] [] z Q → Rj l E (d + 3) m_12_watch 71 [some (.ref a0), some (.int a1), some (.int v2), some (.int a3), some (.int v4), none, none] [] μ Q
  | 0, _, _, _, z, h, _ => by
    rw [f_12_watch_l71] at h
    cases h
  | n + 1, v2, v4, μ, z, h, KX => by
    rw [f_12_watch_l71] at h
    refine R_iload (dd dt_12_watch 43 rfl) rfl ?_
    refine R_aload_n (dd dt_12_watch 44 rfl) 0 rfl rfl ?_
    refine g_12_9 rfl k0 (dd dt_12_watch 45 rfl) ?_
    refine R_bipush (v := 16) (dd dt_12_watch 46 rfl) bp_16 ?_
    obtain ⟨x1, e2, h⟩ := bi_el h
    refine R_ild e2 (ty_12_0 k0) (dd dt_12_watch 47 rfl) ?_
    refine R_cmpge (dd dt_12_watch 48 rfl) (tgt := 267) rfl (fun hc => ?_) (fun hc => ?_)
    · rw [if_pos hc] at h
      obtain rfl := Option.some.inj h
      exact R_mask [true, true, false, true, false, false, false] rfl KX
    · rw [if_neg hc] at h
      refine R_aload_n (dd dt_12_watch 49 rfl) 0 rfl rfl ?_
      refine g_12_56 rfl k0 (dd dt_12_watch 50 rfl) ?_
      refine R_iload (dd dt_12_watch 51 rfl) rfl ?_
      refine R_bipush (v := (-9)) (dd dt_12_watch 52 rfl) bp_m9 ?_
      obtain ⟨μ3, e4, h⟩ := bi_el h
      refine R_isto e4 (ty_12_25 k0) (dd dt_12_watch 53 rfl) ?_
      refine R_aload_n (dd dt_12_watch 54 rfl) 0 rfl rfl ?_
      refine g_12_9 rfl k0 (dd dt_12_watch 55 rfl) ?_
      refine R_bipush (v := 15) (dd dt_12_watch 56 rfl) bp_15 ?_
      obtain ⟨x5, e6, h⟩ := bi_el h
      refine R_ild e6 (ty_12_0 k0) (dd dt_12_watch 57 rfl) ?_
      refine R_iconst (v := 1) (dd dt_12_watch 58 rfl) ic_1 ?_
      refine R_isub (dd dt_12_watch 59 rfl) ?_
      refine R_istore (lv' := [some (.ref a0), some (.int a1), some (.int v2), some (.int a3), some (.int v4), some (.int (x5 - 1)), none]) (dd dt_12_watch 60 rfl) (by decide) rfl rfl ?_
      obtain ⟨z7, e8, h⟩ := bi_el h
      refine R_mask [true, true, true, true, true, true, false] rfl (ok_12_watch_l103 a0 a1 v2 a3 v4 k0 FU (x5 - 1) μ3 _ e8 ?_)
      refine R_aload_n (dd dt_12_watch 116 rfl) 0 rfl rfl ?_
      refine g_12_56 rfl k0 (dd dt_12_watch 117 rfl) ?_
      refine R_iload (dd dt_12_watch 118 rfl) rfl ?_
      obtain ⟨x9, e10, h⟩ := bi_el h
      refine R_ild e10 (ty_12_25 k0) (dd dt_12_watch 119 rfl) ?_
      refine R_iflt (dd dt_12_watch 120 rfl) (tgt := 261) rfl (fun hc => ?_) (fun hc => ?_)
      · rw [if_pos hc] at h
        refine R_iinc (v := 1) (lv' := [some (.ref a0), some (.int a1), some (.int v2), some (.int a3), some (.int (v4 + 1)), none, none]) (dd dt_12_watch 157 rfl) (by decide) rfl rfl ic_1 rfl ?_
        refine R_goto (dd dt_12_watch 158 rfl) (tgt := 71) rfl ?_
        exact R_mask [true, true, true, true, true, false, false] rfl (ok_12_watch_l71 a0 a1 a3 k0 n v2 (v4 + 1) z7 _ h KX)
      · rw [if_neg hc] at h
        refine R_iload_n (dd dt_12_watch 121 rfl) 2 rfl rfl ?_
        refine R_iconst (v := 1) (dd dt_12_watch 122 rfl) ic_1 ?_
        refine R_aload_n (dd dt_12_watch 123 rfl) 0 rfl rfl ?_
        refine g_12_56 rfl k0 (dd dt_12_watch 124 rfl) ?_
        refine R_iload (dd dt_12_watch 125 rfl) rfl ?_
        obtain ⟨x11, e12, h⟩ := bi_el h
        refine R_ild e12 (ty_12_25 k0) (dd dt_12_watch 126 rfl) ?_
        refine R_ishl (dd dt_12_watch 127 rfl) ?_
        refine R_ixor (dd dt_12_watch 128 rfl) ?_
        refine R_istore_n (lv' := [some (.ref a0), some (.int a1), some (.int (v2 ^^^ (1 <<< (x11 &&& 31)))), some (.int a3), some (.int v4), none, none]) (dd dt_12_watch 129 rfl) 2 rfl (by decide) rfl rfl ?_
        refine R_aload_n (dd dt_12_watch 130 rfl) 0 rfl rfl ?_
        refine g_12_22 rfl k0 (dd dt_12_watch 131 rfl) ?_
        refine R_iconst (v := 2) (dd dt_12_watch 132 rfl) ic_2 ?_
        refine R_aload_n (dd dt_12_watch 133 rfl) 0 rfl rfl ?_
        refine g_12_283 rfl k0 (dd dt_12_watch 134 rfl) ?_
        refine R_imul (dd dt_12_watch 135 rfl) ?_
        refine R_iload (dd dt_12_watch 136 rfl) rfl ?_
        obtain ⟨μ13, e14, h⟩ := bi_el h
        refine R_isto e14 (ty_12_6 k0) (dd dt_12_watch 137 rfl) ?_
        refine R_aload_n (dd dt_12_watch 138 rfl) 0 rfl rfl ?_
        refine g_12_22 rfl k0 (dd dt_12_watch 139 rfl) ?_
        refine R_iconst (v := 2) (dd dt_12_watch 140 rfl) ic_2 ?_
        refine R_aload_n (dd dt_12_watch 141 rfl) 0 rfl rfl ?_
        refine g_12_283 rfl k0 (dd dt_12_watch 142 rfl) ?_
        refine R_imul (dd dt_12_watch 143 rfl) ?_
        refine R_iconst (v := 1) (dd dt_12_watch 144 rfl) ic_1 ?_
        refine R_iadd (dd dt_12_watch 145 rfl) ?_
        refine R_aload_n (dd dt_12_watch 146 rfl) 0 rfl rfl ?_
        refine g_12_56 rfl k0 (dd dt_12_watch 147 rfl) ?_
        refine R_iload (dd dt_12_watch 148 rfl) rfl ?_
        obtain ⟨x15, e16, h⟩ := bi_el h
        refine R_ild e16 (ty_12_25 k0) (dd dt_12_watch 149 rfl) ?_
        obtain ⟨μ17, e18, h⟩ := bi_el h
        refine R_isto e18 (ty_12_6 k0) (dd dt_12_watch 150 rfl) ?_
        refine R_aload_n (dd dt_12_watch 151 rfl) 0 rfl rfl ?_
        refine R_dup (dd dt_12_watch 152 rfl) rfl ?_
        refine g_12_283 rfl k0 (dd dt_12_watch 153 rfl) ?_
        refine R_iconst (v := 1) (dd dt_12_watch 154 rfl) ic_1 ?_
        refine R_iadd (dd dt_12_watch 155 rfl) ?_
        obtain ⟨μ19, e20, h⟩ := bi_el h
        refine p_12_283 rfl k0 (dd dt_12_watch 156 rfl) e20 ?_
        refine R_iinc (v := 1) (lv' := [some (.ref a0), some (.int a1), some (.int (v2 ^^^ (1 <<< (x11 &&& 31)))), some (.int a3), some (.int (v4 + 1)), none, none]) (dd dt_12_watch 157 rfl) (by decide) rfl rfl ic_1 rfl ?_
        refine R_goto (dd dt_12_watch 158 rfl) (tgt := 71) rfl ?_
        exact R_mask [true, true, true, true, true, false, false] rfl (ok_12_watch_l71 a0 a1 a3 k0 n (v2 ^^^ (1 <<< (x11 &&& 31))) (v4 + 1) μ19 _ h KX)
def f_12_watch_l278 (a0 : Nat) (a1 : Int32) (a3 : Int32) : Nat → Int32 → mm → Option (mm)
  | 0, _, _ => none
  | n + 1, v4, μ => if (2 * (μ a0 8)) ≤ v4 then
      some μ
    else
      (ld μ (rf a0 6) v4).bind fun x1 =>
      (sto μ (rf a0 7) v4 x1).bind fun μ3 =>
      f_12_watch_l278 a0 a1 a3 n (v4 + 1) μ3
set_option maxRecDepth 100000 in
theorem ok_12_watch_l278 {l : Launch} {E : ce} {d : Nat} {Q : Option Value → mm → Prop} (a0 : Nat) (a1 : Int32) (a3 : Int32) (k0 : kd a0 = 12) : ∀ (n : Nat) (v4 : Int32) (μ : mm) (z : mm), f_12_watch_l278 a0 a1 a3 n v4 μ = some z → Rj l E (d + 3) m_12_watch 309 [some (.ref a0), some (.int a1), none, some (.int a3), none, none, none] [] z Q → Rj l E (d + 3) m_12_watch 278 [some (.ref a0), some (.int a1), none, some (.int a3), some (.int v4), none, none] [] μ Q
  | 0, _, _, z, h, _ => by
    rw [f_12_watch_l278] at h
    cases h
  | n + 1, v4, μ, z, h, KX => by
    rw [f_12_watch_l278] at h
    refine R_iload (dd dt_12_watch 165 rfl) rfl ?_
    refine R_iconst (v := 2) (dd dt_12_watch 166 rfl) ic_2 ?_
    refine R_aload_n (dd dt_12_watch 167 rfl) 0 rfl rfl ?_
    refine g_12_283 rfl k0 (dd dt_12_watch 168 rfl) ?_
    refine R_imul (dd dt_12_watch 169 rfl) ?_
    refine R_cmpge (dd dt_12_watch 170 rfl) (tgt := 309) rfl (fun hc => ?_) (fun hc => ?_)
    · rw [if_pos hc] at h
      obtain rfl := Option.some.inj h
      exact R_mask [true, true, false, true, false, false, false] rfl KX
    · rw [if_neg hc] at h
      refine R_aload_n (dd dt_12_watch 171 rfl) 0 rfl rfl ?_
      refine g_12_25 rfl k0 (dd dt_12_watch 172 rfl) ?_
      refine R_iload (dd dt_12_watch 173 rfl) rfl ?_
      refine R_aload_n (dd dt_12_watch 174 rfl) 0 rfl rfl ?_
      refine g_12_22 rfl k0 (dd dt_12_watch 175 rfl) ?_
      refine R_iload (dd dt_12_watch 176 rfl) rfl ?_
      obtain ⟨x1, e2, h⟩ := bi_el h
      refine R_ild e2 (ty_12_6 k0) (dd dt_12_watch 177 rfl) ?_
      obtain ⟨μ3, e4, h⟩ := bi_el h
      refine R_isto e4 (ty_12_7 k0) (dd dt_12_watch 178 rfl) ?_
      refine R_iinc (v := 1) (lv' := [some (.ref a0), some (.int a1), none, some (.int a3), some (.int (v4 + 1)), none, none]) (dd dt_12_watch 179 rfl) (by decide) rfl rfl ic_1 rfl ?_
      refine R_goto (dd dt_12_watch 180 rfl) (tgt := 278) rfl ?_
      exact R_mask [true, true, false, true, true, false, false] rfl (ok_12_watch_l278 a0 a1 a3 k0 n (v4 + 1) μ3 _ h KX)
def f_12_watch_b30 (a0 : Nat) (a1 : Int32) (μ : mm) : Option (Int32 × mm) :=
  (f_12_findWatch a0 μ).bind fun μ2 =>
  (ld μ2 (rf a0 0) 15).bind fun x3 =>
  (ld μ2 (rf a0 24) ((1 <<< (x3 &&& 31)) - 1)).bind fun x5 =>
  if x5 < 100000 then
    (pf μ2 a0 8 0).bind fun μ7 =>
    (f_12_watch_l71 a0 a1 x5 FU ((1 <<< (x3 &&& 31)) - 1) 0 μ7).bind fun z9 =>
    (pf z9 a0 9 (z9 a0 8)).bind fun μ11 =>
    (f_12_watch_l278 a0 a1 x5 FU 0 μ11).bind fun z13 =>
    if a1 = 0 then
      some ((z13 a0 8), z13)
    else
      if a1 = 1 then
        some (x5, z13)
      else
        (ld z13 (rf a0 25) (a1 - 10)).bind fun x15 =>
        some (x15, z13)
  else
    some ((-3), μ2)
set_option maxRecDepth 100000 in
set_option maxHeartbeats 4000000 in
theorem ok_12_watch_b30 {l : Launch} {E : ce} {d : Nat}  {a0 : Nat} {a1 : Int32} {μ : mm} {r : Int32 × mm} {Q : Option Value → mm → Prop} (h : f_12_watch_b30 a0 a1 μ = some r) (k0 : kd a0 = 12) (hQ : Q (some (.int r.1)) r.2) : Rj l E (d + 3) m_12_watch 30 [some (.ref a0), some (.int a1), none, none, none, none, none] [] μ Q := by
  unfold f_12_watch_b30 at h
  refine R_aload_n (dd dt_12_watch 17 rfl) 0 rfl rfl ?_
  obtain ⟨μ2, e1, h⟩ := bi_el h
  refine c_12_280 (As := []) (st1 := []) rfl (fun Q1 hq => ok_12_findWatch e1 k0 hq) k0 rfl rfl (Nat.le_of_ble_eq_true rfl) (dd dt_12_watch 18 rfl) rfl ?_
  refine R_iconst (v := 1) (dd dt_12_watch 19 rfl) ic_1 ?_
  refine R_aload_n (dd dt_12_watch 20 rfl) 0 rfl rfl ?_
  refine g_12_9 rfl k0 (dd dt_12_watch 21 rfl) ?_
  refine R_bipush (v := 15) (dd dt_12_watch 22 rfl) bp_15 ?_
  obtain ⟨x3, e4, h⟩ := bi_el h
  refine R_ild e4 (ty_12_0 k0) (dd dt_12_watch 23 rfl) ?_
  refine R_ishl (dd dt_12_watch 24 rfl) ?_
  refine R_iconst (v := 1) (dd dt_12_watch 25 rfl) ic_1 ?_
  refine R_isub (dd dt_12_watch 26 rfl) ?_
  refine R_istore_n (lv' := [some (.ref a0), some (.int a1), some (.int ((1 <<< (x3 &&& 31)) - 1)), none, none, none, none]) (dd dt_12_watch 27 rfl) 2 rfl (by decide) rfl rfl ?_
  refine R_aload_n (dd dt_12_watch 28 rfl) 0 rfl rfl ?_
  refine g_12_53 rfl k0 (dd dt_12_watch 29 rfl) ?_
  refine R_iload_n (dd dt_12_watch 30 rfl) 2 rfl rfl ?_
  obtain ⟨x5, e6, h⟩ := bi_el h
  refine R_ild e6 (ty_12_24 k0) (dd dt_12_watch 31 rfl) ?_
  refine R_istore_n (lv' := [some (.ref a0), some (.int a1), some (.int ((1 <<< (x3 &&& 31)) - 1)), some (.int x5), none, none, none]) (dd dt_12_watch 32 rfl) 3 rfl (by decide) rfl rfl ?_
  refine R_iload_n (dd dt_12_watch 33 rfl) 3 rfl rfl ?_
  refine R_ldcw (dd dt_12_watch 34 rfl) ct_12_276 ?_
  refine R_cmplt (dd dt_12_watch 35 rfl) (tgt := 63) rfl (fun hc => ?_) (fun hc => ?_)
  · rw [if_pos hc] at h
    refine R_aload_n (dd dt_12_watch 38 rfl) 0 rfl rfl ?_
    refine R_iconst (v := 0) (dd dt_12_watch 39 rfl) ic_0 ?_
    obtain ⟨μ7, e8, h⟩ := bi_el h
    refine p_12_283 rfl k0 (dd dt_12_watch 40 rfl) e8 ?_
    refine R_iconst (v := 0) (dd dt_12_watch 41 rfl) ic_0 ?_
    refine R_istore (lv' := [some (.ref a0), some (.int a1), some (.int ((1 <<< (x3 &&& 31)) - 1)), some (.int x5), some (.int 0), none, none]) (dd dt_12_watch 42 rfl) (by decide) rfl rfl ?_
    obtain ⟨z9, e10, h⟩ := bi_el h
    refine R_mask [true, true, true, true, true, false, false] rfl (ok_12_watch_l71 a0 a1 x5 k0 FU ((1 <<< (x3 &&& 31)) - 1) 0 μ7 _ e10 ?_)
    refine R_aload_n (dd dt_12_watch 159 rfl) 0 rfl rfl ?_
    refine R_aload_n (dd dt_12_watch 160 rfl) 0 rfl rfl ?_
    refine g_12_283 rfl k0 (dd dt_12_watch 161 rfl) ?_
    obtain ⟨μ11, e12, h⟩ := bi_el h
    refine p_12_28 rfl k0 (dd dt_12_watch 162 rfl) e12 ?_
    refine R_iconst (v := 0) (dd dt_12_watch 163 rfl) ic_0 ?_
    refine R_istore (lv' := [some (.ref a0), some (.int a1), none, some (.int x5), some (.int 0), none, none]) (dd dt_12_watch 164 rfl) (by decide) rfl rfl ?_
    obtain ⟨z13, e14, h⟩ := bi_el h
    refine R_mask [true, true, false, true, true, false, false] rfl (ok_12_watch_l278 a0 a1 x5 k0 FU 0 μ11 _ e14 ?_)
    refine R_iload_n (dd dt_12_watch 181 rfl) 1 rfl rfl ?_
    refine R_ifne (dd dt_12_watch 182 rfl) (tgt := 320) rfl (fun hc => ?_) (fun hc => ?_)
    · rw [if_neg hc] at h
      refine R_iload_n (dd dt_12_watch 186 rfl) 1 rfl rfl ?_
      refine R_iconst (v := 1) (dd dt_12_watch 187 rfl) ic_1 ?_
      refine R_cmpne (dd dt_12_watch 188 rfl) (tgt := 329) rfl (fun hc => ?_) (fun hc => ?_)
      · rw [if_neg hc] at h
        refine R_aload_n (dd dt_12_watch 191 rfl) 0 rfl rfl ?_
        refine g_12_56 rfl k0 (dd dt_12_watch 192 rfl) ?_
        refine R_iload_n (dd dt_12_watch 193 rfl) 1 rfl rfl ?_
        refine R_bipush (v := 10) (dd dt_12_watch 194 rfl) bp_10 ?_
        refine R_isub (dd dt_12_watch 195 rfl) ?_
        obtain ⟨x15, e16, h⟩ := bi_el h
        refine R_ild e16 (ty_12_25 k0) (dd dt_12_watch 196 rfl) ?_
        obtain rfl := Option.some.inj h
        exact R_iret rfl (dd dt_12_watch 197 rfl) hQ
      · rw [if_pos hc] at h
        refine R_iload_n (dd dt_12_watch 189 rfl) 3 rfl rfl ?_
        refine R_goto (dd dt_12_watch 190 rfl) (tgt := 338) rfl ?_
        obtain rfl := Option.some.inj h
        exact R_iret rfl (dd dt_12_watch 197 rfl) hQ
    · rw [if_pos hc] at h
      refine R_aload_n (dd dt_12_watch 183 rfl) 0 rfl rfl ?_
      refine g_12_283 rfl k0 (dd dt_12_watch 184 rfl) ?_
      refine R_goto (dd dt_12_watch 185 rfl) (tgt := 338) rfl ?_
      obtain rfl := Option.some.inj h
      exact R_iret rfl (dd dt_12_watch 197 rfl) hQ
  · rw [if_neg hc] at h
    refine R_bipush (v := (-3)) (dd dt_12_watch 36 rfl) bp_m3 ?_
    obtain rfl := Option.some.inj h
    exact R_iret rfl (dd dt_12_watch 37 rfl) hQ
def f_12_watch (a0 : Nat) (a1 : Int32) (μ : mm) : Option (Int32 × mm) :=
  (f_12_within a1 0 1 μ).bind fun x2 =>
  if x2 = 0 then
    if a1 < 10 then
      some ((-1), μ)
    else
      (f_12_is a0 (a1 - 10) 16 μ).bind fun x4 =>
      if x4 = 0 then
        some ((-1), μ)
      else
        f_12_watch_b30 a0 a1 μ
  else
    f_12_watch_b30 a0 a1 μ
set_option maxRecDepth 100000 in
set_option maxHeartbeats 4000000 in
theorem ok_12_watch {l : Launch} {E : ce} {d : Nat}  {a0 : Nat} {a1 : Int32} {μ : mm} {r : Int32 × mm} {Q : Option Value → mm → Prop} (h : f_12_watch a0 a1 μ = some r) (k0 : kd a0 = 12) (hQ : Q (some (.int r.1)) r.2) : Ct l E (d + 3) yX12_watch m_12_watch [.ref a0, .int a1] μ Q := by
  refine Ct_of (lv := [some (.ref a0), some (.int a1), none, none, none, none, none]) (by decide) rfl (Nat.le_of_ble_eq_true rfl) rfl ?_
  unfold f_12_watch at h
  refine R_iload_n (dd dt_12_watch 0 rfl) 1 rfl rfl ?_
  refine R_iconst (v := 0) (dd dt_12_watch 1 rfl) ic_0 ?_
  refine R_iconst (v := 1) (dd dt_12_watch 2 rfl) ic_1 ?_
  obtain ⟨x2, e1, h⟩ := bi_el h
  refine c_12_80 (As := [.int a1, .int 0, .int 1]) (st1 := [.int x2]) rfl (fun Q1 hq => ok_12_within e1 hq) rfl rfl (Nat.le_of_ble_eq_true rfl) (dd dt_12_watch 3 rfl) rfl ?_
  refine R_ifne (dd dt_12_watch 4 rfl) (tgt := 30) rfl (fun hc => ?_) (fun hc => ?_)
  · rw [if_neg hc] at h
    exact R_mask [true, true, false, false, false, false, false] rfl (ok_12_watch_b30  h k0 hQ)
  · rw [if_pos hc] at h
    refine R_iload_n (dd dt_12_watch 5 rfl) 1 rfl rfl ?_
    refine R_bipush (v := 10) (dd dt_12_watch 6 rfl) bp_10 ?_
    refine R_cmplt (dd dt_12_watch 7 rfl) (tgt := 28) rfl (fun hc => ?_) (fun hc => ?_)
    · rw [if_pos hc] at h
      refine R_iconst (v := (-1)) (dd dt_12_watch 15 rfl) ic_m1 ?_
      obtain rfl := Option.some.inj h
      exact R_iret rfl (dd dt_12_watch 16 rfl) hQ
    · rw [if_neg hc] at h
      refine R_aload_n (dd dt_12_watch 8 rfl) 0 rfl rfl ?_
      refine R_iload_n (dd dt_12_watch 9 rfl) 1 rfl rfl ?_
      refine R_bipush (v := 10) (dd dt_12_watch 10 rfl) bp_10 ?_
      refine R_isub (dd dt_12_watch 11 rfl) ?_
      refine R_bipush (v := 16) (dd dt_12_watch 12 rfl) bp_16 ?_
      obtain ⟨x4, e3, h⟩ := bi_el h
      refine c_12_84 (As := [.int (a1 - 10), .int 16]) (st1 := [.int x4]) rfl (fun Q1 hq => ok_12_is e3 k0 hq) k0 rfl rfl (Nat.le_of_ble_eq_true rfl) (dd dt_12_watch 13 rfl) rfl ?_
      refine R_ifne (dd dt_12_watch 14 rfl) (tgt := 30) rfl (fun hc => ?_) (fun hc => ?_)
      · rw [if_neg hc] at h
        exact R_mask [true, true, false, false, false, false, false] rfl (ok_12_watch_b30  h k0 hQ)
      · rw [if_pos hc] at h
        refine R_iconst (v := (-1)) (dd dt_12_watch 15 rfl) ic_m1 ?_
        obtain rfl := Option.some.inj h
        exact R_iret rfl (dd dt_12_watch 16 rfl) hQ
/-! LongStrikeModel.isRow(II)Z -/
def tab_12_isRow : List (Nat × Instr × Nat) := [(0, .iload_n 1, 1), (1, .iconst 0, 1), (2, .aload_n 0, 1), (3, .getfield 283, 3), (6, .iconst 1, 1), (7, .isub, 1), (8, .invokestatic 80, 3), (11, .ifCond .eq 16, 3), (14, .iload_n 2, 1), (15, .iconst 0, 1), (16, .iconst 1, 1), (17, .invokestatic 80, 3), (20, .ifCond .eq 7, 3), (23, .iconst 1, 1), (24, .goto 4, 3), (27, .iconst 0, 1), (28, .ireturn, 1)]
set_option maxRecDepth 100000 in
theorem dt_12_isRow : ∀ q ∈ tab_12_isRow, decode m_12_isRow.2.1 q.1 = .ok q.2 := by decide +kernel
def f_12_isRow (a0 : Nat) (a1 : Int32) (a2 : Int32) (μ : mm) : Option (Int32) :=
  (f_12_within a1 0 ((μ a0 8) - 1) μ).bind fun x2 =>
  if x2 = 0 then
    some 0
  else
    (f_12_within a2 0 1 μ).bind fun x4 =>
    if x4 = 0 then
      some 0
    else
      some 1
set_option maxRecDepth 100000 in
set_option maxHeartbeats 4000000 in
theorem ok_12_isRow {l : Launch} {E : ce} {d : Nat}  {a0 : Nat} {a1 : Int32} {a2 : Int32} {μ : mm} {r : Int32} {Q : Option Value → mm → Prop} (h : f_12_isRow a0 a1 a2 μ = some r) (k0 : kd a0 = 12) (hQ : Q (some (.int r)) μ) : Ct l E (d + 1) yX12_isRow m_12_isRow [.ref a0, .int a1, .int a2] μ Q := by
  refine Ct_of (lv := [some (.ref a0), some (.int a1), some (.int a2)]) (by decide) rfl (Nat.le_of_ble_eq_true rfl) rfl ?_
  unfold f_12_isRow at h
  refine R_iload_n (dd dt_12_isRow 0 rfl) 1 rfl rfl ?_
  refine R_iconst (v := 0) (dd dt_12_isRow 1 rfl) ic_0 ?_
  refine R_aload_n (dd dt_12_isRow 2 rfl) 0 rfl rfl ?_
  refine g_12_283 rfl k0 (dd dt_12_isRow 3 rfl) ?_
  refine R_iconst (v := 1) (dd dt_12_isRow 4 rfl) ic_1 ?_
  refine R_isub (dd dt_12_isRow 5 rfl) ?_
  obtain ⟨x2, e1, h⟩ := bi_el h
  refine c_12_80 (As := [.int a1, .int 0, .int ((μ a0 8) - 1)]) (st1 := [.int x2]) rfl (fun Q1 hq => ok_12_within e1 hq) rfl rfl (Nat.le_of_ble_eq_true rfl) (dd dt_12_isRow 6 rfl) rfl ?_
  refine R_ifeq (dd dt_12_isRow 7 rfl) (tgt := 27) rfl (fun hc => ?_) (fun hc => ?_)
  · rw [if_pos hc] at h
    refine R_iconst (v := 0) (dd dt_12_isRow 15 rfl) ic_0 ?_
    obtain rfl := Option.some.inj h
    exact R_zret rfl (by decide) (dd dt_12_isRow 16 rfl) hQ
  · rw [if_neg hc] at h
    refine R_iload_n (dd dt_12_isRow 8 rfl) 2 rfl rfl ?_
    refine R_iconst (v := 0) (dd dt_12_isRow 9 rfl) ic_0 ?_
    refine R_iconst (v := 1) (dd dt_12_isRow 10 rfl) ic_1 ?_
    obtain ⟨x4, e3, h⟩ := bi_el h
    refine c_12_80 (As := [.int a2, .int 0, .int 1]) (st1 := [.int x4]) rfl (fun Q1 hq => ok_12_within e3 hq) rfl rfl (Nat.le_of_ble_eq_true rfl) (dd dt_12_isRow 11 rfl) rfl ?_
    refine R_ifeq (dd dt_12_isRow 12 rfl) (tgt := 27) rfl (fun hc => ?_) (fun hc => ?_)
    · rw [if_pos hc] at h
      refine R_iconst (v := 0) (dd dt_12_isRow 15 rfl) ic_0 ?_
      obtain rfl := Option.some.inj h
      exact R_zret rfl (by decide) (dd dt_12_isRow 16 rfl) hQ
    · rw [if_neg hc] at h
      refine R_iconst (v := 1) (dd dt_12_isRow 13 rfl) ic_1 ?_
      refine R_goto (dd dt_12_isRow 14 rfl) (tgt := 28) rfl ?_
      obtain rfl := Option.some.inj h
      exact R_zret rfl (by decide) (dd dt_12_isRow 16 rfl) hQ
/-! LongStrikeModel.row(II)I -/
def tab_12_row : List (Nat × Instr × Nat) := [(0, .aload_n 0, 1), (1, .iload_n 1, 1), (2, .iload_n 2, 1), (3, .invokevirtual 286, 3), (6, .ifCond .eq 16, 3), (9, .aload_n 0, 1), (10, .getfield 22, 3), (13, .iconst 2, 1), (14, .iload_n 1, 1), (15, .imul, 1), (16, .iload_n 2, 1), (17, .iadd, 1), (18, .iaload, 1), (19, .goto 5, 3), (22, .bipush (-9), 2), (24, .ireturn, 1)]
set_option maxRecDepth 100000 in
theorem dt_12_row : ∀ q ∈ tab_12_row, decode m_12_row.2.1 q.1 = .ok q.2 := by decide +kernel
def f_12_row (a0 : Nat) (a1 : Int32) (a2 : Int32) (μ : mm) : Option (Int32) :=
  (f_12_isRow a0 a1 a2 μ).bind fun x2 =>
  if x2 = 0 then
    some (-9)
  else
    (ld μ (rf a0 6) ((2 * a1) + a2)).bind fun x3 =>
    some x3
set_option maxRecDepth 100000 in
set_option maxHeartbeats 4000000 in
theorem ok_12_row {l : Launch} {E : ce} {d : Nat}  {a0 : Nat} {a1 : Int32} {a2 : Int32} {μ : mm} {r : Int32} {Q : Option Value → mm → Prop} (h : f_12_row a0 a1 a2 μ = some r) (k0 : kd a0 = 12) (hQ : Q (some (.int r)) μ) : Ct l E (d + 2) yX12_row m_12_row [.ref a0, .int a1, .int a2] μ Q := by
  refine Ct_of (lv := [some (.ref a0), some (.int a1), some (.int a2)]) (by decide) rfl (Nat.le_of_ble_eq_true rfl) rfl ?_
  unfold f_12_row at h
  refine R_aload_n (dd dt_12_row 0 rfl) 0 rfl rfl ?_
  refine R_iload_n (dd dt_12_row 1 rfl) 1 rfl rfl ?_
  refine R_iload_n (dd dt_12_row 2 rfl) 2 rfl rfl ?_
  obtain ⟨x2, e1, h⟩ := bi_el h
  refine c_12_286 (As := [.int a1, .int a2]) (st1 := [.int x2]) rfl (fun Q1 hq => ok_12_isRow e1 k0 hq) k0 rfl rfl (Nat.le_of_ble_eq_true rfl) (dd dt_12_row 3 rfl) rfl ?_
  refine R_ifeq (dd dt_12_row 4 rfl) (tgt := 22) rfl (fun hc => ?_) (fun hc => ?_)
  · rw [if_pos hc] at h
    refine R_bipush (v := (-9)) (dd dt_12_row 14 rfl) bp_m9 ?_
    obtain rfl := Option.some.inj h
    exact R_iret rfl (dd dt_12_row 15 rfl) hQ
  · rw [if_neg hc] at h
    refine R_aload_n (dd dt_12_row 5 rfl) 0 rfl rfl ?_
    refine g_12_22 rfl k0 (dd dt_12_row 6 rfl) ?_
    refine R_iconst (v := 2) (dd dt_12_row 7 rfl) ic_2 ?_
    refine R_iload_n (dd dt_12_row 8 rfl) 1 rfl rfl ?_
    refine R_imul (dd dt_12_row 9 rfl) ?_
    refine R_iload_n (dd dt_12_row 10 rfl) 2 rfl rfl ?_
    refine R_iadd (dd dt_12_row 11 rfl) ?_
    obtain ⟨x3, e4, h⟩ := bi_el h
    refine R_ild e4 (ty_12_6 k0) (dd dt_12_row 12 rfl) ?_
    refine R_goto (dd dt_12_row 13 rfl) (tgt := 24) rfl ?_
    obtain rfl := Option.some.inj h
    exact R_iret rfl (dd dt_12_row 15 rfl) hQ
/-! LongStrikeModel.alterRow(III)I -/
def tab_12_alterRow : List (Nat × Instr × Nat) := [(0, .aload_n 0, 1), (1, .iload_n 1, 1), (2, .iload_n 2, 1), (3, .invokevirtual 286, 3), (6, .ifCond .ne 6, 3), (9, .bipush (-9), 2), (11, .ireturn, 1), (12, .aload_n 0, 1), (13, .getfield 22, 3), (16, .iconst 2, 1), (17, .iload_n 1, 1), (18, .imul, 1), (19, .iload_n 2, 1), (20, .iadd, 1), (21, .iaload, 1), (22, .istore 4, 2), (24, .aload_n 0, 1), (25, .getfield 22, 3), (28, .iconst 2, 1), (29, .iload_n 1, 1), (30, .imul, 1), (31, .iload_n 2, 1), (32, .iadd, 1), (33, .iload_n 3, 1), (34, .iastore, 1), (35, .iload 4, 2), (37, .ireturn, 1)]
set_option maxRecDepth 100000 in
theorem dt_12_alterRow : ∀ q ∈ tab_12_alterRow, decode m_12_alterRow.2.1 q.1 = .ok q.2 := by decide +kernel
def f_12_alterRow (a0 : Nat) (a1 : Int32) (a2 : Int32) (a3 : Int32) (μ : mm) : Option (Int32 × mm) :=
  (f_12_isRow a0 a1 a2 μ).bind fun x2 =>
  if x2 = 0 then
    some ((-9), μ)
  else
    (ld μ (rf a0 6) ((2 * a1) + a2)).bind fun x3 =>
    (sto μ (rf a0 6) ((2 * a1) + a2) a3).bind fun μ5 =>
    some (x3, μ5)
set_option maxRecDepth 100000 in
set_option maxHeartbeats 4000000 in
theorem ok_12_alterRow {l : Launch} {E : ce} {d : Nat}  {a0 : Nat} {a1 : Int32} {a2 : Int32} {a3 : Int32} {μ : mm} {r : Int32 × mm} {Q : Option Value → mm → Prop} (h : f_12_alterRow a0 a1 a2 a3 μ = some r) (k0 : kd a0 = 12) (hQ : Q (some (.int r.1)) r.2) : Ct l E (d + 2) yX12_alterRow m_12_alterRow [.ref a0, .int a1, .int a2, .int a3] μ Q := by
  refine Ct_of (lv := [some (.ref a0), some (.int a1), some (.int a2), some (.int a3), none]) (by decide) rfl (Nat.le_of_ble_eq_true rfl) rfl ?_
  unfold f_12_alterRow at h
  refine R_aload_n (dd dt_12_alterRow 0 rfl) 0 rfl rfl ?_
  refine R_iload_n (dd dt_12_alterRow 1 rfl) 1 rfl rfl ?_
  refine R_iload_n (dd dt_12_alterRow 2 rfl) 2 rfl rfl ?_
  obtain ⟨x2, e1, h⟩ := bi_el h
  refine c_12_286 (As := [.int a1, .int a2]) (st1 := [.int x2]) rfl (fun Q1 hq => ok_12_isRow e1 k0 hq) k0 rfl rfl (Nat.le_of_ble_eq_true rfl) (dd dt_12_alterRow 3 rfl) rfl ?_
  refine R_ifne (dd dt_12_alterRow 4 rfl) (tgt := 12) rfl (fun hc => ?_) (fun hc => ?_)
  · rw [if_neg hc] at h
    refine R_aload_n (dd dt_12_alterRow 7 rfl) 0 rfl rfl ?_
    refine g_12_22 rfl k0 (dd dt_12_alterRow 8 rfl) ?_
    refine R_iconst (v := 2) (dd dt_12_alterRow 9 rfl) ic_2 ?_
    refine R_iload_n (dd dt_12_alterRow 10 rfl) 1 rfl rfl ?_
    refine R_imul (dd dt_12_alterRow 11 rfl) ?_
    refine R_iload_n (dd dt_12_alterRow 12 rfl) 2 rfl rfl ?_
    refine R_iadd (dd dt_12_alterRow 13 rfl) ?_
    obtain ⟨x3, e4, h⟩ := bi_el h
    refine R_ild e4 (ty_12_6 k0) (dd dt_12_alterRow 14 rfl) ?_
    refine R_istore (lv' := [some (.ref a0), some (.int a1), some (.int a2), some (.int a3), some (.int x3)]) (dd dt_12_alterRow 15 rfl) (by decide) rfl rfl ?_
    refine R_aload_n (dd dt_12_alterRow 16 rfl) 0 rfl rfl ?_
    refine g_12_22 rfl k0 (dd dt_12_alterRow 17 rfl) ?_
    refine R_iconst (v := 2) (dd dt_12_alterRow 18 rfl) ic_2 ?_
    refine R_iload_n (dd dt_12_alterRow 19 rfl) 1 rfl rfl ?_
    refine R_imul (dd dt_12_alterRow 20 rfl) ?_
    refine R_iload_n (dd dt_12_alterRow 21 rfl) 2 rfl rfl ?_
    refine R_iadd (dd dt_12_alterRow 22 rfl) ?_
    refine R_iload_n (dd dt_12_alterRow 23 rfl) 3 rfl rfl ?_
    obtain ⟨μ5, e6, h⟩ := bi_el h
    refine R_isto e6 (ty_12_6 k0) (dd dt_12_alterRow 24 rfl) ?_
    refine R_iload (dd dt_12_alterRow 25 rfl) rfl ?_
    obtain rfl := Option.some.inj h
    exact R_iret rfl (dd dt_12_alterRow 26 rfl) hQ
  · rw [if_pos hc] at h
    refine R_bipush (v := (-9)) (dd dt_12_alterRow 5 rfl) bp_m9 ?_
    obtain rfl := Option.some.inj h
    exact R_iret rfl (dd dt_12_alterRow 6 rfl) hQ
/-! LongStrikeModel.dropRow()I -/
def tab_12_dropRow : List (Nat × Instr × Nat) := [(0, .aload_n 0, 1), (1, .getfield 283, 3), (4, .ifCond .ne 6, 3), (7, .bipush (-3), 2), (9, .ireturn, 1), (10, .aload_n 0, 1), (11, .dup, 1), (12, .getfield 283, 3), (15, .iconst 1, 1), (16, .isub, 1), (17, .putfield 283, 3), (20, .aload_n 0, 1), (21, .getfield 283, 3), (24, .ireturn, 1)]
set_option maxRecDepth 100000 in
theorem dt_12_dropRow : ∀ q ∈ tab_12_dropRow, decode m_12_dropRow.2.1 q.1 = .ok q.2 := by decide +kernel
def f_12_dropRow (a0 : Nat) (μ : mm) : Option (Int32 × mm) :=
  if (μ a0 8) = 0 then
    some ((-3), μ)
  else
    (pf μ a0 8 ((μ a0 8) - 1)).bind fun μ1 =>
    some ((μ1 a0 8), μ1)
set_option maxRecDepth 100000 in
set_option maxHeartbeats 4000000 in
theorem ok_12_dropRow {l : Launch} {E : ce} {d : Nat}  {a0 : Nat} {μ : mm} {r : Int32 × mm} {Q : Option Value → mm → Prop} (h : f_12_dropRow a0 μ = some r) (k0 : kd a0 = 12) (hQ : Q (some (.int r.1)) r.2) : Ct l E d yX12_dropRow m_12_dropRow [.ref a0] μ Q := by
  refine Ct_of (lv := [some (.ref a0)]) (by decide) rfl (Nat.le_of_ble_eq_true rfl) rfl ?_
  unfold f_12_dropRow at h
  refine R_aload_n (dd dt_12_dropRow 0 rfl) 0 rfl rfl ?_
  refine g_12_283 rfl k0 (dd dt_12_dropRow 1 rfl) ?_
  refine R_ifne (dd dt_12_dropRow 2 rfl) (tgt := 10) rfl (fun hc => ?_) (fun hc => ?_)
  · rw [if_neg hc] at h
    refine R_aload_n (dd dt_12_dropRow 5 rfl) 0 rfl rfl ?_
    refine R_dup (dd dt_12_dropRow 6 rfl) rfl ?_
    refine g_12_283 rfl k0 (dd dt_12_dropRow 7 rfl) ?_
    refine R_iconst (v := 1) (dd dt_12_dropRow 8 rfl) ic_1 ?_
    refine R_isub (dd dt_12_dropRow 9 rfl) ?_
    obtain ⟨μ1, e2, h⟩ := bi_el h
    refine p_12_283 rfl k0 (dd dt_12_dropRow 10 rfl) e2 ?_
    refine R_aload_n (dd dt_12_dropRow 11 rfl) 0 rfl rfl ?_
    refine g_12_283 rfl k0 (dd dt_12_dropRow 12 rfl) ?_
    obtain rfl := Option.some.inj h
    exact R_iret rfl (dd dt_12_dropRow 13 rfl) hQ
  · rw [if_pos hc] at h
    refine R_bipush (v := (-3)) (dd dt_12_dropRow 3 rfl) bp_m3 ?_
    obtain rfl := Option.some.inj h
    exact R_iret rfl (dd dt_12_dropRow 4 rfl) hQ
/-! LongStrikeModel.judge()I -/
def tab_12_judge : List (Nat × Instr × Nat) := [(0, .aload_n 0, 1), (1, .getfield 28, 3), (4, .ifCond .ge 6, 3), (7, .bipush (-3), 2), (9, .ireturn, 1), (10, .iconst 0, 1), (11, .istore_n 1, 1), (12, .iload_n 1, 1), (13, .iconst 2, 1), (14, .aload_n 0, 1), (15, .getfield 283, 3), (18, .imul, 1), (19, .if_icmp .ge 30, 3), (22, .aload_n 0, 1), (23, .getfield 22, 3), (26, .iload_n 1, 1), (27, .iaload, 1), (28, .aload_n 0, 1), (29, .getfield 25, 3), (32, .iload_n 1, 1), (33, .iaload, 1), (34, .if_icmp .eq 9, 3), (37, .iload_n 1, 1), (38, .iconst 2, 1), (39, .idiv, 1), (40, .iconst 1, 1), (41, .iadd, 1), (42, .ireturn, 1), (43, .iinc 1 1, 3), (46, .goto (-34), 3), (49, .aload_n 0, 1), (50, .getfield 283, 3), (53, .aload_n 0, 1), (54, .getfield 28, 3), (57, .if_icmp .ge 12, 3), (60, .aload_n 0, 1), (61, .getfield 283, 3), (64, .iconst 1, 1), (65, .iadd, 1), (66, .goto 4, 3), (69, .iconst 0, 1), (70, .ireturn, 1)]
set_option maxRecDepth 100000 in
theorem dt_12_judge : ∀ q ∈ tab_12_judge, decode m_12_judge.2.1 q.1 = .ok q.2 := by decide +kernel
def f_12_judge_l12 (a0 : Nat) (μ : mm) : Nat → Int32 → Option (Int32)
  | 0, _ => none
  | n + 1, v1 => if (2 * (μ a0 8)) ≤ v1 then
      if (μ a0 9) ≤ (μ a0 8) then
        some 0
      else
        some ((μ a0 8) + 1)
    else
      (ld μ (rf a0 6) v1).bind fun x1 =>
      (ld μ (rf a0 7) v1).bind fun x3 =>
      if x1 = x3 then
        f_12_judge_l12 a0 μ n (v1 + 1)
      else
        some ((v1 / 2) + 1)
set_option maxRecDepth 100000 in
theorem ok_12_judge_l12 {l : Launch} {E : ce} {d : Nat} {Q : Option Value → mm → Prop} (a0 : Nat) (μ : mm) (k0 : kd a0 = 12) : ∀ (n : Nat) (v1 : Int32) (r : Int32), f_12_judge_l12 a0 μ n v1 = some r → Q (some (.int r)) μ → Rj l E d m_12_judge 12 [some (.ref a0), some (.int v1)] [] μ Q
  | 0, _, z, h, _ => by
    rw [f_12_judge_l12] at h
    cases h
  | n + 1, v1, r, h, hQ => by
    rw [f_12_judge_l12] at h
    refine R_iload_n (dd dt_12_judge 7 rfl) 1 rfl rfl ?_
    refine R_iconst (v := 2) (dd dt_12_judge 8 rfl) ic_2 ?_
    refine R_aload_n (dd dt_12_judge 9 rfl) 0 rfl rfl ?_
    refine g_12_283 rfl k0 (dd dt_12_judge 10 rfl) ?_
    refine R_imul (dd dt_12_judge 11 rfl) ?_
    refine R_cmpge (dd dt_12_judge 12 rfl) (tgt := 49) rfl (fun hc => ?_) (fun hc => ?_)
    · rw [if_pos hc] at h
      refine R_aload_n (dd dt_12_judge 30 rfl) 0 rfl rfl ?_
      refine g_12_283 rfl k0 (dd dt_12_judge 31 rfl) ?_
      refine R_aload_n (dd dt_12_judge 32 rfl) 0 rfl rfl ?_
      refine g_12_28 rfl k0 (dd dt_12_judge 33 rfl) ?_
      refine R_cmpge (dd dt_12_judge 34 rfl) (tgt := 69) rfl (fun hc => ?_) (fun hc => ?_)
      · rw [if_pos hc] at h
        refine R_iconst (v := 0) (dd dt_12_judge 40 rfl) ic_0 ?_
        obtain rfl := Option.some.inj h
        exact R_iret rfl (dd dt_12_judge 41 rfl) hQ
      · rw [if_neg hc] at h
        refine R_aload_n (dd dt_12_judge 35 rfl) 0 rfl rfl ?_
        refine g_12_283 rfl k0 (dd dt_12_judge 36 rfl) ?_
        refine R_iconst (v := 1) (dd dt_12_judge 37 rfl) ic_1 ?_
        refine R_iadd (dd dt_12_judge 38 rfl) ?_
        refine R_goto (dd dt_12_judge 39 rfl) (tgt := 70) rfl ?_
        obtain rfl := Option.some.inj h
        exact R_iret rfl (dd dt_12_judge 41 rfl) hQ
    · rw [if_neg hc] at h
      refine R_aload_n (dd dt_12_judge 13 rfl) 0 rfl rfl ?_
      refine g_12_22 rfl k0 (dd dt_12_judge 14 rfl) ?_
      refine R_iload_n (dd dt_12_judge 15 rfl) 1 rfl rfl ?_
      obtain ⟨x1, e2, h⟩ := bi_el h
      refine R_ild e2 (ty_12_6 k0) (dd dt_12_judge 16 rfl) ?_
      refine R_aload_n (dd dt_12_judge 17 rfl) 0 rfl rfl ?_
      refine g_12_25 rfl k0 (dd dt_12_judge 18 rfl) ?_
      refine R_iload_n (dd dt_12_judge 19 rfl) 1 rfl rfl ?_
      obtain ⟨x3, e4, h⟩ := bi_el h
      refine R_ild e4 (ty_12_7 k0) (dd dt_12_judge 20 rfl) ?_
      refine R_cmpeq (dd dt_12_judge 21 rfl) (tgt := 43) rfl (fun hc => ?_) (fun hc => ?_)
      · rw [if_pos hc] at h
        refine R_iinc (v := 1) (lv' := [some (.ref a0), some (.int (v1 + 1))]) (dd dt_12_judge 28 rfl) (by decide) rfl rfl ic_1 rfl ?_
        refine R_goto (dd dt_12_judge 29 rfl) (tgt := 12) rfl ?_
        exact R_mask [true, true] rfl (ok_12_judge_l12 a0 μ k0 n (v1 + 1) _ h hQ)
      · rw [if_neg hc] at h
        refine R_iload_n (dd dt_12_judge 22 rfl) 1 rfl rfl ?_
        refine R_iconst (v := 2) (dd dt_12_judge 23 rfl) ic_2 ?_
        refine R_idiv (dd dt_12_judge 24 rfl) (by decide) ?_
        refine R_iconst (v := 1) (dd dt_12_judge 25 rfl) ic_1 ?_
        refine R_iadd (dd dt_12_judge 26 rfl) ?_
        obtain rfl := Option.some.inj h
        exact R_iret rfl (dd dt_12_judge 27 rfl) hQ
def f_12_judge (a0 : Nat) (μ : mm) : Option (Int32) :=
  if 0 ≤ (μ a0 9) then
    f_12_judge_l12 a0 μ FU 0
  else
    some (-3)
set_option maxRecDepth 100000 in
set_option maxHeartbeats 4000000 in
theorem ok_12_judge {l : Launch} {E : ce} {d : Nat}  {a0 : Nat} {μ : mm} {r : Int32} {Q : Option Value → mm → Prop} (h : f_12_judge a0 μ = some r) (k0 : kd a0 = 12) (hQ : Q (some (.int r)) μ) : Ct l E d yX12_judge m_12_judge [.ref a0] μ Q := by
  refine Ct_of (lv := [some (.ref a0), none]) (by decide) rfl (Nat.le_of_ble_eq_true rfl) rfl ?_
  unfold f_12_judge at h
  refine R_aload_n (dd dt_12_judge 0 rfl) 0 rfl rfl ?_
  refine g_12_28 rfl k0 (dd dt_12_judge 1 rfl) ?_
  refine R_ifge (dd dt_12_judge 2 rfl) (tgt := 10) rfl (fun hc => ?_) (fun hc => ?_)
  · rw [if_pos hc] at h
    refine R_iconst (v := 0) (dd dt_12_judge 5 rfl) ic_0 ?_
    refine R_istore_n (lv' := [some (.ref a0), some (.int 0)]) (dd dt_12_judge 6 rfl) 1 rfl (by decide) rfl rfl ?_
    exact R_mask [true, true] rfl (ok_12_judge_l12 a0 μ k0 FU 0 _ h hQ)
  · rw [if_neg hc] at h
    refine R_bipush (v := (-3)) (dd dt_12_judge 3 rfl) bp_m3 ?_
    obtain rfl := Option.some.inj h
    exact R_iret rfl (dd dt_12_judge 4 rfl) hQ
/-! LongStrikeModel.clause(I)I -/
def tab_12_clause : List (Nat × Instr × Nat) := [(0, .iload_n 1, 1), (1, .iconst 0, 1), (2, .bipush 99, 2), (4, .invokestatic 80, 3), (7, .ifCond .ne 5, 3), (10, .iconst (-1), 1), (11, .ireturn, 1), (12, .aload_n 0, 1), (13, .getfield 9, 3), (16, .bipush 17, 2), (18, .iaload, 1), (19, .istore_n 2, 1), (20, .iload_n 2, 1), (21, .bipush 9, 2), (23, .if_icmp .ne 6, 3), (26, .bipush (-2), 2), (28, .ireturn, 1), (29, .aload_n 0, 1), (30, .getfield 9, 3), (33, .sipush 867, 3), (36, .iconst 5, 1), (37, .iload_n 2, 1), (38, .imul, 1), (39, .iadd, 1), (40, .iload_n 1, 1), (41, .iastore, 1), (42, .iconst 0, 1), (43, .istore_n 3, 1), (44, .iload_n 3, 1), (45, .iconst 4, 1), (46, .if_icmp .ge 26, 3), (49, .aload_n 0, 1), (50, .getfield 9, 3), (53, .sipush 867, 3), (56, .iconst 5, 1), (57, .iload_n 2, 1), (58, .imul, 1), (59, .iadd, 1), (60, .iconst 1, 1), (61, .iadd, 1), (62, .iload_n 3, 1), (63, .iadd, 1), (64, .iconst 0, 1), (65, .iastore, 1), (66, .iinc 3 1, 3), (69, .goto (-25), 3), (72, .aload_n 0, 1), (73, .getfield 9, 3), (76, .bipush 17, 2), (78, .dup2, 1), (79, .iaload, 1), (80, .iconst 1, 1), (81, .iadd, 1), (82, .iastore, 1), (83, .iload_n 2, 1), (84, .ireturn, 1)]
set_option maxRecDepth 100000 in
theorem dt_12_clause : ∀ q ∈ tab_12_clause, decode m_12_clause.2.1 q.1 = .ok q.2 := by decide +kernel
def f_12_clause_l44 (a0 : Nat) (a2 : Int32) : Nat → Int32 → mm → Option (mm)
  | 0, _, _ => none
  | n + 1, v3, μ => if 4 ≤ v3 then
      some μ
    else
      (sto μ (rf a0 0) (((867 + (5 * a2)) + 1) + v3) 0).bind fun μ1 =>
      f_12_clause_l44 a0 a2 n (v3 + 1) μ1
set_option maxRecDepth 100000 in
theorem ok_12_clause_l44 {l : Launch} {E : ce} {d : Nat} {Q : Option Value → mm → Prop} (a0 : Nat) (a2 : Int32) (k0 : kd a0 = 12) : ∀ (n : Nat) (v3 : Int32) (μ : mm) (z : mm), f_12_clause_l44 a0 a2 n v3 μ = some z → Rj l E (d + 1) m_12_clause 72 [some (.ref a0), none, some (.int a2), none] [] z Q → Rj l E (d + 1) m_12_clause 44 [some (.ref a0), none, some (.int a2), some (.int v3)] [] μ Q
  | 0, _, _, z, h, _ => by
    rw [f_12_clause_l44] at h
    cases h
  | n + 1, v3, μ, z, h, KX => by
    rw [f_12_clause_l44] at h
    refine R_iload_n (dd dt_12_clause 28 rfl) 3 rfl rfl ?_
    refine R_iconst (v := 4) (dd dt_12_clause 29 rfl) ic_4 ?_
    refine R_cmpge (dd dt_12_clause 30 rfl) (tgt := 72) rfl (fun hc => ?_) (fun hc => ?_)
    · rw [if_pos hc] at h
      obtain rfl := Option.some.inj h
      exact R_mask [true, false, true, false] rfl KX
    · rw [if_neg hc] at h
      refine R_aload_n (dd dt_12_clause 31 rfl) 0 rfl rfl ?_
      refine g_12_9 rfl k0 (dd dt_12_clause 32 rfl) ?_
      refine R_sipush (v := 867) (dd dt_12_clause 33 rfl) sp_867 ?_
      refine R_iconst (v := 5) (dd dt_12_clause 34 rfl) ic_5 ?_
      refine R_iload_n (dd dt_12_clause 35 rfl) 2 rfl rfl ?_
      refine R_imul (dd dt_12_clause 36 rfl) ?_
      refine R_iadd (dd dt_12_clause 37 rfl) ?_
      refine R_iconst (v := 1) (dd dt_12_clause 38 rfl) ic_1 ?_
      refine R_iadd (dd dt_12_clause 39 rfl) ?_
      refine R_iload_n (dd dt_12_clause 40 rfl) 3 rfl rfl ?_
      refine R_iadd (dd dt_12_clause 41 rfl) ?_
      refine R_iconst (v := 0) (dd dt_12_clause 42 rfl) ic_0 ?_
      obtain ⟨μ1, e2, h⟩ := bi_el h
      refine R_isto e2 (ty_12_0 k0) (dd dt_12_clause 43 rfl) ?_
      refine R_iinc (v := 1) (lv' := [some (.ref a0), none, some (.int a2), some (.int (v3 + 1))]) (dd dt_12_clause 44 rfl) (by decide) rfl rfl ic_1 rfl ?_
      refine R_goto (dd dt_12_clause 45 rfl) (tgt := 44) rfl ?_
      exact R_mask [true, false, true, true] rfl (ok_12_clause_l44 a0 a2 k0 n (v3 + 1) μ1 _ h KX)
def f_12_clause (a0 : Nat) (a1 : Int32) (μ : mm) : Option (Int32 × mm) :=
  (f_12_within a1 0 99 μ).bind fun x2 =>
  if x2 = 0 then
    some ((-1), μ)
  else
    (ld μ (rf a0 0) 17).bind fun x3 =>
    if x3 = 9 then
      some ((-2), μ)
    else
      (sto μ (rf a0 0) (867 + (5 * x3)) a1).bind fun μ5 =>
      (f_12_clause_l44 a0 x3 FU 0 μ5).bind fun z7 =>
      (ld z7 (rf a0 0) 17).bind fun x9 =>
      (sto z7 (rf a0 0) 17 (x9 + 1)).bind fun μ11 =>
      some (x3, μ11)
set_option maxRecDepth 100000 in
set_option maxHeartbeats 4000000 in
theorem ok_12_clause {l : Launch} {E : ce} {d : Nat}  {a0 : Nat} {a1 : Int32} {μ : mm} {r : Int32 × mm} {Q : Option Value → mm → Prop} (h : f_12_clause a0 a1 μ = some r) (k0 : kd a0 = 12) (hQ : Q (some (.int r.1)) r.2) : Ct l E (d + 1) yX12_clause m_12_clause [.ref a0, .int a1] μ Q := by
  refine Ct_of (lv := [some (.ref a0), some (.int a1), none, none]) (by decide) rfl (Nat.le_of_ble_eq_true rfl) rfl ?_
  unfold f_12_clause at h
  refine R_iload_n (dd dt_12_clause 0 rfl) 1 rfl rfl ?_
  refine R_iconst (v := 0) (dd dt_12_clause 1 rfl) ic_0 ?_
  refine R_bipush (v := 99) (dd dt_12_clause 2 rfl) bp_99 ?_
  obtain ⟨x2, e1, h⟩ := bi_el h
  refine c_12_80 (As := [.int a1, .int 0, .int 99]) (st1 := [.int x2]) rfl (fun Q1 hq => ok_12_within e1 hq) rfl rfl (Nat.le_of_ble_eq_true rfl) (dd dt_12_clause 3 rfl) rfl ?_
  refine R_ifne (dd dt_12_clause 4 rfl) (tgt := 12) rfl (fun hc => ?_) (fun hc => ?_)
  · rw [if_neg hc] at h
    refine R_aload_n (dd dt_12_clause 7 rfl) 0 rfl rfl ?_
    refine g_12_9 rfl k0 (dd dt_12_clause 8 rfl) ?_
    refine R_bipush (v := 17) (dd dt_12_clause 9 rfl) bp_17 ?_
    obtain ⟨x3, e4, h⟩ := bi_el h
    refine R_ild e4 (ty_12_0 k0) (dd dt_12_clause 10 rfl) ?_
    refine R_istore_n (lv' := [some (.ref a0), some (.int a1), some (.int x3), none]) (dd dt_12_clause 11 rfl) 2 rfl (by decide) rfl rfl ?_
    refine R_iload_n (dd dt_12_clause 12 rfl) 2 rfl rfl ?_
    refine R_bipush (v := 9) (dd dt_12_clause 13 rfl) bp_9 ?_
    refine R_cmpne (dd dt_12_clause 14 rfl) (tgt := 29) rfl (fun hc => ?_) (fun hc => ?_)
    · rw [if_neg hc] at h
      refine R_aload_n (dd dt_12_clause 17 rfl) 0 rfl rfl ?_
      refine g_12_9 rfl k0 (dd dt_12_clause 18 rfl) ?_
      refine R_sipush (v := 867) (dd dt_12_clause 19 rfl) sp_867 ?_
      refine R_iconst (v := 5) (dd dt_12_clause 20 rfl) ic_5 ?_
      refine R_iload_n (dd dt_12_clause 21 rfl) 2 rfl rfl ?_
      refine R_imul (dd dt_12_clause 22 rfl) ?_
      refine R_iadd (dd dt_12_clause 23 rfl) ?_
      refine R_iload_n (dd dt_12_clause 24 rfl) 1 rfl rfl ?_
      obtain ⟨μ5, e6, h⟩ := bi_el h
      refine R_isto e6 (ty_12_0 k0) (dd dt_12_clause 25 rfl) ?_
      refine R_iconst (v := 0) (dd dt_12_clause 26 rfl) ic_0 ?_
      refine R_istore_n (lv' := [some (.ref a0), some (.int a1), some (.int x3), some (.int 0)]) (dd dt_12_clause 27 rfl) 3 rfl (by decide) rfl rfl ?_
      obtain ⟨z7, e8, h⟩ := bi_el h
      refine R_mask [true, false, true, true] rfl (ok_12_clause_l44 a0 x3 k0 FU 0 μ5 _ e8 ?_)
      refine R_aload_n (dd dt_12_clause 46 rfl) 0 rfl rfl ?_
      refine g_12_9 rfl k0 (dd dt_12_clause 47 rfl) ?_
      refine R_bipush (v := 17) (dd dt_12_clause 48 rfl) bp_17 ?_
      refine R_dup2 (dd dt_12_clause 49 rfl) rfl rfl ?_
      obtain ⟨x9, e10, h⟩ := bi_el h
      refine R_ild e10 (ty_12_0 k0) (dd dt_12_clause 50 rfl) ?_
      refine R_iconst (v := 1) (dd dt_12_clause 51 rfl) ic_1 ?_
      refine R_iadd (dd dt_12_clause 52 rfl) ?_
      obtain ⟨μ11, e12, h⟩ := bi_el h
      refine R_isto e12 (ty_12_0 k0) (dd dt_12_clause 53 rfl) ?_
      refine R_iload_n (dd dt_12_clause 54 rfl) 2 rfl rfl ?_
      obtain rfl := Option.some.inj h
      exact R_iret rfl (dd dt_12_clause 55 rfl) hQ
    · rw [if_pos hc] at h
      refine R_bipush (v := (-2)) (dd dt_12_clause 15 rfl) bp_m2 ?_
      obtain rfl := Option.some.inj h
      exact R_iret rfl (dd dt_12_clause 16 rfl) hQ
  · rw [if_pos hc] at h
    refine R_iconst (v := (-1)) (dd dt_12_clause 5 rfl) ic_m1 ?_
    obtain rfl := Option.some.inj h
    exact R_iret rfl (dd dt_12_clause 6 rfl) hQ
/-! LongStrikeModel.worth(III)I -/
def tab_12_worth : List (Nat × Instr × Nat) := [(0, .aload_n 0, 1), (1, .iload_n 1, 1), (2, .bipush 17, 2), (4, .invokevirtual 84, 3), (7, .ifCond .eq 23, 3), (10, .aload_n 0, 1), (11, .iload_n 2, 1), (12, .bipush 9, 2), (14, .invokevirtual 84, 3), (17, .ifCond .eq 13, 3), (20, .iload_n 3, 1), (21, .iconst 0, 1), (22, .bipush 99, 2), (24, .invokestatic 80, 3), (27, .ifCond .ne 5, 3), (30, .iconst (-1), 1), (31, .ireturn, 1), (32, .sipush 867, 3), (35, .iconst 5, 1), (36, .iload_n 1, 1), (37, .imul, 1), (38, .iadd, 1), (39, .iconst 1, 1), (40, .iadd, 1), (41, .iload_n 2, 1), (42, .iadd, 1), (43, .istore 4, 2), (45, .aload_n 0, 1), (46, .getfield 9, 3), (49, .iload 4, 2), (51, .iaload, 1), (52, .istore 5, 2), (54, .aload_n 0, 1), (55, .getfield 9, 3), (58, .iload 4, 2), (60, .iload_n 3, 1), (61, .iastore, 1), (62, .iload 5, 2), (64, .ireturn, 1)]
set_option maxRecDepth 100000 in
theorem dt_12_worth : ∀ q ∈ tab_12_worth, decode m_12_worth.2.1 q.1 = .ok q.2 := by decide +kernel
def f_12_worth (a0 : Nat) (a1 : Int32) (a2 : Int32) (a3 : Int32) (μ : mm) : Option (Int32 × mm) :=
  (f_12_is a0 a1 17 μ).bind fun x2 =>
  if x2 = 0 then
    some ((-1), μ)
  else
    (f_12_is a0 a2 9 μ).bind fun x4 =>
    if x4 = 0 then
      some ((-1), μ)
    else
      (f_12_within a3 0 99 μ).bind fun x6 =>
      if x6 = 0 then
        some ((-1), μ)
      else
        (ld μ (rf a0 0) (((867 + (5 * a1)) + 1) + a2)).bind fun x7 =>
        (sto μ (rf a0 0) (((867 + (5 * a1)) + 1) + a2) a3).bind fun μ9 =>
        some (x7, μ9)
set_option maxRecDepth 100000 in
set_option maxHeartbeats 4000000 in
theorem ok_12_worth {l : Launch} {E : ce} {d : Nat}  {a0 : Nat} {a1 : Int32} {a2 : Int32} {a3 : Int32} {μ : mm} {r : Int32 × mm} {Q : Option Value → mm → Prop} (h : f_12_worth a0 a1 a2 a3 μ = some r) (k0 : kd a0 = 12) (hQ : Q (some (.int r.1)) r.2) : Ct l E (d + 2) yX12_worth m_12_worth [.ref a0, .int a1, .int a2, .int a3] μ Q := by
  refine Ct_of (lv := [some (.ref a0), some (.int a1), some (.int a2), some (.int a3), none, none]) (by decide) rfl (Nat.le_of_ble_eq_true rfl) rfl ?_
  unfold f_12_worth at h
  refine R_aload_n (dd dt_12_worth 0 rfl) 0 rfl rfl ?_
  refine R_iload_n (dd dt_12_worth 1 rfl) 1 rfl rfl ?_
  refine R_bipush (v := 17) (dd dt_12_worth 2 rfl) bp_17 ?_
  obtain ⟨x2, e1, h⟩ := bi_el h
  refine c_12_84 (As := [.int a1, .int 17]) (st1 := [.int x2]) rfl (fun Q1 hq => ok_12_is e1 k0 hq) k0 rfl rfl (Nat.le_of_ble_eq_true rfl) (dd dt_12_worth 3 rfl) rfl ?_
  refine R_ifeq (dd dt_12_worth 4 rfl) (tgt := 30) rfl (fun hc => ?_) (fun hc => ?_)
  · rw [if_pos hc] at h
    refine R_iconst (v := (-1)) (dd dt_12_worth 15 rfl) ic_m1 ?_
    obtain rfl := Option.some.inj h
    exact R_iret rfl (dd dt_12_worth 16 rfl) hQ
  · rw [if_neg hc] at h
    refine R_aload_n (dd dt_12_worth 5 rfl) 0 rfl rfl ?_
    refine R_iload_n (dd dt_12_worth 6 rfl) 2 rfl rfl ?_
    refine R_bipush (v := 9) (dd dt_12_worth 7 rfl) bp_9 ?_
    obtain ⟨x4, e3, h⟩ := bi_el h
    refine c_12_84 (As := [.int a2, .int 9]) (st1 := [.int x4]) rfl (fun Q1 hq => ok_12_is e3 k0 hq) k0 rfl rfl (Nat.le_of_ble_eq_true rfl) (dd dt_12_worth 8 rfl) rfl ?_
    refine R_ifeq (dd dt_12_worth 9 rfl) (tgt := 30) rfl (fun hc => ?_) (fun hc => ?_)
    · rw [if_pos hc] at h
      refine R_iconst (v := (-1)) (dd dt_12_worth 15 rfl) ic_m1 ?_
      obtain rfl := Option.some.inj h
      exact R_iret rfl (dd dt_12_worth 16 rfl) hQ
    · rw [if_neg hc] at h
      refine R_iload_n (dd dt_12_worth 10 rfl) 3 rfl rfl ?_
      refine R_iconst (v := 0) (dd dt_12_worth 11 rfl) ic_0 ?_
      refine R_bipush (v := 99) (dd dt_12_worth 12 rfl) bp_99 ?_
      obtain ⟨x6, e5, h⟩ := bi_el h
      refine c_12_80 (As := [.int a3, .int 0, .int 99]) (st1 := [.int x6]) rfl (fun Q1 hq => ok_12_within e5 hq) rfl rfl (Nat.le_of_ble_eq_true rfl) (dd dt_12_worth 13 rfl) rfl ?_
      refine R_ifne (dd dt_12_worth 14 rfl) (tgt := 32) rfl (fun hc => ?_) (fun hc => ?_)
      · rw [if_neg hc] at h
        refine R_sipush (v := 867) (dd dt_12_worth 17 rfl) sp_867 ?_
        refine R_iconst (v := 5) (dd dt_12_worth 18 rfl) ic_5 ?_
        refine R_iload_n (dd dt_12_worth 19 rfl) 1 rfl rfl ?_
        refine R_imul (dd dt_12_worth 20 rfl) ?_
        refine R_iadd (dd dt_12_worth 21 rfl) ?_
        refine R_iconst (v := 1) (dd dt_12_worth 22 rfl) ic_1 ?_
        refine R_iadd (dd dt_12_worth 23 rfl) ?_
        refine R_iload_n (dd dt_12_worth 24 rfl) 2 rfl rfl ?_
        refine R_iadd (dd dt_12_worth 25 rfl) ?_
        refine R_istore (lv' := [some (.ref a0), some (.int a1), some (.int a2), some (.int a3), some (.int (((867 + (5 * a1)) + 1) + a2)), none]) (dd dt_12_worth 26 rfl) (by decide) rfl rfl ?_
        refine R_aload_n (dd dt_12_worth 27 rfl) 0 rfl rfl ?_
        refine g_12_9 rfl k0 (dd dt_12_worth 28 rfl) ?_
        refine R_iload (dd dt_12_worth 29 rfl) rfl ?_
        obtain ⟨x7, e8, h⟩ := bi_el h
        refine R_ild e8 (ty_12_0 k0) (dd dt_12_worth 30 rfl) ?_
        refine R_istore (lv' := [some (.ref a0), some (.int a1), some (.int a2), some (.int a3), some (.int (((867 + (5 * a1)) + 1) + a2)), some (.int x7)]) (dd dt_12_worth 31 rfl) (by decide) rfl rfl ?_
        refine R_aload_n (dd dt_12_worth 32 rfl) 0 rfl rfl ?_
        refine g_12_9 rfl k0 (dd dt_12_worth 33 rfl) ?_
        refine R_iload (dd dt_12_worth 34 rfl) rfl ?_
        refine R_iload_n (dd dt_12_worth 35 rfl) 3 rfl rfl ?_
        obtain ⟨μ9, e10, h⟩ := bi_el h
        refine R_isto e10 (ty_12_0 k0) (dd dt_12_worth 36 rfl) ?_
        refine R_iload (dd dt_12_worth 37 rfl) rfl ?_
        obtain rfl := Option.some.inj h
        exact R_iret rfl (dd dt_12_worth 38 rfl) hQ
      · rw [if_pos hc] at h
        refine R_iconst (v := (-1)) (dd dt_12_worth 15 rfl) ic_m1 ?_
        obtain rfl := Option.some.inj h
        exact R_iret rfl (dd dt_12_worth 16 rfl) hQ
/-! LongStrikeModel.sumOf(II)I -/
def tab_12_sumOf : List (Nat × Instr × Nat) := [(0, .iconst 0, 1), (1, .istore_n 3, 1), (2, .iconst 0, 1), (3, .istore 4, 2), (5, .iload 4, 2), (7, .aload_n 0, 1), (8, .getfield 9, 3), (11, .bipush 17, 2), (13, .iaload, 1), (14, .if_icmp .ge 41, 3), (17, .iload_n 3, 1), (18, .iload_n 1, 1), (19, .iload 4, 2), (21, .ishr, 1), (22, .iconst 1, 1), (23, .iand, 1), (24, .iconst 1, 1), (25, .if_icmp .ne 21, 3), (28, .aload_n 0, 1), (29, .getfield 9, 3), (32, .sipush 867, 3), (35, .iconst 5, 1), (36, .iload 4, 2), (38, .imul, 1), (39, .iadd, 1), (40, .iload_n 2, 1), (41, .iadd, 1), (42, .iaload, 1), (43, .goto 4, 3), (46, .iconst 0, 1), (47, .iadd, 1), (48, .istore_n 3, 1), (49, .iinc 4 1, 3), (52, .goto (-47), 3), (55, .iload_n 3, 1), (56, .ireturn, 1)]
set_option maxRecDepth 100000 in
theorem dt_12_sumOf : ∀ q ∈ tab_12_sumOf, decode m_12_sumOf.2.1 q.1 = .ok q.2 := by decide +kernel
def f_12_sumOf_l5 (a0 : Nat) (a1 : Int32) (a2 : Int32) (μ : mm) : Nat → Int32 → Int32 → Option (Int32)
  | 0, _, _ => none
  | n + 1, v3, v4 => (ld μ (rf a0 0) 17).bind fun x1 =>
    if x1 ≤ v4 then
      some v3
    else
      if ((a1 >>> (v4 &&& 31)) &&& 1) = 1 then
        (ld μ (rf a0 0) ((867 + (5 * v4)) + a2)).bind fun x3 =>
        f_12_sumOf_l5 a0 a1 a2 μ n (v3 + x3) (v4 + 1)
      else
        f_12_sumOf_l5 a0 a1 a2 μ n (v3 + 0) (v4 + 1)
set_option maxRecDepth 100000 in
theorem ok_12_sumOf_l5 {l : Launch} {E : ce} {d : Nat} {Q : Option Value → mm → Prop} (a0 : Nat) (a1 : Int32) (a2 : Int32) (μ : mm) (k0 : kd a0 = 12) : ∀ (n : Nat) (v3 : Int32) (v4 : Int32) (z : Int32), f_12_sumOf_l5 a0 a1 a2 μ n v3 v4 = some z → Rj l E d m_12_sumOf 55 [none, none, none, some (.int z), none] [] μ Q → Rj l E d m_12_sumOf 5 [some (.ref a0), some (.int a1), some (.int a2), some (.int v3), some (.int v4)] [] μ Q
  | 0, _, _, z, h, _ => by
    rw [f_12_sumOf_l5] at h
    cases h
  | n + 1, v3, v4, z, h, KX => by
    rw [f_12_sumOf_l5] at h
    refine R_iload (dd dt_12_sumOf 4 rfl) rfl ?_
    refine R_aload_n (dd dt_12_sumOf 5 rfl) 0 rfl rfl ?_
    refine g_12_9 rfl k0 (dd dt_12_sumOf 6 rfl) ?_
    refine R_bipush (v := 17) (dd dt_12_sumOf 7 rfl) bp_17 ?_
    obtain ⟨x1, e2, h⟩ := bi_el h
    refine R_ild e2 (ty_12_0 k0) (dd dt_12_sumOf 8 rfl) ?_
    refine R_cmpge (dd dt_12_sumOf 9 rfl) (tgt := 55) rfl (fun hc => ?_) (fun hc => ?_)
    · rw [if_pos hc] at h
      obtain rfl := Option.some.inj h
      exact R_mask [false, false, false, true, false] rfl KX
    · rw [if_neg hc] at h
      refine R_iload_n (dd dt_12_sumOf 10 rfl) 3 rfl rfl ?_
      refine R_iload_n (dd dt_12_sumOf 11 rfl) 1 rfl rfl ?_
      refine R_iload (dd dt_12_sumOf 12 rfl) rfl ?_
      refine R_ishr (dd dt_12_sumOf 13 rfl) ?_
      refine R_iconst (v := 1) (dd dt_12_sumOf 14 rfl) ic_1 ?_
      refine R_iand (dd dt_12_sumOf 15 rfl) ?_
      refine R_iconst (v := 1) (dd dt_12_sumOf 16 rfl) ic_1 ?_
      refine R_cmpne (dd dt_12_sumOf 17 rfl) (tgt := 46) rfl (fun hc => ?_) (fun hc => ?_)
      · rw [if_neg hc] at h
        refine R_iconst (v := 0) (dd dt_12_sumOf 29 rfl) ic_0 ?_
        refine R_iadd (dd dt_12_sumOf 30 rfl) ?_
        refine R_istore_n (lv' := [some (.ref a0), some (.int a1), some (.int a2), some (.int (v3 + 0)), some (.int v4)]) (dd dt_12_sumOf 31 rfl) 3 rfl (by decide) rfl rfl ?_
        refine R_iinc (v := 1) (lv' := [some (.ref a0), some (.int a1), some (.int a2), some (.int (v3 + 0)), some (.int (v4 + 1))]) (dd dt_12_sumOf 32 rfl) (by decide) rfl rfl ic_1 rfl ?_
        refine R_goto (dd dt_12_sumOf 33 rfl) (tgt := 5) rfl ?_
        exact R_mask [true, true, true, true, true] rfl (ok_12_sumOf_l5 a0 a1 a2 μ k0 n (v3 + 0) (v4 + 1) _ h KX)
      · rw [if_pos hc] at h
        refine R_aload_n (dd dt_12_sumOf 18 rfl) 0 rfl rfl ?_
        refine g_12_9 rfl k0 (dd dt_12_sumOf 19 rfl) ?_
        refine R_sipush (v := 867) (dd dt_12_sumOf 20 rfl) sp_867 ?_
        refine R_iconst (v := 5) (dd dt_12_sumOf 21 rfl) ic_5 ?_
        refine R_iload (dd dt_12_sumOf 22 rfl) rfl ?_
        refine R_imul (dd dt_12_sumOf 23 rfl) ?_
        refine R_iadd (dd dt_12_sumOf 24 rfl) ?_
        refine R_iload_n (dd dt_12_sumOf 25 rfl) 2 rfl rfl ?_
        refine R_iadd (dd dt_12_sumOf 26 rfl) ?_
        obtain ⟨x3, e4, h⟩ := bi_el h
        refine R_ild e4 (ty_12_0 k0) (dd dt_12_sumOf 27 rfl) ?_
        refine R_goto (dd dt_12_sumOf 28 rfl) (tgt := 47) rfl ?_
        refine R_iadd (dd dt_12_sumOf 30 rfl) ?_
        refine R_istore_n (lv' := [some (.ref a0), some (.int a1), some (.int a2), some (.int (v3 + x3)), some (.int v4)]) (dd dt_12_sumOf 31 rfl) 3 rfl (by decide) rfl rfl ?_
        refine R_iinc (v := 1) (lv' := [some (.ref a0), some (.int a1), some (.int a2), some (.int (v3 + x3)), some (.int (v4 + 1))]) (dd dt_12_sumOf 32 rfl) (by decide) rfl rfl ic_1 rfl ?_
        refine R_goto (dd dt_12_sumOf 33 rfl) (tgt := 5) rfl ?_
        exact R_mask [true, true, true, true, true] rfl (ok_12_sumOf_l5 a0 a1 a2 μ k0 n (v3 + x3) (v4 + 1) _ h KX)
def f_12_sumOf (a0 : Nat) (a1 : Int32) (a2 : Int32) (μ : mm) : Option (Int32) :=
  (f_12_sumOf_l5 a0 a1 a2 μ FU 0 0).bind fun z1 =>
  some z1
set_option maxRecDepth 100000 in
set_option maxHeartbeats 4000000 in
theorem ok_12_sumOf {l : Launch} {E : ce} {d : Nat}  {a0 : Nat} {a1 : Int32} {a2 : Int32} {μ : mm} {r : Int32} {Q : Option Value → mm → Prop} (h : f_12_sumOf a0 a1 a2 μ = some r) (k0 : kd a0 = 12) (hQ : Q (some (.int r)) μ) : Ct l E d yX12_sumOf m_12_sumOf [.ref a0, .int a1, .int a2] μ Q := by
  refine Ct_of (lv := [some (.ref a0), some (.int a1), some (.int a2), none, none]) (by decide) rfl (Nat.le_of_ble_eq_true rfl) rfl ?_
  unfold f_12_sumOf at h
  refine R_iconst (v := 0) (dd dt_12_sumOf 0 rfl) ic_0 ?_
  refine R_istore_n (lv' := [some (.ref a0), some (.int a1), some (.int a2), some (.int 0), none]) (dd dt_12_sumOf 1 rfl) 3 rfl (by decide) rfl rfl ?_
  refine R_iconst (v := 0) (dd dt_12_sumOf 2 rfl) ic_0 ?_
  refine R_istore (lv' := [some (.ref a0), some (.int a1), some (.int a2), some (.int 0), some (.int 0)]) (dd dt_12_sumOf 3 rfl) (by decide) rfl rfl ?_
  obtain ⟨z1, e2, h⟩ := bi_el h
  refine R_mask [true, true, true, true, true] rfl (ok_12_sumOf_l5 a0 a1 a2 μ k0 FU 0 0 _ e2 ?_)
  refine R_iload_n (dd dt_12_sumOf 34 rfl) 3 rfl rfl ?_
  obtain rfl := Option.some.inj h
  exact R_iret rfl (dd dt_12_sumOf 35 rfl) hQ
/-! LongStrikeModel.contentBy(I)I -/
def tab_12_contentBy : List (Nat × Instr × Nat) := [(0, .iconst 0, 1), (1, .istore_n 2, 1), (2, .iconst 0, 1), (3, .istore_n 3, 1), (4, .iload_n 3, 1), (5, .aload_n 0, 1), (6, .getfield 9, 3), (9, .bipush 9, 2), (11, .iaload, 1), (12, .if_icmp .ge 41, 3), (15, .iload_n 2, 1), (16, .aload_n 0, 1), (17, .iload_n 1, 1), (18, .iconst 1, 1), (19, .iload_n 3, 1), (20, .iadd, 1), (21, .invokevirtual 289, 3), (24, .aload_n 0, 1), (25, .getfield 9, 3), (28, .iload_n 3, 1), (29, .bipush 6, 2), (31, .invokestatic 92, 3), (34, .iaload, 1), (35, .if_icmp .lt 9, 3), (38, .iconst 1, 1), (39, .iload_n 3, 1), (40, .ishl, 1), (41, .goto 4, 3), (44, .iconst 0, 1), (45, .ior, 1), (46, .istore_n 2, 1), (47, .iinc 3 1, 3), (50, .goto (-46), 3), (53, .iload_n 2, 1), (54, .ireturn, 1)]
set_option maxRecDepth 100000 in
theorem dt_12_contentBy : ∀ q ∈ tab_12_contentBy, decode m_12_contentBy.2.1 q.1 = .ok q.2 := by decide +kernel
def f_12_contentBy_l4 (a0 : Nat) (a1 : Int32) (μ : mm) : Nat → Int32 → Int32 → Option (Int32)
  | 0, _, _ => none
  | n + 1, v2, v3 => (ld μ (rf a0 0) 9).bind fun x1 =>
    if x1 ≤ v3 then
      some v2
    else
      (f_12_sumOf a0 a1 (1 + v3) μ).bind fun x4 =>
      (f_12_ofPit v3 6 μ).bind fun x6 =>
      (ld μ (rf a0 0) x6).bind fun x7 =>
      if x4 < x7 then
        f_12_contentBy_l4 a0 a1 μ n (v2 ||| 0) (v3 + 1)
      else
        f_12_contentBy_l4 a0 a1 μ n (v2 ||| (1 <<< (v3 &&& 31))) (v3 + 1)
set_option maxRecDepth 100000 in
theorem ok_12_contentBy_l4 {l : Launch} {E : ce} {d : Nat} {Q : Option Value → mm → Prop} (a0 : Nat) (a1 : Int32) (μ : mm) (k0 : kd a0 = 12) : ∀ (n : Nat) (v2 : Int32) (v3 : Int32) (z : Int32), f_12_contentBy_l4 a0 a1 μ n v2 v3 = some z → Rj l E (d + 1) m_12_contentBy 53 [none, none, some (.int z), none] [] μ Q → Rj l E (d + 1) m_12_contentBy 4 [some (.ref a0), some (.int a1), some (.int v2), some (.int v3)] [] μ Q
  | 0, _, _, z, h, _ => by
    rw [f_12_contentBy_l4] at h
    cases h
  | n + 1, v2, v3, z, h, KX => by
    rw [f_12_contentBy_l4] at h
    refine R_iload_n (dd dt_12_contentBy 4 rfl) 3 rfl rfl ?_
    refine R_aload_n (dd dt_12_contentBy 5 rfl) 0 rfl rfl ?_
    refine g_12_9 rfl k0 (dd dt_12_contentBy 6 rfl) ?_
    refine R_bipush (v := 9) (dd dt_12_contentBy 7 rfl) bp_9 ?_
    obtain ⟨x1, e2, h⟩ := bi_el h
    refine R_ild e2 (ty_12_0 k0) (dd dt_12_contentBy 8 rfl) ?_
    refine R_cmpge (dd dt_12_contentBy 9 rfl) (tgt := 53) rfl (fun hc => ?_) (fun hc => ?_)
    · rw [if_pos hc] at h
      obtain rfl := Option.some.inj h
      exact R_mask [false, false, true, false] rfl KX
    · rw [if_neg hc] at h
      refine R_iload_n (dd dt_12_contentBy 10 rfl) 2 rfl rfl ?_
      refine R_aload_n (dd dt_12_contentBy 11 rfl) 0 rfl rfl ?_
      refine R_iload_n (dd dt_12_contentBy 12 rfl) 1 rfl rfl ?_
      refine R_iconst (v := 1) (dd dt_12_contentBy 13 rfl) ic_1 ?_
      refine R_iload_n (dd dt_12_contentBy 14 rfl) 3 rfl rfl ?_
      refine R_iadd (dd dt_12_contentBy 15 rfl) ?_
      obtain ⟨x4, e3, h⟩ := bi_el h
      refine c_12_289 (As := [.int a1, .int (1 + v3)]) (st1 := [.int x4, .int v2]) rfl (fun Q1 hq => ok_12_sumOf e3 k0 hq) k0 rfl rfl (Nat.le_of_ble_eq_true rfl) (dd dt_12_contentBy 16 rfl) rfl ?_
      refine R_aload_n (dd dt_12_contentBy 17 rfl) 0 rfl rfl ?_
      refine g_12_9 rfl k0 (dd dt_12_contentBy 18 rfl) ?_
      refine R_iload_n (dd dt_12_contentBy 19 rfl) 3 rfl rfl ?_
      refine R_bipush (v := 6) (dd dt_12_contentBy 20 rfl) bp_6 ?_
      obtain ⟨x6, e5, h⟩ := bi_el h
      refine c_12_92 (As := [.int v3, .int 6]) (st1 := [.int x6, .ref (rf a0 0), .int x4, .int v2]) rfl (fun Q1 hq => ok_12_ofPit e5 hq) rfl rfl (Nat.le_of_ble_eq_true rfl) (dd dt_12_contentBy 21 rfl) rfl ?_
      obtain ⟨x7, e8, h⟩ := bi_el h
      refine R_ild e8 (ty_12_0 k0) (dd dt_12_contentBy 22 rfl) ?_
      refine R_cmplt (dd dt_12_contentBy 23 rfl) (tgt := 44) rfl (fun hc => ?_) (fun hc => ?_)
      · rw [if_pos hc] at h
        refine R_iconst (v := 0) (dd dt_12_contentBy 28 rfl) ic_0 ?_
        refine R_ior (dd dt_12_contentBy 29 rfl) ?_
        refine R_istore_n (lv' := [some (.ref a0), some (.int a1), some (.int (v2 ||| 0)), some (.int v3)]) (dd dt_12_contentBy 30 rfl) 2 rfl (by decide) rfl rfl ?_
        refine R_iinc (v := 1) (lv' := [some (.ref a0), some (.int a1), some (.int (v2 ||| 0)), some (.int (v3 + 1))]) (dd dt_12_contentBy 31 rfl) (by decide) rfl rfl ic_1 rfl ?_
        refine R_goto (dd dt_12_contentBy 32 rfl) (tgt := 4) rfl ?_
        exact R_mask [true, true, true, true] rfl (ok_12_contentBy_l4 a0 a1 μ k0 n (v2 ||| 0) (v3 + 1) _ h KX)
      · rw [if_neg hc] at h
        refine R_iconst (v := 1) (dd dt_12_contentBy 24 rfl) ic_1 ?_
        refine R_iload_n (dd dt_12_contentBy 25 rfl) 3 rfl rfl ?_
        refine R_ishl (dd dt_12_contentBy 26 rfl) ?_
        refine R_goto (dd dt_12_contentBy 27 rfl) (tgt := 45) rfl ?_
        refine R_ior (dd dt_12_contentBy 29 rfl) ?_
        refine R_istore_n (lv' := [some (.ref a0), some (.int a1), some (.int (v2 ||| (1 <<< (v3 &&& 31)))), some (.int v3)]) (dd dt_12_contentBy 30 rfl) 2 rfl (by decide) rfl rfl ?_
        refine R_iinc (v := 1) (lv' := [some (.ref a0), some (.int a1), some (.int (v2 ||| (1 <<< (v3 &&& 31)))), some (.int (v3 + 1))]) (dd dt_12_contentBy 31 rfl) (by decide) rfl rfl ic_1 rfl ?_
        refine R_goto (dd dt_12_contentBy 32 rfl) (tgt := 4) rfl ?_
        exact R_mask [true, true, true, true] rfl (ok_12_contentBy_l4 a0 a1 μ k0 n (v2 ||| (1 <<< (v3 &&& 31))) (v3 + 1) _ h KX)
def f_12_contentBy (a0 : Nat) (a1 : Int32) (μ : mm) : Option (Int32) :=
  (f_12_contentBy_l4 a0 a1 μ FU 0 0).bind fun z1 =>
  some z1
set_option maxRecDepth 100000 in
set_option maxHeartbeats 4000000 in
theorem ok_12_contentBy {l : Launch} {E : ce} {d : Nat}  {a0 : Nat} {a1 : Int32} {μ : mm} {r : Int32} {Q : Option Value → mm → Prop} (h : f_12_contentBy a0 a1 μ = some r) (k0 : kd a0 = 12) (hQ : Q (some (.int r)) μ) : Ct l E (d + 1) yX12_contentBy m_12_contentBy [.ref a0, .int a1] μ Q := by
  refine Ct_of (lv := [some (.ref a0), some (.int a1), none, none]) (by decide) rfl (Nat.le_of_ble_eq_true rfl) rfl ?_
  unfold f_12_contentBy at h
  refine R_iconst (v := 0) (dd dt_12_contentBy 0 rfl) ic_0 ?_
  refine R_istore_n (lv' := [some (.ref a0), some (.int a1), some (.int 0), none]) (dd dt_12_contentBy 1 rfl) 2 rfl (by decide) rfl rfl ?_
  refine R_iconst (v := 0) (dd dt_12_contentBy 2 rfl) ic_0 ?_
  refine R_istore_n (lv' := [some (.ref a0), some (.int a1), some (.int 0), some (.int 0)]) (dd dt_12_contentBy 3 rfl) 3 rfl (by decide) rfl rfl ?_
  obtain ⟨z1, e2, h⟩ := bi_el h
  refine R_mask [true, true, true, true] rfl (ok_12_contentBy_l4 a0 a1 μ k0 FU 0 0 _ e2 ?_)
  refine R_iload_n (dd dt_12_contentBy 33 rfl) 2 rfl rfl ?_
  obtain rfl := Option.some.inj h
  exact R_iret rfl (dd dt_12_contentBy 34 rfl) hQ
/-! LongStrikeModel.say(IZ)I -/
def tab_12_say : List (Nat × Instr × Nat) := [(0, .iconst 0, 1), (1, .istore_n 3, 1), (2, .iconst 0, 1), (3, .istore 4, 2), (5, .iload 4, 2), (7, .aload_n 0, 1), (8, .getfield 9, 3), (11, .bipush 11, 2), (13, .iaload, 1), (14, .if_icmp .ge 88, 3), (17, .aload_n 0, 1), (18, .iload 4, 2), (20, .iconst 5, 1), (21, .invokevirtual 98, 3), (24, .istore 5, 2), (26, .iload 5, 2), (28, .bipush 10, 2), (30, .if_icmp .lt 25, 3), (33, .iload 5, 2), (35, .bipush 90, 2), (37, .if_icmp .gt 22, 3), (40, .iload_n 1, 1), (41, .aload_n 0, 1), (42, .iload 4, 2), (44, .iconst 1, 1), (45, .invokevirtual 98, 3), (48, .ishr, 1), (49, .iconst 1, 1), (50, .iand, 1), (51, .iconst 1, 1), (52, .if_icmp .ne 7, 3), (55, .iconst 1, 1), (56, .goto 4, 3), (59, .iconst 0, 1), (60, .istore 6, 2), (62, .iload_n 3, 1), (63, .aload_n 0, 1), (64, .iload 4, 2), (66, .bipush 10, 2), (68, .invokevirtual 98, 3), (71, .ifCond .ne 22, 3), (74, .aload_n 0, 1), (75, .iload 4, 2), (77, .invokevirtual 111, 3), (80, .ifCond .eq 13, 3), (83, .iload 6, 2), (85, .iload_n 2, 1), (86, .if_icmp .ne 7, 3), (89, .iconst 1, 1), (90, .goto 4, 3), (93, .iconst 0, 1), (94, .iadd, 1), (95, .istore_n 3, 1), (96, .iinc 4 1, 3), (99, .goto (-94), 3), (102, .iload_n 3, 1), (103, .ireturn, 1)]
set_option maxRecDepth 100000 in
theorem dt_12_say : ∀ q ∈ tab_12_say, decode m_12_say.2.1 q.1 = .ok q.2 := by decide +kernel
def f_12_say_l5 (a0 : Nat) (a1 : Int32) (a2 : Int32) : Nat → Int32 → Int32 → mm → Option (Int32 × mm)
  | 0, _, _, _ => none
  | n + 1, v3, v4, μ => (ld μ (rf a0 0) 11).bind fun x1 =>
    if x1 ≤ v4 then
      some (v3, μ)
    else
      (f_12_house a0 v4 5 μ).bind fun x4 =>
      (if x4 < 10 then
          some 1
        else
          if 90 < x4 then
            some 0
          else
            (f_12_house a0 v4 1 μ).bind fun x6 =>
            if ((a1 >>> (x6 &&& 31)) &&& 1) = 1 then
              some 1
            else
              some 0).bind fun (z7 : Int32) =>
      (f_12_house a0 v4 10 μ).bind fun x9 =>
      if x9 = 0 then
        (f_12_mayVote a0 v4 μ).bind fun z11 =>
        if z11.1 = 0 then
          f_12_say_l5 a0 a1 a2 n (v3 + 0) (v4 + 1) z11.2
        else
          if z7 = a2 then
            f_12_say_l5 a0 a1 a2 n (v3 + 1) (v4 + 1) z11.2
          else
            f_12_say_l5 a0 a1 a2 n (v3 + 0) (v4 + 1) z11.2
      else
        f_12_say_l5 a0 a1 a2 n (v3 + 0) (v4 + 1) μ
set_option maxRecDepth 100000 in
theorem ok_12_say_l5 {l : Launch} {E : ce} {d : Nat} {Q : Option Value → mm → Prop} (a0 : Nat) (a1 : Int32) (a2 : Int32) (k0 : kd a0 = 12) : ∀ (n : Nat) (v3 : Int32) (v4 : Int32) (μ : mm) (z : Int32 × mm), f_12_say_l5 a0 a1 a2 n v3 v4 μ = some z → Rj l E (d + 4) m_12_say 102 [none, none, none, some (.int z.1), none, none, none] [] z.2 Q → Rj l E (d + 4) m_12_say 5 [some (.ref a0), some (.int a1), some (.int a2), some (.int v3), some (.int v4), none, none] [] μ Q
  | 0, _, _, _, z, h, _ => by
    rw [f_12_say_l5] at h
    cases h
  | n + 1, v3, v4, μ, z, h, KX => by
    rw [f_12_say_l5] at h
    refine R_iload (dd dt_12_say 4 rfl) rfl ?_
    refine R_aload_n (dd dt_12_say 5 rfl) 0 rfl rfl ?_
    refine g_12_9 rfl k0 (dd dt_12_say 6 rfl) ?_
    refine R_bipush (v := 11) (dd dt_12_say 7 rfl) bp_11 ?_
    obtain ⟨x1, e2, h⟩ := bi_el h
    refine R_ild e2 (ty_12_0 k0) (dd dt_12_say 8 rfl) ?_
    refine R_cmpge (dd dt_12_say 9 rfl) (tgt := 102) rfl (fun hc => ?_) (fun hc => ?_)
    · rw [if_pos hc] at h
      obtain rfl := Option.some.inj h
      exact R_mask [false, false, false, true, false, false, false] rfl KX
    · rw [if_neg hc] at h
      refine R_aload_n (dd dt_12_say 10 rfl) 0 rfl rfl ?_
      refine R_iload (dd dt_12_say 11 rfl) rfl ?_
      refine R_iconst (v := 5) (dd dt_12_say 12 rfl) ic_5 ?_
      obtain ⟨x4, e3, h⟩ := bi_el h
      refine c_12_98 (As := [.int v4, .int 5]) (st1 := [.int x4]) rfl (fun Q1 hq => ok_12_house e3 k0 hq) k0 rfl rfl (Nat.le_of_ble_eq_true rfl) (dd dt_12_say 13 rfl) rfl ?_
      refine R_istore (lv' := [some (.ref a0), some (.int a1), some (.int a2), some (.int v3), some (.int v4), some (.int x4), none]) (dd dt_12_say 14 rfl) (by decide) rfl rfl ?_
      refine R_iload (dd dt_12_say 15 rfl) rfl ?_
      refine R_bipush (v := 10) (dd dt_12_say 16 rfl) bp_10 ?_
      obtain ⟨z7, hz7, h⟩ := bi_el h
      have K7 : Rj l E (d + 4) m_12_say 60 [some (.ref a0), some (.int a1), some (.int a2), some (.int v3), some (.int v4), none, none] [.int z7] μ Q := by
        clear hz7
        refine R_istore (lv' := [some (.ref a0), some (.int a1), some (.int a2), some (.int v3), some (.int v4), none, some (.int z7)]) (dd dt_12_say 34 rfl) (by decide) rfl rfl ?_
        refine R_iload_n (dd dt_12_say 35 rfl) 3 rfl rfl ?_
        refine R_aload_n (dd dt_12_say 36 rfl) 0 rfl rfl ?_
        refine R_iload (dd dt_12_say 37 rfl) rfl ?_
        refine R_bipush (v := 10) (dd dt_12_say 38 rfl) bp_10 ?_
        obtain ⟨x9, e8, h⟩ := bi_el h
        refine c_12_98 (As := [.int v4, .int 10]) (st1 := [.int x9, .int v3]) rfl (fun Q1 hq => ok_12_house e8 k0 hq) k0 rfl rfl (Nat.le_of_ble_eq_true rfl) (dd dt_12_say 39 rfl) rfl ?_
        refine R_ifne (dd dt_12_say 40 rfl) (tgt := 93) rfl (fun hc => ?_) (fun hc => ?_)
        · rw [if_neg hc] at h
          refine R_iconst (v := 0) (dd dt_12_say 50 rfl) ic_0 ?_
          refine R_iadd (dd dt_12_say 51 rfl) ?_
          refine R_istore_n (lv' := [some (.ref a0), some (.int a1), some (.int a2), some (.int (v3 + 0)), some (.int v4), none, some (.int z7)]) (dd dt_12_say 52 rfl) 3 rfl (by decide) rfl rfl ?_
          refine R_iinc (v := 1) (lv' := [some (.ref a0), some (.int a1), some (.int a2), some (.int (v3 + 0)), some (.int (v4 + 1)), none, some (.int z7)]) (dd dt_12_say 53 rfl) (by decide) rfl rfl ic_1 rfl ?_
          refine R_goto (dd dt_12_say 54 rfl) (tgt := 5) rfl ?_
          exact R_mask [true, true, true, true, true, false, false] rfl (ok_12_say_l5 a0 a1 a2 k0 n (v3 + 0) (v4 + 1) μ _ h KX)
        · rw [if_pos hc] at h
          refine R_aload_n (dd dt_12_say 41 rfl) 0 rfl rfl ?_
          refine R_iload (dd dt_12_say 42 rfl) rfl ?_
          obtain ⟨z11, e10, h⟩ := bi_el h
          refine c_12_111 (As := [.int v4]) (st1 := [.int z11.1, .int v3]) rfl (fun Q1 hq => ok_12_mayVote e10 k0 hq) k0 rfl rfl (Nat.le_of_ble_eq_true rfl) (dd dt_12_say 43 rfl) rfl ?_
          refine R_ifeq (dd dt_12_say 44 rfl) (tgt := 93) rfl (fun hc => ?_) (fun hc => ?_)
          · rw [if_pos hc] at h
            refine R_iconst (v := 0) (dd dt_12_say 50 rfl) ic_0 ?_
            refine R_iadd (dd dt_12_say 51 rfl) ?_
            refine R_istore_n (lv' := [some (.ref a0), some (.int a1), some (.int a2), some (.int (v3 + 0)), some (.int v4), none, some (.int z7)]) (dd dt_12_say 52 rfl) 3 rfl (by decide) rfl rfl ?_
            refine R_iinc (v := 1) (lv' := [some (.ref a0), some (.int a1), some (.int a2), some (.int (v3 + 0)), some (.int (v4 + 1)), none, some (.int z7)]) (dd dt_12_say 53 rfl) (by decide) rfl rfl ic_1 rfl ?_
            refine R_goto (dd dt_12_say 54 rfl) (tgt := 5) rfl ?_
            exact R_mask [true, true, true, true, true, false, false] rfl (ok_12_say_l5 a0 a1 a2 k0 n (v3 + 0) (v4 + 1) z11.2 _ h KX)
          · rw [if_neg hc] at h
            refine R_iload (dd dt_12_say 45 rfl) rfl ?_
            refine R_iload_n (dd dt_12_say 46 rfl) 2 rfl rfl ?_
            refine R_cmpne (dd dt_12_say 47 rfl) (tgt := 93) rfl (fun hc => ?_) (fun hc => ?_)
            · rw [if_neg hc] at h
              refine R_iconst (v := 0) (dd dt_12_say 50 rfl) ic_0 ?_
              refine R_iadd (dd dt_12_say 51 rfl) ?_
              refine R_istore_n (lv' := [some (.ref a0), some (.int a1), some (.int a2), some (.int (v3 + 0)), some (.int v4), none, some (.int z7)]) (dd dt_12_say 52 rfl) 3 rfl (by decide) rfl rfl ?_
              refine R_iinc (v := 1) (lv' := [some (.ref a0), some (.int a1), some (.int a2), some (.int (v3 + 0)), some (.int (v4 + 1)), none, some (.int z7)]) (dd dt_12_say 53 rfl) (by decide) rfl rfl ic_1 rfl ?_
              refine R_goto (dd dt_12_say 54 rfl) (tgt := 5) rfl ?_
              exact R_mask [true, true, true, true, true, false, false] rfl (ok_12_say_l5 a0 a1 a2 k0 n (v3 + 0) (v4 + 1) z11.2 _ h KX)
            · rw [if_pos hc] at h
              refine R_iconst (v := 1) (dd dt_12_say 48 rfl) ic_1 ?_
              refine R_goto (dd dt_12_say 49 rfl) (tgt := 94) rfl ?_
              refine R_iadd (dd dt_12_say 51 rfl) ?_
              refine R_istore_n (lv' := [some (.ref a0), some (.int a1), some (.int a2), some (.int (v3 + 1)), some (.int v4), none, some (.int z7)]) (dd dt_12_say 52 rfl) 3 rfl (by decide) rfl rfl ?_
              refine R_iinc (v := 1) (lv' := [some (.ref a0), some (.int a1), some (.int a2), some (.int (v3 + 1)), some (.int (v4 + 1)), none, some (.int z7)]) (dd dt_12_say 53 rfl) (by decide) rfl rfl ic_1 rfl ?_
              refine R_goto (dd dt_12_say 54 rfl) (tgt := 5) rfl ?_
              exact R_mask [true, true, true, true, true, false, false] rfl (ok_12_say_l5 a0 a1 a2 k0 n (v3 + 1) (v4 + 1) z11.2 _ h KX)
      clear h
      have h := hz7
      clear hz7
      refine R_cmplt (dd dt_12_say 17 rfl) (tgt := 55) rfl (fun hc => ?_) (fun hc => ?_)
      · rw [if_pos hc] at h
        refine R_iconst (v := 1) (dd dt_12_say 31 rfl) ic_1 ?_
        refine R_goto (dd dt_12_say 32 rfl) (tgt := 60) rfl ?_
        obtain rfl := Option.some.inj h
        exact R_mask [true, true, true, true, true, false, false] rfl K7
      · rw [if_neg hc] at h
        refine R_iload (dd dt_12_say 18 rfl) rfl ?_
        refine R_bipush (v := 90) (dd dt_12_say 19 rfl) bp_90 ?_
        refine R_cmpgt (dd dt_12_say 20 rfl) (tgt := 59) rfl (fun hc => ?_) (fun hc => ?_)
        · rw [if_pos hc] at h
          refine R_iconst (v := 0) (dd dt_12_say 33 rfl) ic_0 ?_
          obtain rfl := Option.some.inj h
          exact R_mask [true, true, true, true, true, false, false] rfl K7
        · rw [if_neg hc] at h
          refine R_iload_n (dd dt_12_say 21 rfl) 1 rfl rfl ?_
          refine R_aload_n (dd dt_12_say 22 rfl) 0 rfl rfl ?_
          refine R_iload (dd dt_12_say 23 rfl) rfl ?_
          refine R_iconst (v := 1) (dd dt_12_say 24 rfl) ic_1 ?_
          obtain ⟨x6, e5, h⟩ := bi_el h
          refine c_12_98 (As := [.int v4, .int 1]) (st1 := [.int x6, .int a1]) rfl (fun Q1 hq => ok_12_house e5 k0 hq) k0 rfl rfl (Nat.le_of_ble_eq_true rfl) (dd dt_12_say 25 rfl) rfl ?_
          refine R_ishr (dd dt_12_say 26 rfl) ?_
          refine R_iconst (v := 1) (dd dt_12_say 27 rfl) ic_1 ?_
          refine R_iand (dd dt_12_say 28 rfl) ?_
          refine R_iconst (v := 1) (dd dt_12_say 29 rfl) ic_1 ?_
          refine R_cmpne (dd dt_12_say 30 rfl) (tgt := 59) rfl (fun hc => ?_) (fun hc => ?_)
          · rw [if_neg hc] at h
            refine R_iconst (v := 0) (dd dt_12_say 33 rfl) ic_0 ?_
            obtain rfl := Option.some.inj h
            exact R_mask [true, true, true, true, true, false, false] rfl K7
          · rw [if_pos hc] at h
            refine R_iconst (v := 1) (dd dt_12_say 31 rfl) ic_1 ?_
            refine R_goto (dd dt_12_say 32 rfl) (tgt := 60) rfl ?_
            obtain rfl := Option.some.inj h
            exact R_mask [true, true, true, true, true, false, false] rfl K7
def f_12_say (a0 : Nat) (a1 : Int32) (a2 : Int32) (μ : mm) : Option (Int32 × mm) :=
  (f_12_say_l5 a0 a1 a2 FU 0 0 μ).bind fun z1 =>
  some (z1.1, z1.2)
set_option maxRecDepth 100000 in
set_option maxHeartbeats 4000000 in
theorem ok_12_say {l : Launch} {E : ce} {d : Nat}  {a0 : Nat} {a1 : Int32} {a2 : Int32} {μ : mm} {r : Int32 × mm} {Q : Option Value → mm → Prop} (h : f_12_say a0 a1 a2 μ = some r) (k0 : kd a0 = 12) (hQ : Q (some (.int r.1)) r.2) : Ct l E (d + 4) yX12_say m_12_say [.ref a0, .int a1, .int a2] μ Q := by
  refine Ct_of (lv := [some (.ref a0), some (.int a1), some (.int a2), none, none, none, none]) (by decide) rfl (Nat.le_of_ble_eq_true rfl) rfl ?_
  unfold f_12_say at h
  refine R_iconst (v := 0) (dd dt_12_say 0 rfl) ic_0 ?_
  refine R_istore_n (lv' := [some (.ref a0), some (.int a1), some (.int a2), some (.int 0), none, none, none]) (dd dt_12_say 1 rfl) 3 rfl (by decide) rfl rfl ?_
  refine R_iconst (v := 0) (dd dt_12_say 2 rfl) ic_0 ?_
  refine R_istore (lv' := [some (.ref a0), some (.int a1), some (.int a2), some (.int 0), some (.int 0), none, none]) (dd dt_12_say 3 rfl) (by decide) rfl rfl ?_
  obtain ⟨z1, e2, h⟩ := bi_el h
  refine R_mask [true, true, true, true, true, false, false] rfl (ok_12_say_l5 a0 a1 a2 k0 FU 0 0 μ _ e2 ?_)
  refine R_iload_n (dd dt_12_say 55 rfl) 3 rfl rfl ?_
  obtain rfl := Option.some.inj h
  exact R_iret rfl (dd dt_12_say 56 rfl) hQ
/-! LongStrikeModel.isCarried(I)Z -/
def tab_12_isCarried : List (Nat × Instr × Nat) := [(0, .aload_n 0, 1), (1, .iload_n 1, 1), (2, .invokevirtual 292, 3), (5, .istore_n 2, 1), (6, .aload_n 0, 1), (7, .iload_n 2, 1), (8, .iconst 1, 1), (9, .invokevirtual 295, 3), (12, .istore_n 3, 1), (13, .aload_n 0, 1), (14, .iload_n 2, 1), (15, .iconst 0, 1), (16, .invokevirtual 295, 3), (19, .istore 4, 2), (21, .bipush 100, 2), (23, .iload_n 3, 1), (24, .iload 4, 2), (26, .iadd, 1), (27, .imul, 1), (28, .aload_n 0, 1), (29, .iconst 0, 1), (30, .invokevirtual 115, 3), (33, .aload_n 0, 1), (34, .getfield 9, 3), (37, .bipush 11, 2), (39, .iaload, 1), (40, .imul, 1), (41, .if_icmp .lt 13, 3), (44, .iload_n 3, 1), (45, .iload 4, 2), (47, .if_icmp .le 7, 3), (50, .iconst 1, 1), (51, .goto 4, 3), (54, .iconst 0, 1), (55, .ireturn, 1)]
set_option maxRecDepth 100000 in
theorem dt_12_isCarried : ∀ q ∈ tab_12_isCarried, decode m_12_isCarried.2.1 q.1 = .ok q.2 := by decide +kernel
def f_12_isCarried (a0 : Nat) (a1 : Int32) (μ : mm) : Option (Int32 × mm) :=
  (f_12_contentBy a0 a1 μ).bind fun x2 =>
  (f_12_say a0 x2 1 μ).bind fun z4 =>
  (f_12_say a0 x2 0 z4.2).bind fun z6 =>
  (f_12_ruled a0 0 z6.2).bind fun x8 =>
  (ld z6.2 (rf a0 0) 11).bind fun x9 =>
  if (100 * (z4.1 + z6.1)) < (x8 * x9) then
    some (0, z6.2)
  else
    if z4.1 ≤ z6.1 then
      some (0, z6.2)
    else
      some (1, z6.2)
set_option maxRecDepth 100000 in
set_option maxHeartbeats 4000000 in
theorem ok_12_isCarried {l : Launch} {E : ce} {d : Nat}  {a0 : Nat} {a1 : Int32} {μ : mm} {r : Int32 × mm} {Q : Option Value → mm → Prop} (h : f_12_isCarried a0 a1 μ = some r) (k0 : kd a0 = 12) (hQ : Q (some (.int r.1)) r.2) : Ct l E (d + 5) yX12_isCarried m_12_isCarried [.ref a0, .int a1] μ Q := by
  refine Ct_of (lv := [some (.ref a0), some (.int a1), none, none, none]) (by decide) rfl (Nat.le_of_ble_eq_true rfl) rfl ?_
  unfold f_12_isCarried at h
  refine R_aload_n (dd dt_12_isCarried 0 rfl) 0 rfl rfl ?_
  refine R_iload_n (dd dt_12_isCarried 1 rfl) 1 rfl rfl ?_
  obtain ⟨x2, e1, h⟩ := bi_el h
  refine c_12_292 (As := [.int a1]) (st1 := [.int x2]) rfl (fun Q1 hq => ok_12_contentBy e1 k0 hq) k0 rfl rfl (Nat.le_of_ble_eq_true rfl) (dd dt_12_isCarried 2 rfl) rfl ?_
  refine R_istore_n (lv' := [some (.ref a0), some (.int a1), some (.int x2), none, none]) (dd dt_12_isCarried 3 rfl) 2 rfl (by decide) rfl rfl ?_
  refine R_aload_n (dd dt_12_isCarried 4 rfl) 0 rfl rfl ?_
  refine R_iload_n (dd dt_12_isCarried 5 rfl) 2 rfl rfl ?_
  refine R_iconst (v := 1) (dd dt_12_isCarried 6 rfl) ic_1 ?_
  obtain ⟨z4, e3, h⟩ := bi_el h
  refine c_12_295 (As := [.int x2, .int 1]) (st1 := [.int z4.1]) rfl (fun Q1 hq => ok_12_say e3 k0 hq) k0 rfl rfl (Nat.le_of_ble_eq_true rfl) (dd dt_12_isCarried 7 rfl) rfl ?_
  refine R_istore_n (lv' := [some (.ref a0), some (.int a1), some (.int x2), some (.int z4.1), none]) (dd dt_12_isCarried 8 rfl) 3 rfl (by decide) rfl rfl ?_
  refine R_aload_n (dd dt_12_isCarried 9 rfl) 0 rfl rfl ?_
  refine R_iload_n (dd dt_12_isCarried 10 rfl) 2 rfl rfl ?_
  refine R_iconst (v := 0) (dd dt_12_isCarried 11 rfl) ic_0 ?_
  obtain ⟨z6, e5, h⟩ := bi_el h
  refine c_12_295 (As := [.int x2, .int 0]) (st1 := [.int z6.1]) rfl (fun Q1 hq => ok_12_say e5 k0 hq) k0 rfl rfl (Nat.le_of_ble_eq_true rfl) (dd dt_12_isCarried 12 rfl) rfl ?_
  refine R_istore (lv' := [some (.ref a0), some (.int a1), some (.int x2), some (.int z4.1), some (.int z6.1)]) (dd dt_12_isCarried 13 rfl) (by decide) rfl rfl ?_
  refine R_bipush (v := 100) (dd dt_12_isCarried 14 rfl) bp_100 ?_
  refine R_iload_n (dd dt_12_isCarried 15 rfl) 3 rfl rfl ?_
  refine R_iload (dd dt_12_isCarried 16 rfl) rfl ?_
  refine R_iadd (dd dt_12_isCarried 17 rfl) ?_
  refine R_imul (dd dt_12_isCarried 18 rfl) ?_
  refine R_aload_n (dd dt_12_isCarried 19 rfl) 0 rfl rfl ?_
  refine R_iconst (v := 0) (dd dt_12_isCarried 20 rfl) ic_0 ?_
  obtain ⟨x8, e7, h⟩ := bi_el h
  refine c_12_115 (As := [.int 0]) (st1 := [.int x8, .int (100 * (z4.1 + z6.1))]) rfl (fun Q1 hq => ok_12_ruled e7 k0 hq) k0 rfl rfl (Nat.le_of_ble_eq_true rfl) (dd dt_12_isCarried 21 rfl) rfl ?_
  refine R_aload_n (dd dt_12_isCarried 22 rfl) 0 rfl rfl ?_
  refine g_12_9 rfl k0 (dd dt_12_isCarried 23 rfl) ?_
  refine R_bipush (v := 11) (dd dt_12_isCarried 24 rfl) bp_11 ?_
  obtain ⟨x9, e10, h⟩ := bi_el h
  refine R_ild e10 (ty_12_0 k0) (dd dt_12_isCarried 25 rfl) ?_
  refine R_imul (dd dt_12_isCarried 26 rfl) ?_
  refine R_cmplt (dd dt_12_isCarried 27 rfl) (tgt := 54) rfl (fun hc => ?_) (fun hc => ?_)
  · rw [if_pos hc] at h
    refine R_iconst (v := 0) (dd dt_12_isCarried 33 rfl) ic_0 ?_
    obtain rfl := Option.some.inj h
    exact R_zret rfl (by decide) (dd dt_12_isCarried 34 rfl) hQ
  · rw [if_neg hc] at h
    refine R_iload_n (dd dt_12_isCarried 28 rfl) 3 rfl rfl ?_
    refine R_iload (dd dt_12_isCarried 29 rfl) rfl ?_
    refine R_cmple (dd dt_12_isCarried 30 rfl) (tgt := 54) rfl (fun hc => ?_) (fun hc => ?_)
    · rw [if_pos hc] at h
      refine R_iconst (v := 0) (dd dt_12_isCarried 33 rfl) ic_0 ?_
      obtain rfl := Option.some.inj h
      exact R_zret rfl (by decide) (dd dt_12_isCarried 34 rfl) hQ
    · rw [if_neg hc] at h
      refine R_iconst (v := 1) (dd dt_12_isCarried 31 rfl) ic_1 ?_
      refine R_goto (dd dt_12_isCarried 32 rfl) (tgt := 55) rfl ?_
      obtain rfl := Option.some.inj h
      exact R_zret rfl (by decide) (dd dt_12_isCarried 34 rfl) hQ
/-! LongStrikeModel.ballot(II)I -/
def tab_12_ballot : List (Nat × Instr × Nat) := [(0, .iload_n 1, 1), (1, .ifCond .lt 25, 3), (4, .iload_n 1, 1), (5, .iconst 1, 1), (6, .aload_n 0, 1), (7, .getfield 9, 3), (10, .bipush 17, 2), (12, .iaload, 1), (13, .ishl, 1), (14, .if_icmp .ge 12, 3), (17, .iload_n 2, 1), (18, .iconst 0, 1), (19, .iconst 4, 1), (20, .invokestatic 80, 3), (23, .ifCond .ne 5, 3), (26, .iconst (-1), 1), (27, .ireturn, 1), (28, .aload_n 0, 1), (29, .iload_n 1, 1), (30, .invokevirtual 292, 3), (33, .istore_n 3, 1), (34, .iload_n 2, 1), (35, .ifCond .ne 12, 3), (38, .aload_n 0, 1), (39, .iload_n 3, 1), (40, .iconst 1, 1), (41, .invokevirtual 295, 3), (44, .goto 53, 3), (47, .iload_n 2, 1), (48, .iconst 1, 1), (49, .if_icmp .ne 12, 3), (52, .aload_n 0, 1), (53, .iload_n 3, 1), (54, .iconst 0, 1), (55, .invokevirtual 295, 3), (58, .goto 39, 3), (61, .iload_n 2, 1), (62, .iconst 2, 1), (63, .if_icmp .ne 19, 3), (66, .aload_n 0, 1), (67, .iload_n 1, 1), (68, .invokevirtual 299, 3), (71, .ifCond .eq 7, 3), (74, .iconst 1, 1), (75, .goto 22, 3), (78, .iconst 0, 1), (79, .goto 18, 3), (82, .iload_n 2, 1), (83, .iconst 3, 1), (84, .if_icmp .ne 7, 3), (87, .iload_n 3, 1), (88, .goto 9, 3), (91, .aload_n 0, 1), (92, .iload_n 1, 1), (93, .iconst 0, 1), (94, .invokevirtual 289, 3), (97, .ireturn, 1)]
set_option maxRecDepth 100000 in
theorem dt_12_ballot : ∀ q ∈ tab_12_ballot, decode m_12_ballot.2.1 q.1 = .ok q.2 := by decide +kernel
def f_12_ballot (a0 : Nat) (a1 : Int32) (a2 : Int32) (μ : mm) : Option (Int32 × mm) :=
  if a1 < 0 then
    some ((-1), μ)
  else
    (ld μ (rf a0 0) 17).bind fun x1 =>
    if (1 <<< (x1 &&& 31)) ≤ a1 then
      some ((-1), μ)
    else
      (f_12_within a2 0 4 μ).bind fun x4 =>
      if x4 = 0 then
        some ((-1), μ)
      else
        (f_12_contentBy a0 a1 μ).bind fun x6 =>
        if a2 = 0 then
          (f_12_say a0 x6 1 μ).bind fun z14 =>
          some (z14.1, z14.2)
        else
          if a2 = 1 then
            (f_12_say a0 x6 0 μ).bind fun z12 =>
            some (z12.1, z12.2)
          else
            if a2 = 2 then
              (f_12_isCarried a0 a1 μ).bind fun z10 =>
              if z10.1 = 0 then
                some (0, z10.2)
              else
                some (1, z10.2)
            else
              if a2 = 3 then
                some (x6, μ)
              else
                (f_12_sumOf a0 a1 0 μ).bind fun x8 =>
                some (x8, μ)
set_option maxRecDepth 100000 in
set_option maxHeartbeats 4000000 in
theorem ok_12_ballot {l : Launch} {E : ce} {d : Nat}  {a0 : Nat} {a1 : Int32} {a2 : Int32} {μ : mm} {r : Int32 × mm} {Q : Option Value → mm → Prop} (h : f_12_ballot a0 a1 a2 μ = some r) (k0 : kd a0 = 12) (hQ : Q (some (.int r.1)) r.2) : Ct l E (d + 6) yX12_ballot m_12_ballot [.ref a0, .int a1, .int a2] μ Q := by
  refine Ct_of (lv := [some (.ref a0), some (.int a1), some (.int a2), none]) (by decide) rfl (Nat.le_of_ble_eq_true rfl) rfl ?_
  unfold f_12_ballot at h
  refine R_iload_n (dd dt_12_ballot 0 rfl) 1 rfl rfl ?_
  refine R_iflt (dd dt_12_ballot 1 rfl) (tgt := 26) rfl (fun hc => ?_) (fun hc => ?_)
  · rw [if_pos hc] at h
    refine R_iconst (v := (-1)) (dd dt_12_ballot 15 rfl) ic_m1 ?_
    obtain rfl := Option.some.inj h
    exact R_iret rfl (dd dt_12_ballot 16 rfl) hQ
  · rw [if_neg hc] at h
    refine R_iload_n (dd dt_12_ballot 2 rfl) 1 rfl rfl ?_
    refine R_iconst (v := 1) (dd dt_12_ballot 3 rfl) ic_1 ?_
    refine R_aload_n (dd dt_12_ballot 4 rfl) 0 rfl rfl ?_
    refine g_12_9 rfl k0 (dd dt_12_ballot 5 rfl) ?_
    refine R_bipush (v := 17) (dd dt_12_ballot 6 rfl) bp_17 ?_
    obtain ⟨x1, e2, h⟩ := bi_el h
    refine R_ild e2 (ty_12_0 k0) (dd dt_12_ballot 7 rfl) ?_
    refine R_ishl (dd dt_12_ballot 8 rfl) ?_
    refine R_cmpge (dd dt_12_ballot 9 rfl) (tgt := 26) rfl (fun hc => ?_) (fun hc => ?_)
    · rw [if_pos hc] at h
      refine R_iconst (v := (-1)) (dd dt_12_ballot 15 rfl) ic_m1 ?_
      obtain rfl := Option.some.inj h
      exact R_iret rfl (dd dt_12_ballot 16 rfl) hQ
    · rw [if_neg hc] at h
      refine R_iload_n (dd dt_12_ballot 10 rfl) 2 rfl rfl ?_
      refine R_iconst (v := 0) (dd dt_12_ballot 11 rfl) ic_0 ?_
      refine R_iconst (v := 4) (dd dt_12_ballot 12 rfl) ic_4 ?_
      obtain ⟨x4, e3, h⟩ := bi_el h
      refine c_12_80 (As := [.int a2, .int 0, .int 4]) (st1 := [.int x4]) rfl (fun Q1 hq => ok_12_within e3 hq) rfl rfl (Nat.le_of_ble_eq_true rfl) (dd dt_12_ballot 13 rfl) rfl ?_
      refine R_ifne (dd dt_12_ballot 14 rfl) (tgt := 28) rfl (fun hc => ?_) (fun hc => ?_)
      · rw [if_neg hc] at h
        refine R_aload_n (dd dt_12_ballot 17 rfl) 0 rfl rfl ?_
        refine R_iload_n (dd dt_12_ballot 18 rfl) 1 rfl rfl ?_
        obtain ⟨x6, e5, h⟩ := bi_el h
        refine c_12_292 (As := [.int a1]) (st1 := [.int x6]) rfl (fun Q1 hq => ok_12_contentBy e5 k0 hq) k0 rfl rfl (Nat.le_of_ble_eq_true rfl) (dd dt_12_ballot 19 rfl) rfl ?_
        refine R_istore_n (lv' := [some (.ref a0), some (.int a1), some (.int a2), some (.int x6)]) (dd dt_12_ballot 20 rfl) 3 rfl (by decide) rfl rfl ?_
        refine R_iload_n (dd dt_12_ballot 21 rfl) 2 rfl rfl ?_
        refine R_ifne (dd dt_12_ballot 22 rfl) (tgt := 47) rfl (fun hc => ?_) (fun hc => ?_)
        · rw [if_neg hc] at h
          refine R_iload_n (dd dt_12_ballot 28 rfl) 2 rfl rfl ?_
          refine R_iconst (v := 1) (dd dt_12_ballot 29 rfl) ic_1 ?_
          refine R_cmpne (dd dt_12_ballot 30 rfl) (tgt := 61) rfl (fun hc => ?_) (fun hc => ?_)
          · rw [if_neg hc] at h
            refine R_iload_n (dd dt_12_ballot 36 rfl) 2 rfl rfl ?_
            refine R_iconst (v := 2) (dd dt_12_ballot 37 rfl) ic_2 ?_
            refine R_cmpne (dd dt_12_ballot 38 rfl) (tgt := 82) rfl (fun hc => ?_) (fun hc => ?_)
            · rw [if_neg hc] at h
              refine R_iload_n (dd dt_12_ballot 47 rfl) 2 rfl rfl ?_
              refine R_iconst (v := 3) (dd dt_12_ballot 48 rfl) ic_3 ?_
              refine R_cmpne (dd dt_12_ballot 49 rfl) (tgt := 91) rfl (fun hc => ?_) (fun hc => ?_)
              · rw [if_neg hc] at h
                refine R_aload_n (dd dt_12_ballot 52 rfl) 0 rfl rfl ?_
                refine R_iload_n (dd dt_12_ballot 53 rfl) 1 rfl rfl ?_
                refine R_iconst (v := 0) (dd dt_12_ballot 54 rfl) ic_0 ?_
                obtain ⟨x8, e7, h⟩ := bi_el h
                refine c_12_289 (As := [.int a1, .int 0]) (st1 := [.int x8]) rfl (fun Q1 hq => ok_12_sumOf e7 k0 hq) k0 rfl rfl (Nat.le_of_ble_eq_true rfl) (dd dt_12_ballot 55 rfl) rfl ?_
                obtain rfl := Option.some.inj h
                exact R_iret rfl (dd dt_12_ballot 56 rfl) hQ
              · rw [if_pos hc] at h
                refine R_iload_n (dd dt_12_ballot 50 rfl) 3 rfl rfl ?_
                refine R_goto (dd dt_12_ballot 51 rfl) (tgt := 97) rfl ?_
                obtain rfl := Option.some.inj h
                exact R_iret rfl (dd dt_12_ballot 56 rfl) hQ
            · rw [if_pos hc] at h
              refine R_aload_n (dd dt_12_ballot 39 rfl) 0 rfl rfl ?_
              refine R_iload_n (dd dt_12_ballot 40 rfl) 1 rfl rfl ?_
              obtain ⟨z10, e9, h⟩ := bi_el h
              refine c_12_299 (As := [.int a1]) (st1 := [.int z10.1]) rfl (fun Q1 hq => ok_12_isCarried e9 k0 hq) k0 rfl rfl (Nat.le_of_ble_eq_true rfl) (dd dt_12_ballot 41 rfl) rfl ?_
              refine R_ifeq (dd dt_12_ballot 42 rfl) (tgt := 78) rfl (fun hc => ?_) (fun hc => ?_)
              · rw [if_pos hc] at h
                refine R_iconst (v := 0) (dd dt_12_ballot 45 rfl) ic_0 ?_
                refine R_goto (dd dt_12_ballot 46 rfl) (tgt := 97) rfl ?_
                obtain rfl := Option.some.inj h
                exact R_iret rfl (dd dt_12_ballot 56 rfl) hQ
              · rw [if_neg hc] at h
                refine R_iconst (v := 1) (dd dt_12_ballot 43 rfl) ic_1 ?_
                refine R_goto (dd dt_12_ballot 44 rfl) (tgt := 97) rfl ?_
                obtain rfl := Option.some.inj h
                exact R_iret rfl (dd dt_12_ballot 56 rfl) hQ
          · rw [if_pos hc] at h
            refine R_aload_n (dd dt_12_ballot 31 rfl) 0 rfl rfl ?_
            refine R_iload_n (dd dt_12_ballot 32 rfl) 3 rfl rfl ?_
            refine R_iconst (v := 0) (dd dt_12_ballot 33 rfl) ic_0 ?_
            obtain ⟨z12, e11, h⟩ := bi_el h
            refine c_12_295 (As := [.int x6, .int 0]) (st1 := [.int z12.1]) rfl (fun Q1 hq => ok_12_say e11 k0 hq) k0 rfl rfl (Nat.le_of_ble_eq_true rfl) (dd dt_12_ballot 34 rfl) rfl ?_
            refine R_goto (dd dt_12_ballot 35 rfl) (tgt := 97) rfl ?_
            obtain rfl := Option.some.inj h
            exact R_iret rfl (dd dt_12_ballot 56 rfl) hQ
        · rw [if_pos hc] at h
          refine R_aload_n (dd dt_12_ballot 23 rfl) 0 rfl rfl ?_
          refine R_iload_n (dd dt_12_ballot 24 rfl) 3 rfl rfl ?_
          refine R_iconst (v := 1) (dd dt_12_ballot 25 rfl) ic_1 ?_
          obtain ⟨z14, e13, h⟩ := bi_el h
          refine c_12_295 (As := [.int x6, .int 1]) (st1 := [.int z14.1]) rfl (fun Q1 hq => ok_12_say e13 k0 hq) k0 rfl rfl (Nat.le_of_ble_eq_true rfl) (dd dt_12_ballot 26 rfl) rfl ?_
          refine R_goto (dd dt_12_ballot 27 rfl) (tgt := 97) rfl ?_
          obtain rfl := Option.some.inj h
          exact R_iret rfl (dd dt_12_ballot 56 rfl) hQ
      · rw [if_pos hc] at h
        refine R_iconst (v := (-1)) (dd dt_12_ballot 15 rfl) ic_m1 ?_
        obtain rfl := Option.some.inj h
        exact R_iret rfl (dd dt_12_ballot 16 rfl) hQ
/-! LongStrikeModel.offer()I -/
def tab_12_offer : List (Nat × Instr × Nat) := [(0, .bipush (-3), 2), (2, .istore_n 1, 1), (3, .iconst 0, 1), (4, .istore_n 2, 1), (5, .iload_n 2, 1), (6, .iconst 1, 1), (7, .aload_n 0, 1), (8, .getfield 9, 3), (11, .bipush 17, 2), (13, .iaload, 1), (14, .ishl, 1), (15, .if_icmp .ge 40, 3), (18, .iload_n 1, 1), (19, .bipush (-3), 2), (21, .if_icmp .eq 18, 3), (24, .aload_n 0, 1), (25, .iload_n 2, 1), (26, .iconst 0, 1), (27, .invokevirtual 289, 3), (30, .aload_n 0, 1), (31, .iload_n 1, 1), (32, .iconst 0, 1), (33, .invokevirtual 289, 3), (36, .if_icmp .ge 13, 3), (39, .aload_n 0, 1), (40, .iload_n 2, 1), (41, .invokevirtual 299, 3), (44, .ifCond .eq 5, 3), (47, .iload_n 2, 1), (48, .istore_n 1, 1), (49, .iinc 2 1, 3), (52, .goto (-47), 3), (55, .iload_n 1, 1), (56, .ireturn, 1)]
set_option maxRecDepth 100000 in
theorem dt_12_offer : ∀ q ∈ tab_12_offer, decode m_12_offer.2.1 q.1 = .ok q.2 := by decide +kernel
def f_12_offer_l5 (a0 : Nat) : Nat → Int32 → Int32 → mm → Option (Int32 × mm)
  | 0, _, _, _ => none
  | n + 1, v1, v2, μ => (ld μ (rf a0 0) 17).bind fun x1 =>
    if (1 <<< (x1 &&& 31)) ≤ v2 then
      some (v1, μ)
    else
      if v1 = (-3) then
        (f_12_isCarried a0 v2 μ).bind fun z4 =>
        if z4.1 = 0 then
          f_12_offer_l5 a0 n v1 (v2 + 1) z4.2
        else
          f_12_offer_l5 a0 n v2 (v2 + 1) z4.2
      else
        (f_12_sumOf a0 v2 0 μ).bind fun x6 =>
        (f_12_sumOf a0 v1 0 μ).bind fun x8 =>
        if x8 ≤ x6 then
          f_12_offer_l5 a0 n v1 (v2 + 1) μ
        else
          (f_12_isCarried a0 v2 μ).bind fun z10 =>
          if z10.1 = 0 then
            f_12_offer_l5 a0 n v1 (v2 + 1) z10.2
          else
            f_12_offer_l5 a0 n v2 (v2 + 1) z10.2
set_option maxRecDepth 100000 in
theorem ok_12_offer_l5 {l : Launch} {E : ce} {d : Nat} {Q : Option Value → mm → Prop} (a0 : Nat) (k0 : kd a0 = 12) : ∀ (n : Nat) (v1 : Int32) (v2 : Int32) (μ : mm) (z : Int32 × mm), f_12_offer_l5 a0 n v1 v2 μ = some z → Rj l E (d + 6) m_12_offer 55 [none, some (.int z.1), none] [] z.2 Q → Rj l E (d + 6) m_12_offer 5 [some (.ref a0), some (.int v1), some (.int v2)] [] μ Q
  | 0, _, _, _, z, h, _ => by
    rw [f_12_offer_l5] at h
    cases h
  | n + 1, v1, v2, μ, z, h, KX => by
    rw [f_12_offer_l5] at h
    refine R_iload_n (dd dt_12_offer 4 rfl) 2 rfl rfl ?_
    refine R_iconst (v := 1) (dd dt_12_offer 5 rfl) ic_1 ?_
    refine R_aload_n (dd dt_12_offer 6 rfl) 0 rfl rfl ?_
    refine g_12_9 rfl k0 (dd dt_12_offer 7 rfl) ?_
    refine R_bipush (v := 17) (dd dt_12_offer 8 rfl) bp_17 ?_
    obtain ⟨x1, e2, h⟩ := bi_el h
    refine R_ild e2 (ty_12_0 k0) (dd dt_12_offer 9 rfl) ?_
    refine R_ishl (dd dt_12_offer 10 rfl) ?_
    refine R_cmpge (dd dt_12_offer 11 rfl) (tgt := 55) rfl (fun hc => ?_) (fun hc => ?_)
    · rw [if_pos hc] at h
      obtain rfl := Option.some.inj h
      exact R_mask [false, true, false] rfl KX
    · rw [if_neg hc] at h
      refine R_iload_n (dd dt_12_offer 12 rfl) 1 rfl rfl ?_
      refine R_bipush (v := (-3)) (dd dt_12_offer 13 rfl) bp_m3 ?_
      refine R_cmpeq (dd dt_12_offer 14 rfl) (tgt := 39) rfl (fun hc => ?_) (fun hc => ?_)
      · rw [if_pos hc] at h
        refine R_aload_n (dd dt_12_offer 24 rfl) 0 rfl rfl ?_
        refine R_iload_n (dd dt_12_offer 25 rfl) 2 rfl rfl ?_
        obtain ⟨z4, e3, h⟩ := bi_el h
        refine c_12_299 (As := [.int v2]) (st1 := [.int z4.1]) rfl (fun Q1 hq => ok_12_isCarried e3 k0 hq) k0 rfl rfl (Nat.le_of_ble_eq_true rfl) (dd dt_12_offer 26 rfl) rfl ?_
        refine R_ifeq (dd dt_12_offer 27 rfl) (tgt := 49) rfl (fun hc => ?_) (fun hc => ?_)
        · rw [if_pos hc] at h
          refine R_iinc (v := 1) (lv' := [some (.ref a0), some (.int v1), some (.int (v2 + 1))]) (dd dt_12_offer 30 rfl) (by decide) rfl rfl ic_1 rfl ?_
          refine R_goto (dd dt_12_offer 31 rfl) (tgt := 5) rfl ?_
          exact R_mask [true, true, true] rfl (ok_12_offer_l5 a0 k0 n v1 (v2 + 1) z4.2 _ h KX)
        · rw [if_neg hc] at h
          refine R_iload_n (dd dt_12_offer 28 rfl) 2 rfl rfl ?_
          refine R_istore_n (lv' := [some (.ref a0), some (.int v2), some (.int v2)]) (dd dt_12_offer 29 rfl) 1 rfl (by decide) rfl rfl ?_
          refine R_iinc (v := 1) (lv' := [some (.ref a0), some (.int v2), some (.int (v2 + 1))]) (dd dt_12_offer 30 rfl) (by decide) rfl rfl ic_1 rfl ?_
          refine R_goto (dd dt_12_offer 31 rfl) (tgt := 5) rfl ?_
          exact R_mask [true, true, true] rfl (ok_12_offer_l5 a0 k0 n v2 (v2 + 1) z4.2 _ h KX)
      · rw [if_neg hc] at h
        refine R_aload_n (dd dt_12_offer 15 rfl) 0 rfl rfl ?_
        refine R_iload_n (dd dt_12_offer 16 rfl) 2 rfl rfl ?_
        refine R_iconst (v := 0) (dd dt_12_offer 17 rfl) ic_0 ?_
        obtain ⟨x6, e5, h⟩ := bi_el h
        refine c_12_289 (As := [.int v2, .int 0]) (st1 := [.int x6]) rfl (fun Q1 hq => ok_12_sumOf e5 k0 hq) k0 rfl rfl (Nat.le_of_ble_eq_true rfl) (dd dt_12_offer 18 rfl) rfl ?_
        refine R_aload_n (dd dt_12_offer 19 rfl) 0 rfl rfl ?_
        refine R_iload_n (dd dt_12_offer 20 rfl) 1 rfl rfl ?_
        refine R_iconst (v := 0) (dd dt_12_offer 21 rfl) ic_0 ?_
        obtain ⟨x8, e7, h⟩ := bi_el h
        refine c_12_289 (As := [.int v1, .int 0]) (st1 := [.int x8, .int x6]) rfl (fun Q1 hq => ok_12_sumOf e7 k0 hq) k0 rfl rfl (Nat.le_of_ble_eq_true rfl) (dd dt_12_offer 22 rfl) rfl ?_
        refine R_cmpge (dd dt_12_offer 23 rfl) (tgt := 49) rfl (fun hc => ?_) (fun hc => ?_)
        · rw [if_pos hc] at h
          refine R_iinc (v := 1) (lv' := [some (.ref a0), some (.int v1), some (.int (v2 + 1))]) (dd dt_12_offer 30 rfl) (by decide) rfl rfl ic_1 rfl ?_
          refine R_goto (dd dt_12_offer 31 rfl) (tgt := 5) rfl ?_
          exact R_mask [true, true, true] rfl (ok_12_offer_l5 a0 k0 n v1 (v2 + 1) μ _ h KX)
        · rw [if_neg hc] at h
          refine R_aload_n (dd dt_12_offer 24 rfl) 0 rfl rfl ?_
          refine R_iload_n (dd dt_12_offer 25 rfl) 2 rfl rfl ?_
          obtain ⟨z10, e9, h⟩ := bi_el h
          refine c_12_299 (As := [.int v2]) (st1 := [.int z10.1]) rfl (fun Q1 hq => ok_12_isCarried e9 k0 hq) k0 rfl rfl (Nat.le_of_ble_eq_true rfl) (dd dt_12_offer 26 rfl) rfl ?_
          refine R_ifeq (dd dt_12_offer 27 rfl) (tgt := 49) rfl (fun hc => ?_) (fun hc => ?_)
          · rw [if_pos hc] at h
            refine R_iinc (v := 1) (lv' := [some (.ref a0), some (.int v1), some (.int (v2 + 1))]) (dd dt_12_offer 30 rfl) (by decide) rfl rfl ic_1 rfl ?_
            refine R_goto (dd dt_12_offer 31 rfl) (tgt := 5) rfl ?_
            exact R_mask [true, true, true] rfl (ok_12_offer_l5 a0 k0 n v1 (v2 + 1) z10.2 _ h KX)
          · rw [if_neg hc] at h
            refine R_iload_n (dd dt_12_offer 28 rfl) 2 rfl rfl ?_
            refine R_istore_n (lv' := [some (.ref a0), some (.int v2), some (.int v2)]) (dd dt_12_offer 29 rfl) 1 rfl (by decide) rfl rfl ?_
            refine R_iinc (v := 1) (lv' := [some (.ref a0), some (.int v2), some (.int (v2 + 1))]) (dd dt_12_offer 30 rfl) (by decide) rfl rfl ic_1 rfl ?_
            refine R_goto (dd dt_12_offer 31 rfl) (tgt := 5) rfl ?_
            exact R_mask [true, true, true] rfl (ok_12_offer_l5 a0 k0 n v2 (v2 + 1) z10.2 _ h KX)
def f_12_offer (a0 : Nat) (μ : mm) : Option (Int32 × mm) :=
  (f_12_offer_l5 a0 FU (-3) 0 μ).bind fun z1 =>
  some (z1.1, z1.2)
set_option maxRecDepth 100000 in
set_option maxHeartbeats 4000000 in
theorem ok_12_offer {l : Launch} {E : ce} {d : Nat}  {a0 : Nat} {μ : mm} {r : Int32 × mm} {Q : Option Value → mm → Prop} (h : f_12_offer a0 μ = some r) (k0 : kd a0 = 12) (hQ : Q (some (.int r.1)) r.2) : Ct l E (d + 6) yX12_offer m_12_offer [.ref a0] μ Q := by
  refine Ct_of (lv := [some (.ref a0), none, none]) (by decide) rfl (Nat.le_of_ble_eq_true rfl) rfl ?_
  unfold f_12_offer at h
  refine R_bipush (v := (-3)) (dd dt_12_offer 0 rfl) bp_m3 ?_
  refine R_istore_n (lv' := [some (.ref a0), some (.int (-3)), none]) (dd dt_12_offer 1 rfl) 1 rfl (by decide) rfl rfl ?_
  refine R_iconst (v := 0) (dd dt_12_offer 2 rfl) ic_0 ?_
  refine R_istore_n (lv' := [some (.ref a0), some (.int (-3)), some (.int 0)]) (dd dt_12_offer 3 rfl) 2 rfl (by decide) rfl rfl ?_
  obtain ⟨z1, e2, h⟩ := bi_el h
  refine R_mask [true, true, true] rfl (ok_12_offer_l5 a0 k0 FU (-3) 0 μ _ e2 ?_)
  refine R_iload_n (dd dt_12_offer 32 rfl) 1 rfl rfl ?_
  obtain rfl := Option.some.inj h
  exact R_iret rfl (dd dt_12_offer 33 rfl) hQ
/-! LongStrikeModel.isFour(I)Z -/
def tab_12_isFour : List (Nat × Instr × Nat) := [(0, .iload_n 0, 1), (1, .iconst 0, 1), (2, .iconst 3, 1), (3, .invokestatic 80, 3), (6, .ireturn, 1)]
set_option maxRecDepth 100000 in
theorem dt_12_isFour : ∀ q ∈ tab_12_isFour, decode m_12_isFour.2.1 q.1 = .ok q.2 := by decide +kernel
def f_12_isFour (a0 : Int32) (μ : mm) : Option (Int32) :=
  (f_12_within a0 0 3 μ).bind fun x2 =>
  (gb x2).bind fun _ =>
  some x2
set_option maxRecDepth 100000 in
set_option maxHeartbeats 4000000 in
theorem ok_12_isFour {l : Launch} {E : ce} {d : Nat}  {a0 : Int32} {μ : mm} {r : Int32} {Q : Option Value → mm → Prop} (h : f_12_isFour a0 μ = some r)  (hQ : Q (some (.int r)) μ) : Ct l E (d + 1) yX12_isFour m_12_isFour [.int a0] μ Q := by
  refine Ct_of (lv := [some (.int a0)]) (by decide) rfl (Nat.le_of_ble_eq_true rfl) rfl ?_
  unfold f_12_isFour at h
  refine R_iload_n (dd dt_12_isFour 0 rfl) 0 rfl rfl ?_
  refine R_iconst (v := 0) (dd dt_12_isFour 1 rfl) ic_0 ?_
  refine R_iconst (v := 3) (dd dt_12_isFour 2 rfl) ic_3 ?_
  obtain ⟨x2, e1, h⟩ := bi_el h
  refine c_12_80 (As := [.int a0, .int 0, .int 3]) (st1 := [.int x2]) rfl (fun Q1 hq => ok_12_within e1 hq) rfl rfl (Nat.le_of_ble_eq_true rfl) (dd dt_12_isFour 3 rfl) rfl ?_
  obtain ⟨_, q3, h⟩ := bi_el h
  obtain rfl := Option.some.inj h
  exact R_zret rfl (bo_narrow (gb_el q3).1) (dd dt_12_isFour 4 rfl) hQ
