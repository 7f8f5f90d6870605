/-! LongStrikeModel.dealt(II)I -/
def tab_12_dealt : List (Nat × Instr × Nat) := [(0, .aload_n 0, 1), (1, .aload_n 0, 1), (2, .getfield 322, 3), (5, .iload_n 1, 1), (6, .iload_n 2, 1), (7, .invokevirtual 325, 3), (10, .ireturn, 1)]
set_option maxRecDepth 100000 in
theorem dt_12_dealt : ∀ q ∈ tab_12_dealt, decode m_12_dealt.2.1 q.1 = .ok q.2 := by decide +kernel
def f_12_dealt_b (rc : Nat → Nat → Int32 → Int32 → Int32 → mm → Option (Int32 × mm)) (a0 : Nat) (a1 : Int32) (a2 : Int32) (μ : mm) : Option (Int32 × mm) :=
  (rc 1 a0 (μ a0 34) a1 a2 μ).bind fun z2 =>
  some (z2.1, z2.2)
set_option maxRecDepth 100000 in
set_option maxHeartbeats 4000000 in
theorem ok_12_dealt_b {l : Launch} {E : ce} {d nf : Nat} (rc : Nat → Nat → Int32 → Int32 → Int32 → mm → Option (Int32 × mm)) (hrc0 : ∀ {b0 : Nat} {x0 : Int32} {x1 : Int32} {μ : mm} {r : Int32 × mm} {Q : Option Value → mm → Prop}, rc 0 b0 x0 x1 0 μ = some r → kd b0 = 12 → Q (some (.int r.1)) r.2 → Ct l E (d + nf + 0) yX12_dealt m_12_dealt [.ref b0, .int x0, .int x1] μ Q) (hrc1 : ∀ {b0 : Nat} {x0 : Int32} {x1 : Int32} {x2 : Int32} {μ : mm} {r : Int32 × mm} {Q : Option Value → mm → Prop}, rc 1 b0 x0 x1 x2 μ = some r → kd b0 = 12 → Q (some (.int r.1)) r.2 → Ct l E (d + nf + 0) yX12_bodyFrom m_12_bodyFrom [.ref b0, .int x0, .int x1, .int x2] μ Q) (hrc2 : ∀ {b0 : Nat} {x0 : Int32} {x1 : Int32} {x2 : Int32} {μ : mm} {r : Int32 × mm} {Q : Option Value → mm → Prop}, rc 2 b0 x0 x1 x2 μ = some r → kd b0 = 12 → Q (some (.int r.1)) r.2 → Ct l E (d + nf + 0) yX12_body m_12_body [.ref b0, .int x0, .int x1, .int x2] μ Q)  {a0 : Nat} {a1 : Int32} {a2 : Int32} {μ : mm} {r : Int32 × mm} {Q : Option Value → mm → Prop} (h : f_12_dealt_b rc a0 a1 a2 μ = some r) (k0 : kd a0 = 12) (hQ : Q (some (.int r.1)) r.2) : Ct l E (d + nf + 0 + 1) yX12_dealt m_12_dealt [.ref a0, .int a1, .int a2] μ Q := by
  refine Ct_of (lv := [some (.ref a0), some (.int a1), some (.int a2)]) (by decide) rfl (Nat.le_of_ble_eq_true rfl) rfl ?_
  unfold f_12_dealt_b at h
  refine R_aload_n (dd dt_12_dealt 0 rfl) 0 rfl rfl ?_
  refine R_aload_n (dd dt_12_dealt 1 rfl) 0 rfl rfl ?_
  refine g_12_322 rfl k0 (dd dt_12_dealt 2 rfl) ?_
  refine R_iload_n (dd dt_12_dealt 3 rfl) 1 rfl rfl ?_
  refine R_iload_n (dd dt_12_dealt 4 rfl) 2 rfl rfl ?_
  obtain ⟨z2, e1, h⟩ := bi_el h
  refine c_12_325 (As := [.int (μ a0 34), .int a1, .int a2]) (st1 := [.int z2.1]) rfl (fun Q1 hq => hrc1 e1 k0 hq) k0 rfl rfl (Nat.le_of_ble_eq_true rfl) (dd dt_12_dealt 5 rfl) rfl ?_
  obtain rfl := Option.some.inj h
  exact R_iret rfl (dd dt_12_dealt 6 rfl) hQ
/-! LongStrikeModel.bodyFrom(III)I -/
def tab_12_bodyFrom : List (Nat × Instr × Nat) := [(0, .iload_n 1, 1), (1, .istore 4, 2), (3, .iload 4, 2), (5, .iload_n 2, 1), (6, .invokestatic 328, 3), (9, .ifCond .ne 13, 3), (12, .iload 4, 2), (14, .invokestatic 316, 3), (17, .istore 4, 2), (19, .goto (-16), 3), (22, .aload_n 0, 1), (23, .iload 4, 2), (25, .iload_n 2, 1), (26, .iload_n 3, 1), (27, .invokevirtual 331, 3), (30, .ireturn, 1)]
set_option maxRecDepth 100000 in
theorem dt_12_bodyFrom : ∀ q ∈ tab_12_bodyFrom, decode m_12_bodyFrom.2.1 q.1 = .ok q.2 := by decide +kernel
def f_12_bodyFrom_l3 (rc : Nat → Nat → Int32 → Int32 → Int32 → mm → Option (Int32 × mm)) (a0 : Nat) (a2 : Int32) (a3 : Int32) (μ : mm) : Nat → Int32 → Option (Int32)
  | 0, _ => none
  | n + 1, v4 => (f_12_has v4 a2 μ).bind fun x2 =>
    if x2 = 0 then
      (f_12_above v4 μ).bind fun x4 =>
      f_12_bodyFrom_l3 rc a0 a2 a3 μ n x4
    else
      some v4
set_option maxRecDepth 100000 in
theorem ok_12_bodyFrom_l3 {l : Launch} {E : ce} {d nf : Nat} {Q : Option Value → mm → Prop} (rc : Nat → Nat → Int32 → Int32 → Int32 → mm → Option (Int32 × mm)) (hrc0 : ∀ {b0 : Nat} {x0 : Int32} {x1 : Int32} {μ : mm} {r : Int32 × mm} {Q : Option Value → mm → Prop}, rc 0 b0 x0 x1 0 μ = some r → kd b0 = 12 → Q (some (.int r.1)) r.2 → Ct l E (d + nf + 0) yX12_dealt m_12_dealt [.ref b0, .int x0, .int x1] μ Q) (hrc1 : ∀ {b0 : Nat} {x0 : Int32} {x1 : Int32} {x2 : Int32} {μ : mm} {r : Int32 × mm} {Q : Option Value → mm → Prop}, rc 1 b0 x0 x1 x2 μ = some r → kd b0 = 12 → Q (some (.int r.1)) r.2 → Ct l E (d + nf + 0) yX12_bodyFrom m_12_bodyFrom [.ref b0, .int x0, .int x1, .int x2] μ Q) (hrc2 : ∀ {b0 : Nat} {x0 : Int32} {x1 : Int32} {x2 : Int32} {μ : mm} {r : Int32 × mm} {Q : Option Value → mm → Prop}, rc 2 b0 x0 x1 x2 μ = some r → kd b0 = 12 → Q (some (.int r.1)) r.2 → Ct l E (d + nf + 0) yX12_body m_12_body [.ref b0, .int x0, .int x1, .int x2] μ Q) (a0 : Nat) (a2 : Int32) (a3 : Int32) (μ : mm) (k0 : kd a0 = 12) : ∀ (n : Nat) (v4 : Int32) (z : Int32), f_12_bodyFrom_l3 rc a0 a2 a3 μ n v4 = some z → Rj l E (d + nf + 0 + 1) m_12_bodyFrom 22 [some (.ref a0), none, some (.int a2), some (.int a3), some (.int z)] [] μ Q → Rj l E (d + nf + 0 + 1) m_12_bodyFrom 3 [some (.ref a0), none, some (.int a2), some (.int a3), some (.int v4)] [] μ Q
  | 0, _, z, h, _ => by
    rw [f_12_bodyFrom_l3] at h
    cases h
  | n + 1, v4, z, h, KX => by
    rw [f_12_bodyFrom_l3] at h
    refine R_iload (dd dt_12_bodyFrom 2 rfl) rfl ?_
    refine R_iload_n (dd dt_12_bodyFrom 3 rfl) 2 rfl rfl ?_
    obtain ⟨x2, e1, h⟩ := bi_el h
    refine c_12_328 (As := [.int v4, .int a2]) (st1 := [.int x2]) rfl (fun Q1 hq => ok_12_has e1 hq) rfl rfl (Nat.le_of_ble_eq_true rfl) (dd dt_12_bodyFrom 4 rfl) rfl ?_
    refine R_ifne (dd dt_12_bodyFrom 5 rfl) (tgt := 22) rfl (fun hc => ?_) (fun hc => ?_)
    · rw [if_neg hc] at h
      obtain rfl := Option.some.inj h
      exact R_mask [true, false, true, true, true] rfl KX
    · rw [if_pos hc] at h
      refine R_iload (dd dt_12_bodyFrom 6 rfl) rfl ?_
      obtain ⟨x4, e3, h⟩ := bi_el h
      refine c_12_316 (As := [.int v4]) (st1 := [.int x4]) rfl (fun Q1 hq => ok_12_above e3 hq) rfl rfl (Nat.le_of_ble_eq_true rfl) (dd dt_12_bodyFrom 7 rfl) rfl ?_
      refine R_istore (lv' := [some (.ref a0), none, some (.int a2), some (.int a3), some (.int x4)]) (dd dt_12_bodyFrom 8 rfl) (by decide) rfl rfl ?_
      refine R_goto (dd dt_12_bodyFrom 9 rfl) (tgt := 3) rfl ?_
      exact R_mask [true, false, true, true, true] rfl (ok_12_bodyFrom_l3 rc hrc0 hrc1 hrc2 a0 a2 a3 μ k0 n x4 _ h KX)
def f_12_bodyFrom_b (rc : Nat → Nat → Int32 → Int32 → Int32 → mm → Option (Int32 × mm)) (a0 : Nat) (a1 : Int32) (a2 : Int32) (a3 : Int32) (μ : mm) : Option (Int32 × mm) :=
  (f_12_bodyFrom_l3 rc a0 a2 a3 μ FU a1).bind fun z1 =>
  (rc 2 a0 z1 a2 a3 μ).bind fun z4 =>
  some (z4.1, z4.2)
set_option maxRecDepth 100000 in
set_option maxHeartbeats 4000000 in
theorem ok_12_bodyFrom_b {l : Launch} {E : ce} {d nf : Nat} (rc : Nat → Nat → Int32 → Int32 → Int32 → mm → Option (Int32 × mm)) (hrc0 : ∀ {b0 : Nat} {x0 : Int32} {x1 : Int32} {μ : mm} {r : Int32 × mm} {Q : Option Value → mm → Prop}, rc 0 b0 x0 x1 0 μ = some r → kd b0 = 12 → Q (some (.int r.1)) r.2 → Ct l E (d + nf + 0) yX12_dealt m_12_dealt [.ref b0, .int x0, .int x1] μ Q) (hrc1 : ∀ {b0 : Nat} {x0 : Int32} {x1 : Int32} {x2 : Int32} {μ : mm} {r : Int32 × mm} {Q : Option Value → mm → Prop}, rc 1 b0 x0 x1 x2 μ = some r → kd b0 = 12 → Q (some (.int r.1)) r.2 → Ct l E (d + nf + 0) yX12_bodyFrom m_12_bodyFrom [.ref b0, .int x0, .int x1, .int x2] μ Q) (hrc2 : ∀ {b0 : Nat} {x0 : Int32} {x1 : Int32} {x2 : Int32} {μ : mm} {r : Int32 × mm} {Q : Option Value → mm → Prop}, rc 2 b0 x0 x1 x2 μ = some r → kd b0 = 12 → Q (some (.int r.1)) r.2 → Ct l E (d + nf + 0) yX12_body m_12_body [.ref b0, .int x0, .int x1, .int x2] μ Q)  {a0 : Nat} {a1 : Int32} {a2 : Int32} {a3 : Int32} {μ : mm} {r : Int32 × mm} {Q : Option Value → mm → Prop} (h : f_12_bodyFrom_b rc a0 a1 a2 a3 μ = some r) (k0 : kd a0 = 12) (hQ : Q (some (.int r.1)) r.2) : Ct l E (d + nf + 0 + 1) yX12_bodyFrom m_12_bodyFrom [.ref a0, .int a1, .int a2, .int a3] μ Q := by
  refine Ct_of (lv := [some (.ref a0), some (.int a1), some (.int a2), some (.int a3), none]) (by decide) rfl (Nat.le_of_ble_eq_true rfl) rfl ?_
  unfold f_12_bodyFrom_b at h
  refine R_iload_n (dd dt_12_bodyFrom 0 rfl) 1 rfl rfl ?_
  refine R_istore (lv' := [some (.ref a0), some (.int a1), some (.int a2), some (.int a3), some (.int a1)]) (dd dt_12_bodyFrom 1 rfl) (by decide) rfl rfl ?_
  obtain ⟨z1, e2, h⟩ := bi_el h
  refine R_mask [true, false, true, true, true] rfl (ok_12_bodyFrom_l3 rc hrc0 hrc1 hrc2 a0 a2 a3 μ k0 FU a1 _ e2 ?_)
  refine R_aload_n (dd dt_12_bodyFrom 10 rfl) 0 rfl rfl ?_
  refine R_iload (dd dt_12_bodyFrom 11 rfl) rfl ?_
  refine R_iload_n (dd dt_12_bodyFrom 12 rfl) 2 rfl rfl ?_
  refine R_iload_n (dd dt_12_bodyFrom 13 rfl) 3 rfl rfl ?_
  obtain ⟨z4, e3, h⟩ := bi_el h
  refine c_12_331 (As := [.int z1, .int a2, .int a3]) (st1 := [.int z4.1]) rfl (fun Q1 hq => hrc2 e3 k0 hq) k0 rfl rfl (Nat.le_of_ble_eq_true rfl) (dd dt_12_bodyFrom 14 rfl) rfl ?_
  obtain rfl := Option.some.inj h
  exact R_iret rfl (dd dt_12_bodyFrom 15 rfl) hQ
/-! LongStrikeModel.body(III)I -/
def tab_12_body : List (Nat × Instr × Nat) := [(0, .iconst 4, 1), (1, .iload_n 1, 1), (2, .imul, 1), (3, .iload_n 2, 1), (4, .iadd, 1), (5, .tableswitch 388 0 26 #[123, 136, 151, 169, 220, 388, 239, 388, 388, 264, 388, 388, 388, 388, 280, 296, 315, 388, 388, 388, 388, 331, 388, 347, 388, 388, 363], 123), (128, .aload_n 0, 1), (129, .bipush 10, 2), (131, .invokevirtual 334, 3), (134, .iload_n 3, 1), (135, .aload_n 0, 1), (136, .getfield 337, 3), (139, .iadd, 1), (140, .ireturn, 1), (141, .aload_n 0, 1), (142, .bipush 11, 2), (144, .invokevirtual 334, 3), (147, .aload_n 0, 1), (148, .iconst 0, 1), (149, .iload_n 3, 1), (150, .invokevirtual 340, 3), (153, .iconst 2, 1), (154, .imul, 1), (155, .ireturn, 1), (156, .aload_n 0, 1), (157, .bipush 12, 2), (159, .invokevirtual 334, 3), (162, .aload_n 0, 1), (163, .iconst 1, 1), (164, .iload_n 3, 1), (165, .invokevirtual 340, 3), (168, .aload_n 0, 1), (169, .getfield 343, 3), (172, .isub, 1), (173, .ireturn, 1), (174, .aload_n 0, 1), (175, .bipush 13, 2), (177, .invokevirtual 334, 3), (180, .aload_n 0, 1), (181, .aload_n 0, 1), (182, .getfield 346, 3), (185, .ifCond .ne 11, 3), (188, .aload_n 0, 1), (189, .getfield 349, 3), (192, .iconst 1, 1), (193, .if_icmp .ne 7, 3), (196, .iconst 1, 1), (197, .goto 4, 3), (200, .iconst 0, 1), (201, .putfield 346, 3), (204, .aload_n 0, 1), (205, .getfield 349, 3), (208, .iconst 1, 1), (209, .if_icmp .ne 7, 3), (212, .iconst 0, 1), (213, .goto 11, 3), (216, .iload_n 3, 1), (217, .aload_n 0, 1), (218, .getfield 349, 3), (221, .iconst 1, 1), (222, .isub, 1), (223, .idiv, 1), (224, .ireturn, 1), (225, .aload_n 0, 1), (226, .bipush 20, 2), (228, .invokevirtual 334, 3), (231, .aload_n 0, 1), (232, .iconst 0, 1), (233, .iconst 0, 1), (234, .iload_n 3, 1), (235, .invokevirtual 325, 3), (238, .aload_n 0, 1), (239, .getfield 349, 3), (242, .ixor, 1), (243, .ireturn, 1), (244, .aload_n 0, 1), (245, .bipush 21, 2), (247, .invokevirtual 334, 3), (250, .aload_n 0, 1), (251, .iconst 0, 1), (252, .iconst 2, 1), (253, .iload_n 3, 1), (254, .invokevirtual 325, 3), (257, .istore 4, 2), (259, .iload 4, 2), (261, .aload_n 0, 1), (262, .iconst 0, 1), (263, .iconst 1, 1), (264, .invokevirtual 340, 3), (267, .iadd, 1), (268, .ireturn, 1), (269, .aload_n 0, 1), (270, .bipush 30, 2), (272, .invokevirtual 334, 3), (275, .iconst 0, 1), (276, .aload_n 0, 1), (277, .iconst 0, 1), (278, .iconst 1, 1), (279, .iload_n 3, 1), (280, .invokevirtual 325, 3), (283, .isub, 1), (284, .ireturn, 1), (285, .aload_n 0, 1), (286, .bipush 40, 2), (288, .invokevirtual 334, 3), (291, .aload_n 0, 1), (292, .iconst 0, 1), (293, .iconst 2, 1), (294, .iload_n 3, 1), (295, .invokevirtual 325, 3), (298, .iconst 3, 1), (299, .imul, 1), (300, .ireturn, 1), (301, .aload_n 0, 1), (302, .bipush 41, 2), (304, .invokevirtual 334, 3), (307, .aload_n 0, 1), (308, .iconst 0, 1), (309, .iconst 3, 1), (310, .iload_n 3, 1), (311, .aload_n 0, 1), (312, .getfield 343, 3), (315, .iadd, 1), (316, .invokevirtual 325, 3), (319, .ireturn, 1), (320, .aload_n 0, 1), (321, .bipush 50, 2), (323, .invokevirtual 334, 3), (326, .aload_n 0, 1), (327, .iconst 1, 1), (328, .iconst 0, 1), (329, .iload_n 3, 1), (330, .iconst 1, 1), (331, .isub, 1), (332, .invokevirtual 325, 3), (335, .ireturn, 1), (336, .aload_n 0, 1), (337, .bipush 60, 2), (339, .invokevirtual 334, 3), (342, .aload_n 0, 1), (343, .iconst 1, 1), (344, .iconst 1, 1), (345, .iload_n 3, 1), (346, .invokevirtual 325, 3), (349, .iconst 5, 1), (350, .iadd, 1), (351, .ireturn, 1), (352, .aload_n 0, 1), (353, .bipush 61, 2), (355, .invokevirtual 334, 3), (358, .iconst 0, 1), (359, .aload_n 0, 1), (360, .iconst 1, 1), (361, .iconst 3, 1), (362, .iload_n 3, 1), (363, .invokevirtual 325, 3), (366, .isub, 1), (367, .ireturn, 1), (368, .aload_n 0, 1), (369, .bipush 70, 2), (371, .invokevirtual 334, 3), (374, .aload_n 0, 1), (375, .iconst 3, 1), (376, .iconst 2, 1), (377, .iload_n 3, 1), (378, .invokevirtual 325, 3), (381, .istore 5, 2), (383, .iload 5, 2), (385, .aload_n 0, 1), (386, .iconst 1, 1), (387, .iconst 0, 1), (388, .invokevirtual 340, 3), (391, .isub, 1), (392, .ireturn, 1), (393, .aload_n 0, 1), (394, .bipush 71, 2), (396, .invokevirtual 334, 3), (399, .aload_n 0, 1), (400, .iconst 3, 1), (401, .iconst 0, 1), (402, .iload_n 3, 1), (403, .invokevirtual 325, 3), (406, .aload_n 0, 1), (407, .getfield 349, 3), (410, .imul, 1), (411, .ireturn, 1)]
set_option maxRecDepth 100000 in
theorem dt_12_body : ∀ q ∈ tab_12_body, decode m_12_body.2.1 q.1 = .ok q.2 := by decide +kernel
def f_12_body_b (rc : Nat → Nat → Int32 → Int32 → Int32 → mm → Option (Int32 × mm)) (a0 : Nat) (a1 : Int32) (a2 : Int32) (a3 : Int32) (μ : mm) : Option (Int32 × mm) :=
  if ((4 * a1) + a2) = 0 then
    (f_12_began a0 10 μ).bind fun μ2 =>
    some ((a3 + (μ2 a0 37)), μ2)
  else if ((4 * a1) + a2) = 1 then
    (f_12_began a0 11 μ).bind fun μ4 =>
    (rc 0 a0 0 a3 0 μ4).bind fun z6 =>
    some ((z6.1 * 2), z6.2)
  else if ((4 * a1) + a2) = 2 then
    (f_12_began a0 12 μ).bind fun μ8 =>
    (rc 0 a0 1 a3 0 μ8).bind fun z10 =>
    some ((z10.1 - (z10.2 a0 36)), z10.2)
  else if ((4 * a1) + a2) = 3 then
    (f_12_began a0 13 μ).bind fun μ12 =>
    (if (μ12 a0 38) = 0 then
        if (μ12 a0 35) = 1 then
          some 1
        else
          some 0
      else
        some 1).bind fun (z13 : Int32) =>
    (gb z13).bind fun _ =>
    (pf μ12 a0 38 z13).bind fun μ14 =>
    if (μ14 a0 35) = 1 then
      some (0, μ14)
    else
      (gd ((μ14 a0 35) - 1)).bind fun _ =>
      some ((a3 / ((μ14 a0 35) - 1)), μ14)
  else if ((4 * a1) + a2) = 4 then
    (f_12_began a0 20 μ).bind fun μ19 =>
    (rc 1 a0 0 0 a3 μ19).bind fun z21 =>
    some ((z21.1 ^^^ (z21.2 a0 35)), z21.2)
  else if ((4 * a1) + a2) = 6 then
    (f_12_began a0 21 μ).bind fun μ23 =>
    (rc 1 a0 0 2 a3 μ23).bind fun z25 =>
    (rc 0 a0 0 1 0 z25.2).bind fun z27 =>
    some ((z25.1 + z27.1), z27.2)
  else if ((4 * a1) + a2) = 9 then
    (f_12_began a0 30 μ).bind fun μ29 =>
    (rc 1 a0 0 1 a3 μ29).bind fun z31 =>
    some ((0 - z31.1), z31.2)
  else if ((4 * a1) + a2) = 14 then
    (f_12_began a0 40 μ).bind fun μ33 =>
    (rc 1 a0 0 2 a3 μ33).bind fun z35 =>
    some ((z35.1 * 3), z35.2)
  else if ((4 * a1) + a2) = 15 then
    (f_12_began a0 41 μ).bind fun μ37 =>
    (rc 1 a0 0 3 (a3 + (μ37 a0 36)) μ37).bind fun z39 =>
    some (z39.1, z39.2)
  else if ((4 * a1) + a2) = 16 then
    (f_12_began a0 50 μ).bind fun μ41 =>
    (rc 1 a0 1 0 (a3 - 1) μ41).bind fun z43 =>
    some (z43.1, z43.2)
  else if ((4 * a1) + a2) = 21 then
    (f_12_began a0 60 μ).bind fun μ45 =>
    (rc 1 a0 1 1 a3 μ45).bind fun z47 =>
    some ((z47.1 + 5), z47.2)
  else if ((4 * a1) + a2) = 23 then
    (f_12_began a0 61 μ).bind fun μ49 =>
    (rc 1 a0 1 3 a3 μ49).bind fun z51 =>
    some ((0 - z51.1), z51.2)
  else if ((4 * a1) + a2) = 26 then
    (f_12_began a0 70 μ).bind fun μ53 =>
    (rc 1 a0 3 2 a3 μ53).bind fun z55 =>
    (rc 0 a0 1 0 0 z55.2).bind fun z57 =>
    some ((z55.1 - z57.1), z57.2)
  else 
    (f_12_began a0 71 μ).bind fun μ59 =>
    (rc 1 a0 3 0 a3 μ59).bind fun z61 =>
    some ((z61.1 * (z61.2 a0 35)), z61.2)
set_option maxRecDepth 100000 in
set_option maxHeartbeats 4000000 in
theorem ok_12_body_b {l : Launch} {E : ce} {d nf : Nat} (rc : Nat → Nat → Int32 → Int32 → Int32 → mm → Option (Int32 × mm)) (hrc0 : ∀ {b0 : Nat} {x0 : Int32} {x1 : Int32} {μ : mm} {r : Int32 × mm} {Q : Option Value → mm → Prop}, rc 0 b0 x0 x1 0 μ = some r → kd b0 = 12 → Q (some (.int r.1)) r.2 → Ct l E (d + nf + 0) yX12_dealt m_12_dealt [.ref b0, .int x0, .int x1] μ Q) (hrc1 : ∀ {b0 : Nat} {x0 : Int32} {x1 : Int32} {x2 : Int32} {μ : mm} {r : Int32 × mm} {Q : Option Value → mm → Prop}, rc 1 b0 x0 x1 x2 μ = some r → kd b0 = 12 → Q (some (.int r.1)) r.2 → Ct l E (d + nf + 0) yX12_bodyFrom m_12_bodyFrom [.ref b0, .int x0, .int x1, .int x2] μ Q) (hrc2 : ∀ {b0 : Nat} {x0 : Int32} {x1 : Int32} {x2 : Int32} {μ : mm} {r : Int32 × mm} {Q : Option Value → mm → Prop}, rc 2 b0 x0 x1 x2 μ = some r → kd b0 = 12 → Q (some (.int r.1)) r.2 → Ct l E (d + nf + 0) yX12_body m_12_body [.ref b0, .int x0, .int x1, .int x2] μ Q)  {a0 : Nat} {a1 : Int32} {a2 : Int32} {a3 : Int32} {μ : mm} {r : Int32 × mm} {Q : Option Value → mm → Prop} (h : f_12_body_b rc a0 a1 a2 a3 μ = some r) (k0 : kd a0 = 12) (hQ : Q (some (.int r.1)) r.2) : Ct l E (d + nf + 0 + 1) yX12_body m_12_body [.ref a0, .int a1, .int a2, .int a3] μ Q := by
  refine Ct_of (lv := [some (.ref a0), some (.int a1), some (.int a2), some (.int a3), none, none]) (by decide) rfl (Nat.le_of_ble_eq_true rfl) rfl ?_
  unfold f_12_body_b at h
  refine R_iconst (v := 4) (dd dt_12_body 0 rfl) ic_4 ?_
  refine R_iload_n (dd dt_12_body 1 rfl) 1 rfl rfl ?_
  refine R_imul (dd dt_12_body 2 rfl) ?_
  refine R_iload_n (dd dt_12_body 3 rfl) 2 rfl rfl ?_
  refine R_iadd (dd dt_12_body 4 rfl) ?_
  by_cases hs0 : ((4 * a1) + a2) = 0
  · refine R_tabIn (off := 123) (tgt := 128) (dd dt_12_body 5 rfl) (by rw [hs0]; decide) (by rw [hs0]; decide) (by rw [hs0]; rfl) rfl ?_
    rw [if_pos hs0] at h
    refine R_aload_n (dd dt_12_body 6 rfl) 0 rfl rfl ?_
    refine R_bipush (v := 10) (dd dt_12_body 7 rfl) bp_10 ?_
    obtain ⟨μ2, e1, h⟩ := bi_el h
    refine c_12_334 (As := [.int 10]) (st1 := []) rfl (fun Q1 hq => ok_12_began e1 k0 hq) k0 rfl rfl (Nat.le_of_ble_eq_true rfl) (dd dt_12_body 8 rfl) rfl ?_
    refine R_iload_n (dd dt_12_body 9 rfl) 3 rfl rfl ?_
    refine R_aload_n (dd dt_12_body 10 rfl) 0 rfl rfl ?_
    refine g_12_337 rfl k0 (dd dt_12_body 11 rfl) ?_
    refine R_iadd (dd dt_12_body 12 rfl) ?_
    obtain rfl := Option.some.inj h
    exact R_iret rfl (dd dt_12_body 13 rfl) hQ
  rw [if_neg hs0] at h
  by_cases hs1 : ((4 * a1) + a2) = 1
  · refine R_tabIn (off := 136) (tgt := 141) (dd dt_12_body 5 rfl) (by rw [hs1]; decide) (by rw [hs1]; decide) (by rw [hs1]; rfl) rfl ?_
    rw [if_pos hs1] at h
    refine R_aload_n (dd dt_12_body 14 rfl) 0 rfl rfl ?_
    refine R_bipush (v := 11) (dd dt_12_body 15 rfl) bp_11 ?_
    obtain ⟨μ4, e3, h⟩ := bi_el h
    refine c_12_334 (As := [.int 11]) (st1 := []) rfl (fun Q1 hq => ok_12_began e3 k0 hq) k0 rfl rfl (Nat.le_of_ble_eq_true rfl) (dd dt_12_body 16 rfl) rfl ?_
    refine R_aload_n (dd dt_12_body 17 rfl) 0 rfl rfl ?_
    refine R_iconst (v := 0) (dd dt_12_body 18 rfl) ic_0 ?_
    refine R_iload_n (dd dt_12_body 19 rfl) 3 rfl rfl ?_
    obtain ⟨z6, e5, h⟩ := bi_el h
    refine c_12_340 (As := [.int 0, .int a3]) (st1 := [.int z6.1]) rfl (fun Q1 hq => hrc0 e5 k0 hq) k0 rfl rfl (Nat.le_of_ble_eq_true rfl) (dd dt_12_body 20 rfl) rfl ?_
    refine R_iconst (v := 2) (dd dt_12_body 21 rfl) ic_2 ?_
    refine R_imul (dd dt_12_body 22 rfl) ?_
    obtain rfl := Option.some.inj h
    exact R_iret rfl (dd dt_12_body 23 rfl) hQ
  rw [if_neg hs1] at h
  by_cases hs2 : ((4 * a1) + a2) = 2
  · refine R_tabIn (off := 151) (tgt := 156) (dd dt_12_body 5 rfl) (by rw [hs2]; decide) (by rw [hs2]; decide) (by rw [hs2]; rfl) rfl ?_
    rw [if_pos hs2] at h
    refine R_aload_n (dd dt_12_body 24 rfl) 0 rfl rfl ?_
    refine R_bipush (v := 12) (dd dt_12_body 25 rfl) bp_12 ?_
    obtain ⟨μ8, e7, h⟩ := bi_el h
    refine c_12_334 (As := [.int 12]) (st1 := []) rfl (fun Q1 hq => ok_12_began e7 k0 hq) k0 rfl rfl (Nat.le_of_ble_eq_true rfl) (dd dt_12_body 26 rfl) rfl ?_
    refine R_aload_n (dd dt_12_body 27 rfl) 0 rfl rfl ?_
    refine R_iconst (v := 1) (dd dt_12_body 28 rfl) ic_1 ?_
    refine R_iload_n (dd dt_12_body 29 rfl) 3 rfl rfl ?_
    obtain ⟨z10, e9, h⟩ := bi_el h
    refine c_12_340 (As := [.int 1, .int a3]) (st1 := [.int z10.1]) rfl (fun Q1 hq => hrc0 e9 k0 hq) k0 rfl rfl (Nat.le_of_ble_eq_true rfl) (dd dt_12_body 30 rfl) rfl ?_
    refine R_aload_n (dd dt_12_body 31 rfl) 0 rfl rfl ?_
    refine g_12_343 rfl k0 (dd dt_12_body 32 rfl) ?_
    refine R_isub (dd dt_12_body 33 rfl) ?_
    obtain rfl := Option.some.inj h
    exact R_iret rfl (dd dt_12_body 34 rfl) hQ
  rw [if_neg hs2] at h
  by_cases hs3 : ((4 * a1) + a2) = 3
  · refine R_tabIn (off := 169) (tgt := 174) (dd dt_12_body 5 rfl) (by rw [hs3]; decide) (by rw [hs3]; decide) (by rw [hs3]; rfl) rfl ?_
    rw [if_pos hs3] at h
    refine R_aload_n (dd dt_12_body 35 rfl) 0 rfl rfl ?_
    refine R_bipush (v := 13) (dd dt_12_body 36 rfl) bp_13 ?_
    obtain ⟨μ12, e11, h⟩ := bi_el h
    refine c_12_334 (As := [.int 13]) (st1 := []) rfl (fun Q1 hq => ok_12_began e11 k0 hq) k0 rfl rfl (Nat.le_of_ble_eq_true rfl) (dd dt_12_body 37 rfl) rfl ?_
    refine R_aload_n (dd dt_12_body 38 rfl) 0 rfl rfl ?_
    refine R_aload_n (dd dt_12_body 39 rfl) 0 rfl rfl ?_
    refine g_12_346 rfl k0 (dd dt_12_body 40 rfl) ?_
    obtain ⟨z13, hz13, h⟩ := bi_el h
    have K13 : Rj l E (d + nf + 0 + 1) m_12_body 201 [some (.ref a0), none, none, some (.int a3), none, none] [.int z13, .ref a0] μ12 Q := by
      clear hz13
      obtain ⟨_, q16, h⟩ := bi_el h
      obtain ⟨μ14, e15, h⟩ := bi_el h
      refine p_12_346 rfl k0 (gb_el q16).1 (dd dt_12_body 49 rfl) e15 ?_
      refine R_aload_n (dd dt_12_body 50 rfl) 0 rfl rfl ?_
      refine g_12_349 rfl k0 (dd dt_12_body 51 rfl) ?_
      refine R_iconst (v := 1) (dd dt_12_body 52 rfl) ic_1 ?_
      refine R_cmpne (dd dt_12_body 53 rfl) (tgt := 216) rfl (fun hc => ?_) (fun hc => ?_)
      · rw [if_neg hc] at h
        refine R_iload_n (dd dt_12_body 56 rfl) 3 rfl rfl ?_
        refine R_aload_n (dd dt_12_body 57 rfl) 0 rfl rfl ?_
        refine g_12_349 rfl k0 (dd dt_12_body 58 rfl) ?_
        refine R_iconst (v := 1) (dd dt_12_body 59 rfl) ic_1 ?_
        refine R_isub (dd dt_12_body 60 rfl) ?_
        obtain ⟨_, q17, h⟩ := bi_el h
        refine R_idiv (dd dt_12_body 61 rfl) (gd_el q17).1 ?_
        obtain rfl := Option.some.inj h
        exact R_iret rfl (dd dt_12_body 62 rfl) hQ
      · rw [if_pos hc] at h
        refine R_iconst (v := 0) (dd dt_12_body 54 rfl) ic_0 ?_
        refine R_goto (dd dt_12_body 55 rfl) (tgt := 224) rfl ?_
        obtain rfl := Option.some.inj h
        exact R_iret rfl (dd dt_12_body 62 rfl) hQ
    clear h
    have h := hz13
    clear hz13
    refine R_ifne (dd dt_12_body 41 rfl) (tgt := 196) rfl (fun hc => ?_) (fun hc => ?_)
    · rw [if_neg hc] at h
      refine R_iconst (v := 1) (dd dt_12_body 46 rfl) ic_1 ?_
      refine R_goto (dd dt_12_body 47 rfl) (tgt := 201) rfl ?_
      obtain rfl := Option.some.inj h
      exact R_mask [true, false, false, true, false, false] rfl K13
    · rw [if_pos hc] at h
      refine R_aload_n (dd dt_12_body 42 rfl) 0 rfl rfl ?_
      refine g_12_349 rfl k0 (dd dt_12_body 43 rfl) ?_
      refine R_iconst (v := 1) (dd dt_12_body 44 rfl) ic_1 ?_
      refine R_cmpne (dd dt_12_body 45 rfl) (tgt := 200) rfl (fun hc => ?_) (fun hc => ?_)
      · rw [if_neg hc] at h
        refine R_iconst (v := 0) (dd dt_12_body 48 rfl) ic_0 ?_
        obtain rfl := Option.some.inj h
        exact R_mask [true, false, false, true, false, false] rfl K13
      · rw [if_pos hc] at h
        refine R_iconst (v := 1) (dd dt_12_body 46 rfl) ic_1 ?_
        refine R_goto (dd dt_12_body 47 rfl) (tgt := 201) rfl ?_
        obtain rfl := Option.some.inj h
        exact R_mask [true, false, false, true, false, false] rfl K13
  rw [if_neg hs3] at h
  by_cases hs4 : ((4 * a1) + a2) = 4
  · refine R_tabIn (off := 220) (tgt := 225) (dd dt_12_body 5 rfl) (by rw [hs4]; decide) (by rw [hs4]; decide) (by rw [hs4]; rfl) rfl ?_
    rw [if_pos hs4] at h
    refine R_aload_n (dd dt_12_body 63 rfl) 0 rfl rfl ?_
    refine R_bipush (v := 20) (dd dt_12_body 64 rfl) bp_20 ?_
    obtain ⟨μ19, e18, h⟩ := bi_el h
    refine c_12_334 (As := [.int 20]) (st1 := []) rfl (fun Q1 hq => ok_12_began e18 k0 hq) k0 rfl rfl (Nat.le_of_ble_eq_true rfl) (dd dt_12_body 65 rfl) rfl ?_
    refine R_aload_n (dd dt_12_body 66 rfl) 0 rfl rfl ?_
    refine R_iconst (v := 0) (dd dt_12_body 67 rfl) ic_0 ?_
    refine R_iconst (v := 0) (dd dt_12_body 68 rfl) ic_0 ?_
    refine R_iload_n (dd dt_12_body 69 rfl) 3 rfl rfl ?_
    obtain ⟨z21, e20, h⟩ := bi_el h
    refine c_12_325 (As := [.int 0, .int 0, .int a3]) (st1 := [.int z21.1]) rfl (fun Q1 hq => hrc1 e20 k0 hq) k0 rfl rfl (Nat.le_of_ble_eq_true rfl) (dd dt_12_body 70 rfl) rfl ?_
    refine R_aload_n (dd dt_12_body 71 rfl) 0 rfl rfl ?_
    refine g_12_349 rfl k0 (dd dt_12_body 72 rfl) ?_
    refine R_ixor (dd dt_12_body 73 rfl) ?_
    obtain rfl := Option.some.inj h
    exact R_iret rfl (dd dt_12_body 74 rfl) hQ
  rw [if_neg hs4] at h
  by_cases hs6 : ((4 * a1) + a2) = 6
  · refine R_tabIn (off := 239) (tgt := 244) (dd dt_12_body 5 rfl) (by rw [hs6]; decide) (by rw [hs6]; decide) (by rw [hs6]; rfl) rfl ?_
    rw [if_pos hs6] at h
    refine R_aload_n (dd dt_12_body 75 rfl) 0 rfl rfl ?_
    refine R_bipush (v := 21) (dd dt_12_body 76 rfl) bp_21 ?_
    obtain ⟨μ23, e22, h⟩ := bi_el h
    refine c_12_334 (As := [.int 21]) (st1 := []) rfl (fun Q1 hq => ok_12_began e22 k0 hq) k0 rfl rfl (Nat.le_of_ble_eq_true rfl) (dd dt_12_body 77 rfl) rfl ?_
    refine R_aload_n (dd dt_12_body 78 rfl) 0 rfl rfl ?_
    refine R_iconst (v := 0) (dd dt_12_body 79 rfl) ic_0 ?_
    refine R_iconst (v := 2) (dd dt_12_body 80 rfl) ic_2 ?_
    refine R_iload_n (dd dt_12_body 81 rfl) 3 rfl rfl ?_
    obtain ⟨z25, e24, h⟩ := bi_el h
    refine c_12_325 (As := [.int 0, .int 2, .int a3]) (st1 := [.int z25.1]) rfl (fun Q1 hq => hrc1 e24 k0 hq) k0 rfl rfl (Nat.le_of_ble_eq_true rfl) (dd dt_12_body 82 rfl) rfl ?_
    refine R_istore (lv' := [some (.ref a0), some (.int a1), some (.int a2), some (.int a3), some (.int z25.1), none]) (dd dt_12_body 83 rfl) (by decide) rfl rfl ?_
    refine R_iload (dd dt_12_body 84 rfl) rfl ?_
    refine R_aload_n (dd dt_12_body 85 rfl) 0 rfl rfl ?_
    refine R_iconst (v := 0) (dd dt_12_body 86 rfl) ic_0 ?_
    refine R_iconst (v := 1) (dd dt_12_body 87 rfl) ic_1 ?_
    obtain ⟨z27, e26, h⟩ := bi_el h
    refine c_12_340 (As := [.int 0, .int 1]) (st1 := [.int z27.1, .int z25.1]) rfl (fun Q1 hq => hrc0 e26 k0 hq) k0 rfl rfl (Nat.le_of_ble_eq_true rfl) (dd dt_12_body 88 rfl) rfl ?_
    refine R_iadd (dd dt_12_body 89 rfl) ?_
    obtain rfl := Option.some.inj h
    exact R_iret rfl (dd dt_12_body 90 rfl) hQ
  rw [if_neg hs6] at h
  by_cases hs9 : ((4 * a1) + a2) = 9
  · refine R_tabIn (off := 264) (tgt := 269) (dd dt_12_body 5 rfl) (by rw [hs9]; decide) (by rw [hs9]; decide) (by rw [hs9]; rfl) rfl ?_
    rw [if_pos hs9] at h
    refine R_aload_n (dd dt_12_body 91 rfl) 0 rfl rfl ?_
    refine R_bipush (v := 30) (dd dt_12_body 92 rfl) bp_30 ?_
    obtain ⟨μ29, e28, h⟩ := bi_el h
    refine c_12_334 (As := [.int 30]) (st1 := []) rfl (fun Q1 hq => ok_12_began e28 k0 hq) k0 rfl rfl (Nat.le_of_ble_eq_true rfl) (dd dt_12_body 93 rfl) rfl ?_
    refine R_iconst (v := 0) (dd dt_12_body 94 rfl) ic_0 ?_
    refine R_aload_n (dd dt_12_body 95 rfl) 0 rfl rfl ?_
    refine R_iconst (v := 0) (dd dt_12_body 96 rfl) ic_0 ?_
    refine R_iconst (v := 1) (dd dt_12_body 97 rfl) ic_1 ?_
    refine R_iload_n (dd dt_12_body 98 rfl) 3 rfl rfl ?_
    obtain ⟨z31, e30, h⟩ := bi_el h
    refine c_12_325 (As := [.int 0, .int 1, .int a3]) (st1 := [.int z31.1, .int 0]) rfl (fun Q1 hq => hrc1 e30 k0 hq) k0 rfl rfl (Nat.le_of_ble_eq_true rfl) (dd dt_12_body 99 rfl) rfl ?_
    refine R_isub (dd dt_12_body 100 rfl) ?_
    obtain rfl := Option.some.inj h
    exact R_iret rfl (dd dt_12_body 101 rfl) hQ
  rw [if_neg hs9] at h
  by_cases hs14 : ((4 * a1) + a2) = 14
  · refine R_tabIn (off := 280) (tgt := 285) (dd dt_12_body 5 rfl) (by rw [hs14]; decide) (by rw [hs14]; decide) (by rw [hs14]; rfl) rfl ?_
    rw [if_pos hs14] at h
    refine R_aload_n (dd dt_12_body 102 rfl) 0 rfl rfl ?_
    refine R_bipush (v := 40) (dd dt_12_body 103 rfl) bp_40 ?_
    obtain ⟨μ33, e32, h⟩ := bi_el h
    refine c_12_334 (As := [.int 40]) (st1 := []) rfl (fun Q1 hq => ok_12_began e32 k0 hq) k0 rfl rfl (Nat.le_of_ble_eq_true rfl) (dd dt_12_body 104 rfl) rfl ?_
    refine R_aload_n (dd dt_12_body 105 rfl) 0 rfl rfl ?_
    refine R_iconst (v := 0) (dd dt_12_body 106 rfl) ic_0 ?_
    refine R_iconst (v := 2) (dd dt_12_body 107 rfl) ic_2 ?_
    refine R_iload_n (dd dt_12_body 108 rfl) 3 rfl rfl ?_
    obtain ⟨z35, e34, h⟩ := bi_el h
    refine c_12_325 (As := [.int 0, .int 2, .int a3]) (st1 := [.int z35.1]) rfl (fun Q1 hq => hrc1 e34 k0 hq) k0 rfl rfl (Nat.le_of_ble_eq_true rfl) (dd dt_12_body 109 rfl) rfl ?_
    refine R_iconst (v := 3) (dd dt_12_body 110 rfl) ic_3 ?_
    refine R_imul (dd dt_12_body 111 rfl) ?_
    obtain rfl := Option.some.inj h
    exact R_iret rfl (dd dt_12_body 112 rfl) hQ
  rw [if_neg hs14] at h
  by_cases hs15 : ((4 * a1) + a2) = 15
  · refine R_tabIn (off := 296) (tgt := 301) (dd dt_12_body 5 rfl) (by rw [hs15]; decide) (by rw [hs15]; decide) (by rw [hs15]; rfl) rfl ?_
    rw [if_pos hs15] at h
    refine R_aload_n (dd dt_12_body 113 rfl) 0 rfl rfl ?_
    refine R_bipush (v := 41) (dd dt_12_body 114 rfl) bp_41 ?_
    obtain ⟨μ37, e36, h⟩ := bi_el h
    refine c_12_334 (As := [.int 41]) (st1 := []) rfl (fun Q1 hq => ok_12_began e36 k0 hq) k0 rfl rfl (Nat.le_of_ble_eq_true rfl) (dd dt_12_body 115 rfl) rfl ?_
    refine R_aload_n (dd dt_12_body 116 rfl) 0 rfl rfl ?_
    refine R_iconst (v := 0) (dd dt_12_body 117 rfl) ic_0 ?_
    refine R_iconst (v := 3) (dd dt_12_body 118 rfl) ic_3 ?_
    refine R_iload_n (dd dt_12_body 119 rfl) 3 rfl rfl ?_
    refine R_aload_n (dd dt_12_body 120 rfl) 0 rfl rfl ?_
    refine g_12_343 rfl k0 (dd dt_12_body 121 rfl) ?_
    refine R_iadd (dd dt_12_body 122 rfl) ?_
    obtain ⟨z39, e38, h⟩ := bi_el h
    refine c_12_325 (As := [.int 0, .int 3, .int (a3 + (μ37 a0 36))]) (st1 := [.int z39.1]) rfl (fun Q1 hq => hrc1 e38 k0 hq) k0 rfl rfl (Nat.le_of_ble_eq_true rfl) (dd dt_12_body 123 rfl) rfl ?_
    obtain rfl := Option.some.inj h
    exact R_iret rfl (dd dt_12_body 124 rfl) hQ
  rw [if_neg hs15] at h
  by_cases hs16 : ((4 * a1) + a2) = 16
  · refine R_tabIn (off := 315) (tgt := 320) (dd dt_12_body 5 rfl) (by rw [hs16]; decide) (by rw [hs16]; decide) (by rw [hs16]; rfl) rfl ?_
    rw [if_pos hs16] at h
    refine R_aload_n (dd dt_12_body 125 rfl) 0 rfl rfl ?_
    refine R_bipush (v := 50) (dd dt_12_body 126 rfl) bp_50 ?_
    obtain ⟨μ41, e40, h⟩ := bi_el h
    refine c_12_334 (As := [.int 50]) (st1 := []) rfl (fun Q1 hq => ok_12_began e40 k0 hq) k0 rfl rfl (Nat.le_of_ble_eq_true rfl) (dd dt_12_body 127 rfl) rfl ?_
    refine R_aload_n (dd dt_12_body 128 rfl) 0 rfl rfl ?_
    refine R_iconst (v := 1) (dd dt_12_body 129 rfl) ic_1 ?_
    refine R_iconst (v := 0) (dd dt_12_body 130 rfl) ic_0 ?_
    refine R_iload_n (dd dt_12_body 131 rfl) 3 rfl rfl ?_
    refine R_iconst (v := 1) (dd dt_12_body 132 rfl) ic_1 ?_
    refine R_isub (dd dt_12_body 133 rfl) ?_
    obtain ⟨z43, e42, h⟩ := bi_el h
    refine c_12_325 (As := [.int 1, .int 0, .int (a3 - 1)]) (st1 := [.int z43.1]) rfl (fun Q1 hq => hrc1 e42 k0 hq) k0 rfl rfl (Nat.le_of_ble_eq_true rfl) (dd dt_12_body 134 rfl) rfl ?_
    obtain rfl := Option.some.inj h
    exact R_iret rfl (dd dt_12_body 135 rfl) hQ
  rw [if_neg hs16] at h
  by_cases hs21 : ((4 * a1) + a2) = 21
  · refine R_tabIn (off := 331) (tgt := 336) (dd dt_12_body 5 rfl) (by rw [hs21]; decide) (by rw [hs21]; decide) (by rw [hs21]; rfl) rfl ?_
    rw [if_pos hs21] at h
    refine R_aload_n (dd dt_12_body 136 rfl) 0 rfl rfl ?_
    refine R_bipush (v := 60) (dd dt_12_body 137 rfl) bp_60 ?_
    obtain ⟨μ45, e44, h⟩ := bi_el h
    refine c_12_334 (As := [.int 60]) (st1 := []) rfl (fun Q1 hq => ok_12_began e44 k0 hq) k0 rfl rfl (Nat.le_of_ble_eq_true rfl) (dd dt_12_body 138 rfl) rfl ?_
    refine R_aload_n (dd dt_12_body 139 rfl) 0 rfl rfl ?_
    refine R_iconst (v := 1) (dd dt_12_body 140 rfl) ic_1 ?_
    refine R_iconst (v := 1) (dd dt_12_body 141 rfl) ic_1 ?_
    refine R_iload_n (dd dt_12_body 142 rfl) 3 rfl rfl ?_
    obtain ⟨z47, e46, h⟩ := bi_el h
    refine c_12_325 (As := [.int 1, .int 1, .int a3]) (st1 := [.int z47.1]) rfl (fun Q1 hq => hrc1 e46 k0 hq) k0 rfl rfl (Nat.le_of_ble_eq_true rfl) (dd dt_12_body 143 rfl) rfl ?_
    refine R_iconst (v := 5) (dd dt_12_body 144 rfl) ic_5 ?_
    refine R_iadd (dd dt_12_body 145 rfl) ?_
    obtain rfl := Option.some.inj h
    exact R_iret rfl (dd dt_12_body 146 rfl) hQ
  rw [if_neg hs21] at h
  by_cases hs23 : ((4 * a1) + a2) = 23
  · refine R_tabIn (off := 347) (tgt := 352) (dd dt_12_body 5 rfl) (by rw [hs23]; decide) (by rw [hs23]; decide) (by rw [hs23]; rfl) rfl ?_
    rw [if_pos hs23] at h
    refine R_aload_n (dd dt_12_body 147 rfl) 0 rfl rfl ?_
    refine R_bipush (v := 61) (dd dt_12_body 148 rfl) bp_61 ?_
    obtain ⟨μ49, e48, h⟩ := bi_el h
    refine c_12_334 (As := [.int 61]) (st1 := []) rfl (fun Q1 hq => ok_12_began e48 k0 hq) k0 rfl rfl (Nat.le_of_ble_eq_true rfl) (dd dt_12_body 149 rfl) rfl ?_
    refine R_iconst (v := 0) (dd dt_12_body 150 rfl) ic_0 ?_
    refine R_aload_n (dd dt_12_body 151 rfl) 0 rfl rfl ?_
    refine R_iconst (v := 1) (dd dt_12_body 152 rfl) ic_1 ?_
    refine R_iconst (v := 3) (dd dt_12_body 153 rfl) ic_3 ?_
    refine R_iload_n (dd dt_12_body 154 rfl) 3 rfl rfl ?_
    obtain ⟨z51, e50, h⟩ := bi_el h
    refine c_12_325 (As := [.int 1, .int 3, .int a3]) (st1 := [.int z51.1, .int 0]) rfl (fun Q1 hq => hrc1 e50 k0 hq) k0 rfl rfl (Nat.le_of_ble_eq_true rfl) (dd dt_12_body 155 rfl) rfl ?_
    refine R_isub (dd dt_12_body 156 rfl) ?_
    obtain rfl := Option.some.inj h
    exact R_iret rfl (dd dt_12_body 157 rfl) hQ
  rw [if_neg hs23] at h
  by_cases hs26 : ((4 * a1) + a2) = 26
  · refine R_tabIn (off := 363) (tgt := 368) (dd dt_12_body 5 rfl) (by rw [hs26]; decide) (by rw [hs26]; decide) (by rw [hs26]; rfl) rfl ?_
    rw [if_pos hs26] at h
    refine R_aload_n (dd dt_12_body 158 rfl) 0 rfl rfl ?_
    refine R_bipush (v := 70) (dd dt_12_body 159 rfl) bp_70 ?_
    obtain ⟨μ53, e52, h⟩ := bi_el h
    refine c_12_334 (As := [.int 70]) (st1 := []) rfl (fun Q1 hq => ok_12_began e52 k0 hq) k0 rfl rfl (Nat.le_of_ble_eq_true rfl) (dd dt_12_body 160 rfl) rfl ?_
    refine R_aload_n (dd dt_12_body 161 rfl) 0 rfl rfl ?_
    refine R_iconst (v := 3) (dd dt_12_body 162 rfl) ic_3 ?_
    refine R_iconst (v := 2) (dd dt_12_body 163 rfl) ic_2 ?_
    refine R_iload_n (dd dt_12_body 164 rfl) 3 rfl rfl ?_
    obtain ⟨z55, e54, h⟩ := bi_el h
    refine c_12_325 (As := [.int 3, .int 2, .int a3]) (st1 := [.int z55.1]) rfl (fun Q1 hq => hrc1 e54 k0 hq) k0 rfl rfl (Nat.le_of_ble_eq_true rfl) (dd dt_12_body 165 rfl) rfl ?_
    refine R_istore (lv' := [some (.ref a0), some (.int a1), some (.int a2), some (.int a3), none, some (.int z55.1)]) (dd dt_12_body 166 rfl) (by decide) rfl rfl ?_
    refine R_iload (dd dt_12_body 167 rfl) rfl ?_
    refine R_aload_n (dd dt_12_body 168 rfl) 0 rfl rfl ?_
    refine R_iconst (v := 1) (dd dt_12_body 169 rfl) ic_1 ?_
    refine R_iconst (v := 0) (dd dt_12_body 170 rfl) ic_0 ?_
    obtain ⟨z57, e56, h⟩ := bi_el h
    refine c_12_340 (As := [.int 1, .int 0]) (st1 := [.int z57.1, .int z55.1]) rfl (fun Q1 hq => hrc0 e56 k0 hq) k0 rfl rfl (Nat.le_of_ble_eq_true rfl) (dd dt_12_body 171 rfl) rfl ?_
    refine R_isub (dd dt_12_body 172 rfl) ?_
    obtain rfl := Option.some.inj h
    exact R_iret rfl (dd dt_12_body 173 rfl) hQ
  rw [if_neg hs26] at h
  have KD : Rj l E (d + nf + 0 + 1) m_12_body 393 [some (.ref a0), some (.int a1), some (.int a2), some (.int a3), none, none] [] μ Q := by
    refine R_aload_n (dd dt_12_body 174 rfl) 0 rfl rfl ?_
    refine R_bipush (v := 71) (dd dt_12_body 175 rfl) bp_71 ?_
    obtain ⟨μ59, e58, h⟩ := bi_el h
    refine c_12_334 (As := [.int 71]) (st1 := []) rfl (fun Q1 hq => ok_12_began e58 k0 hq) k0 rfl rfl (Nat.le_of_ble_eq_true rfl) (dd dt_12_body 176 rfl) rfl ?_
    refine R_aload_n (dd dt_12_body 177 rfl) 0 rfl rfl ?_
    refine R_iconst (v := 3) (dd dt_12_body 178 rfl) ic_3 ?_
    refine R_iconst (v := 0) (dd dt_12_body 179 rfl) ic_0 ?_
    refine R_iload_n (dd dt_12_body 180 rfl) 3 rfl rfl ?_
    obtain ⟨z61, e60, h⟩ := bi_el h
    refine c_12_325 (As := [.int 3, .int 0, .int a3]) (st1 := [.int z61.1]) rfl (fun Q1 hq => hrc1 e60 k0 hq) k0 rfl rfl (Nat.le_of_ble_eq_true rfl) (dd dt_12_body 181 rfl) rfl ?_
    refine R_aload_n (dd dt_12_body 182 rfl) 0 rfl rfl ?_
    refine g_12_349 rfl k0 (dd dt_12_body 183 rfl) ?_
    refine R_imul (dd dt_12_body 184 rfl) ?_
    obtain rfl := Option.some.inj h
    exact R_iret rfl (dd dt_12_body 185 rfl) hQ
  by_cases hs5 : ((4 * a1) + a2) = 5
  · exact R_tabIn (off := 388) (tgt := 393) (dd dt_12_body 5 rfl) (by rw [hs5]; decide) (by rw [hs5]; decide) (by rw [hs5]; rfl) rfl KD
  by_cases hs7 : ((4 * a1) + a2) = 7
  · exact R_tabIn (off := 388) (tgt := 393) (dd dt_12_body 5 rfl) (by rw [hs7]; decide) (by rw [hs7]; decide) (by rw [hs7]; rfl) rfl KD
  by_cases hs8 : ((4 * a1) + a2) = 8
  · exact R_tabIn (off := 388) (tgt := 393) (dd dt_12_body 5 rfl) (by rw [hs8]; decide) (by rw [hs8]; decide) (by rw [hs8]; rfl) rfl KD
  by_cases hs10 : ((4 * a1) + a2) = 10
  · exact R_tabIn (off := 388) (tgt := 393) (dd dt_12_body 5 rfl) (by rw [hs10]; decide) (by rw [hs10]; decide) (by rw [hs10]; rfl) rfl KD
  by_cases hs11 : ((4 * a1) + a2) = 11
  · exact R_tabIn (off := 388) (tgt := 393) (dd dt_12_body 5 rfl) (by rw [hs11]; decide) (by rw [hs11]; decide) (by rw [hs11]; rfl) rfl KD
  by_cases hs12 : ((4 * a1) + a2) = 12
  · exact R_tabIn (off := 388) (tgt := 393) (dd dt_12_body 5 rfl) (by rw [hs12]; decide) (by rw [hs12]; decide) (by rw [hs12]; rfl) rfl KD
  by_cases hs13 : ((4 * a1) + a2) = 13
  · exact R_tabIn (off := 388) (tgt := 393) (dd dt_12_body 5 rfl) (by rw [hs13]; decide) (by rw [hs13]; decide) (by rw [hs13]; rfl) rfl KD
  by_cases hs17 : ((4 * a1) + a2) = 17
  · exact R_tabIn (off := 388) (tgt := 393) (dd dt_12_body 5 rfl) (by rw [hs17]; decide) (by rw [hs17]; decide) (by rw [hs17]; rfl) rfl KD
  by_cases hs18 : ((4 * a1) + a2) = 18
  · exact R_tabIn (off := 388) (tgt := 393) (dd dt_12_body 5 rfl) (by rw [hs18]; decide) (by rw [hs18]; decide) (by rw [hs18]; rfl) rfl KD
  by_cases hs19 : ((4 * a1) + a2) = 19
  · exact R_tabIn (off := 388) (tgt := 393) (dd dt_12_body 5 rfl) (by rw [hs19]; decide) (by rw [hs19]; decide) (by rw [hs19]; rfl) rfl KD
  by_cases hs20 : ((4 * a1) + a2) = 20
  · exact R_tabIn (off := 388) (tgt := 393) (dd dt_12_body 5 rfl) (by rw [hs20]; decide) (by rw [hs20]; decide) (by rw [hs20]; rfl) rfl KD
  by_cases hs22 : ((4 * a1) + a2) = 22
  · exact R_tabIn (off := 388) (tgt := 393) (dd dt_12_body 5 rfl) (by rw [hs22]; decide) (by rw [hs22]; decide) (by rw [hs22]; rfl) rfl KD
  by_cases hs24 : ((4 * a1) + a2) = 24
  · exact R_tabIn (off := 388) (tgt := 393) (dd dt_12_body 5 rfl) (by rw [hs24]; decide) (by rw [hs24]; decide) (by rw [hs24]; rfl) rfl KD
  by_cases hs25 : ((4 * a1) + a2) = 25
  · exact R_tabIn (off := 388) (tgt := 393) (dd dt_12_body 5 rfl) (by rw [hs25]; decide) (by rw [hs25]; decide) (by rw [hs25]; rfl) rfl KD
  refine R_tabOut (tgt := 393) (dd dt_12_body 5 rfl) (by have hn0 := lv_neT hs0 (a := 0) (by decide); have hn1 := lv_neT hs1 (a := 1) (by decide); have hn2 := lv_neT hs2 (a := 2) (by decide); have hn3 := lv_neT hs3 (a := 3) (by decide); have hn4 := lv_neT hs4 (a := 4) (by decide); have hn5 := lv_neT hs5 (a := 5) (by decide); have hn6 := lv_neT hs6 (a := 6) (by decide); have hn7 := lv_neT hs7 (a := 7) (by decide); have hn8 := lv_neT hs8 (a := 8) (by decide); have hn9 := lv_neT hs9 (a := 9) (by decide); have hn10 := lv_neT hs10 (a := 10) (by decide); have hn11 := lv_neT hs11 (a := 11) (by decide); have hn12 := lv_neT hs12 (a := 12) (by decide); have hn13 := lv_neT hs13 (a := 13) (by decide); have hn14 := lv_neT hs14 (a := 14) (by decide); have hn15 := lv_neT hs15 (a := 15) (by decide); have hn16 := lv_neT hs16 (a := 16) (by decide); have hn17 := lv_neT hs17 (a := 17) (by decide); have hn18 := lv_neT hs18 (a := 18) (by decide); have hn19 := lv_neT hs19 (a := 19) (by decide); have hn20 := lv_neT hs20 (a := 20) (by decide); have hn21 := lv_neT hs21 (a := 21) (by decide); have hn22 := lv_neT hs22 (a := 22) (by decide); have hn23 := lv_neT hs23 (a := 23) (by decide); have hn24 := lv_neT hs24 (a := 24) (by decide); have hn25 := lv_neT hs25 (a := 25) (by decide); have hn26 := lv_neT hs26 (a := 26) (by decide); omega) rfl ?_
  exact KD
def f_12_dealt_G : Nat → Nat → Nat → Int32 → Int32 → Int32 → mm → Option (Int32 × mm)
  | 0, _, _, _, _, _, _ => none
  | n + 1, t, b0, x0, x1, x2, μ => if t = 0 then f_12_dealt_b (f_12_dealt_G n) b0 x0 x1 μ else if t = 1 then f_12_bodyFrom_b (f_12_dealt_G n) b0 x0 x1 x2 μ else if t = 2 then f_12_body_b (f_12_dealt_G n) b0 x0 x1 x2 μ else none
set_option maxRecDepth 100000 in
theorem ok_12_dealt_G {l : Launch} {E : ce} {d : Nat} : ∀ n : Nat, (∀ {b0 : Nat} {x0 : Int32} {x1 : Int32} {μ : mm} {r : Int32 × mm} {Q : Option Value → mm → Prop}, f_12_dealt_G n 0 b0 x0 x1 0 μ = some r → kd b0 = 12 → Q (some (.int r.1)) r.2 → Ct l E (d + n + 0) yX12_dealt m_12_dealt [.ref b0, .int x0, .int x1] μ Q) ∧ (∀ {b0 : Nat} {x0 : Int32} {x1 : Int32} {x2 : Int32} {μ : mm} {r : Int32 × mm} {Q : Option Value → mm → Prop}, f_12_dealt_G n 1 b0 x0 x1 x2 μ = some r → kd b0 = 12 → Q (some (.int r.1)) r.2 → Ct l E (d + n + 0) yX12_bodyFrom m_12_bodyFrom [.ref b0, .int x0, .int x1, .int x2] μ Q) ∧ (∀ {b0 : Nat} {x0 : Int32} {x1 : Int32} {x2 : Int32} {μ : mm} {r : Int32 × mm} {Q : Option Value → mm → Prop}, f_12_dealt_G n 2 b0 x0 x1 x2 μ = some r → kd b0 = 12 → Q (some (.int r.1)) r.2 → Ct l E (d + n + 0) yX12_body m_12_body [.ref b0, .int x0, .int x1, .int x2] μ Q) ∧ True
  | 0 => by
    refine ⟨?_, ?_, ?_, trivial⟩
    · intro b0 x0 x1 μ r Q h kb hQ
      rw [f_12_dealt_G] at h
      cases h
    · intro b0 x0 x1 x2 μ r Q h kb hQ
      rw [f_12_dealt_G] at h
      cases h
    · intro b0 x0 x1 x2 μ r Q h kb hQ
      rw [f_12_dealt_G] at h
      cases h
  | n + 1 => by
    obtain ⟨i0, i1, i2, -⟩ := ok_12_dealt_G (l := l) (E := E) (d := d) n
    refine ⟨?_, ?_, ?_, trivial⟩
    · intro b0 x0 x1 μ r Q h kb hQ
      simp only [f_12_dealt_G, if_pos] at h
      have hh := ok_12_dealt_b (l := l) (E := E) (d := d) (nf := n) (rc := f_12_dealt_G n) (fun h k q => i0 h k q) (fun h k q => i1 h k q) (fun h k q => i2 h k q) h kb hQ
      rw [show d + (n + 1) + 0 = d + n + 0 + 1 by omega]
      exact hh
    · intro b0 x0 x1 x2 μ r Q h kb hQ
      simp only [f_12_dealt_G, if_pos] at h
      have hh := ok_12_bodyFrom_b (l := l) (E := E) (d := d) (nf := n) (rc := f_12_dealt_G n) (fun h k q => i0 h k q) (fun h k q => i1 h k q) (fun h k q => i2 h k q) h kb hQ
      rw [show d + (n + 1) + 0 = d + n + 0 + 1 by omega]
      exact hh
    · intro b0 x0 x1 x2 μ r Q h kb hQ
      simp only [f_12_dealt_G, if_pos] at h
      have hh := ok_12_body_b (l := l) (E := E) (d := d) (nf := n) (rc := f_12_dealt_G n) (fun h k q => i0 h k q) (fun h k q => i1 h k q) (fun h k q => i2 h k q) h kb hQ
      rw [show d + (n + 1) + 0 = d + n + 0 + 1 by omega]
      exact hh
theorem ok_12_dealt_G_0 {l : Launch} {E : ce} {d : Nat} (n : Nat) {b0 : Nat} {x0 : Int32} {x1 : Int32} {μ : mm} {r : Int32 × mm} {Q : Option Value → mm → Prop} (h : f_12_dealt_G n 0 b0 x0 x1 0 μ = some r) (kb : kd b0 = 12) (hQ : Q (some (.int r.1)) r.2) : Ct l E (d + n + 0) yX12_dealt m_12_dealt [.ref b0, .int x0, .int x1] μ Q := (ok_12_dealt_G (l := l) (E := E) (d := d) n).1 h kb hQ
theorem ok_12_dealt_G_1 {l : Launch} {E : ce} {d : Nat} (n : Nat) {b0 : Nat} {x0 : Int32} {x1 : Int32} {x2 : Int32} {μ : mm} {r : Int32 × mm} {Q : Option Value → mm → Prop} (h : f_12_dealt_G n 1 b0 x0 x1 x2 μ = some r) (kb : kd b0 = 12) (hQ : Q (some (.int r.1)) r.2) : Ct l E (d + n + 0) yX12_bodyFrom m_12_bodyFrom [.ref b0, .int x0, .int x1, .int x2] μ Q := (ok_12_dealt_G (l := l) (E := E) (d := d) n).2.1 h kb hQ
theorem ok_12_dealt_G_2 {l : Launch} {E : ce} {d : Nat} (n : Nat) {b0 : Nat} {x0 : Int32} {x1 : Int32} {x2 : Int32} {μ : mm} {r : Int32 × mm} {Q : Option Value → mm → Prop} (h : f_12_dealt_G n 2 b0 x0 x1 x2 μ = some r) (kb : kd b0 = 12) (hQ : Q (some (.int r.1)) r.2) : Ct l E (d + n + 0) yX12_body m_12_body [.ref b0, .int x0, .int x1, .int x2] μ Q := (ok_12_dealt_G (l := l) (E := E) (d := d) n).2.2.1 h kb hQ
/-! LongStrikeModel.deal(III)I -/
def tab_12_deal : List (Nat × Instr × Nat) := [(0, .aload_n 0, 1), (1, .iconst 0, 1), (2, .putfield 319, 3), (5, .iload_n 1, 1), (6, .invokestatic 302, 3), (9, .ifCond .eq 10, 3), (12, .iload_n 2, 1), (13, .invokestatic 302, 3), (16, .ifCond .ne 7, 3), (19, .iconst (-1), 1), (20, .goto 8, 3), (23, .aload_n 0, 1), (24, .iload_n 1, 1), (25, .invokevirtual 313, 3), (28, .istore 4, 2), (30, .iload 4, 2), (32, .ifCond .ge 5, 3), (35, .iconst 0, 1), (36, .ireturn, 1), (37, .aload_n 0, 1), (38, .iload 4, 2), (40, .putfield 322, 3), (43, .aload_n 0, 1), (44, .aload_n 0, 1), (45, .getfield 71, 3), (48, .iload_n 1, 1), (49, .iaload, 1), (50, .putfield 349, 3), (53, .aload_n 0, 1), (54, .getfield 68, 3), (57, .iload_n 1, 1), (58, .iaload, 1), (59, .iconst 1, 1), (60, .if_icmp .ne 7, 3), (63, .iconst 1, 1), (64, .goto 4, 3), (67, .iconst 0, 1), (68, .istore 5, 2), (70, .aload_n 0, 1), (71, .getfield 68, 3), (74, .iload_n 1, 1), (75, .iaload, 1), (76, .iconst 2, 1), (77, .if_icmp .ne 7, 3), (80, .iconst 1, 1), (81, .goto 4, 3), (84, .iconst 0, 1), (85, .istore 6, 2), (87, .aload_n 0, 1), (88, .iload 5, 2), (90, .ifCond .eq 15, 3), (93, .aload_n 0, 1), (94, .aload_n 0, 1), (95, .getfield 349, 3), (98, .iconst 0, 1), (99, .invokevirtual 98, 3), (102, .goto 37, 3), (105, .iload 6, 2), (107, .ifCond .eq 19, 3), (110, .aload_n 0, 1), (111, .getfield 9, 3), (114, .aload_n 0, 1), (115, .getfield 349, 3), (118, .iconst 0, 1), (119, .invokestatic 95, 3), (122, .iaload, 1), (123, .goto 16, 3), (126, .aload_n 0, 1), (127, .getfield 9, 3), (130, .aload_n 0, 1), (131, .getfield 349, 3), (134, .iconst 0, 1), (135, .invokestatic 92, 3), (138, .iaload, 1), (139, .putfield 343, 3), (142, .aload_n 0, 1), (143, .iload 5, 2), (145, .ifCond .eq 15, 3), (148, .aload_n 0, 1), (149, .aload_n 0, 1), (150, .getfield 349, 3), (153, .iconst 2, 1), (154, .invokevirtual 98, 3), (157, .goto 37, 3), (160, .iload 6, 2), (162, .ifCond .eq 19, 3), (165, .aload_n 0, 1), (166, .getfield 9, 3), (169, .aload_n 0, 1), (170, .getfield 349, 3), (173, .iconst 1, 1), (174, .invokestatic 95, 3), (177, .iaload, 1), (178, .goto 16, 3), (181, .aload_n 0, 1), (182, .getfield 9, 3), (185, .aload_n 0, 1), (186, .getfield 349, 3), (189, .iconst 4, 1), (190, .invokestatic 92, 3), (193, .iaload, 1), (194, .putfield 337, 3), (197, .aload_n 0, 1), (198, .iconst 0, 1), (199, .putfield 346, 3), (202, .aload_n 0, 1), (203, .iload_n 2, 1), (204, .iload_n 3, 1), (205, .invokevirtual 340, 3), (208, .istore 7, 2), (210, .aload_n 0, 1), (211, .getfield 346, 3), (214, .ifCond .eq 8, 3), (217, .bipush (-15), 2), (219, .goto 5, 3), (222, .iload 7, 2), (224, .ireturn, 1)]
set_option maxRecDepth 100000 in
theorem dt_12_deal : ∀ q ∈ tab_12_deal, decode m_12_deal.2.1 q.1 = .ok q.2 := by decide +kernel
def f_12_deal (a0 : Nat) (a1 : Int32) (a2 : Int32) (a3 : Int32) (μ : mm) : Option (Int32 × mm) :=
  (pf μ a0 33 0).bind fun μ1 =>
  (f_12_isFour a1 μ1).bind fun x4 =>
  (if x4 = 0 then
      some (-1)
    else
      (f_12_isFour a2 μ1).bind fun x6 =>
      if x6 = 0 then
        some (-1)
      else
        (f_12_kindOn a0 a1 μ1).bind fun x8 =>
        some x8).bind fun (z9 : Int32) =>
  if 0 ≤ z9 then
    (pf μ1 a0 34 z9).bind fun μ10 =>
    (ld μ10 (rf a0 30) a1).bind fun x12 =>
    (pf μ10 a0 35 x12).bind fun μ14 =>
    (ld μ14 (rf a0 29) a1).bind fun x16 =>
    (if x16 = 1 then
        some 1
      else
        some 0).bind fun (z18 : Int32) =>
    (ld μ14 (rf a0 29) a1).bind fun x19 =>
    (if x19 = 2 then
        some 1
      else
        some 0).bind fun (z21 : Int32) =>
    (if z18 = 0 then
        if z21 = 0 then
          (f_12_ofPit (μ14 a0 35) 0 μ14).bind fun x23 =>
          (ld μ14 (rf a0 0) x23).bind fun x24 =>
          some x24
        else
          (f_12_ofShop (μ14 a0 35) 0 μ14).bind fun x27 =>
          (ld μ14 (rf a0 0) x27).bind fun x28 =>
          some x28
      else
        (f_12_house a0 (μ14 a0 35) 0 μ14).bind fun x31 =>
        some x31).bind fun (z32 : Int32) =>
    (pf μ14 a0 36 z32).bind fun μ33 =>
    (if z18 = 0 then
        if z21 = 0 then
          (f_12_ofPit (μ33 a0 35) 4 μ33).bind fun x36 =>
          (ld μ33 (rf a0 0) x36).bind fun x37 =>
          some x37
        else
          (f_12_ofShop (μ33 a0 35) 1 μ33).bind fun x40 =>
          (ld μ33 (rf a0 0) x40).bind fun x41 =>
          some x41
      else
        (f_12_house a0 (μ33 a0 35) 2 μ33).bind fun x44 =>
        some x44).bind fun (z45 : Int32) =>
    (pf μ33 a0 37 z45).bind fun μ46 =>
    (pf μ46 a0 38 0).bind fun μ48 =>
    (f_12_dealt_G 15 0 a0 a2 a3 0 μ48).bind fun z51 =>
    if (z51.2 a0 38) = 0 then
      some (z51.1, z51.2)
    else
      some ((-15), z51.2)
  else
    some (0, μ1)
set_option maxRecDepth 100000 in
set_option maxHeartbeats 4000000 in
theorem ok_12_deal {l : Launch} {E : ce} {d : Nat}  {a0 : Nat} {a1 : Int32} {a2 : Int32} {a3 : Int32} {μ : mm} {r : Int32 × mm} {Q : Option Value → mm → Prop} (h : f_12_deal a0 a1 a2 a3 μ = some r) (k0 : kd a0 = 12) (hQ : Q (some (.int r.1)) r.2) : Ct l E (d + 16) yX12_deal m_12_deal [.ref a0, .int a1, .int a2, .int a3] μ Q := by
  refine Ct_of (lv := [some (.ref a0), some (.int a1), some (.int a2), some (.int a3), none, none, none, none]) (by decide) rfl (Nat.le_of_ble_eq_true rfl) rfl ?_
  unfold f_12_deal at h
  refine R_aload_n (dd dt_12_deal 0 rfl) 0 rfl rfl ?_
  refine R_iconst (v := 0) (dd dt_12_deal 1 rfl) ic_0 ?_
  obtain ⟨μ1, e2, h⟩ := bi_el h
  refine p_12_319 rfl k0 (dd dt_12_deal 2 rfl) e2 ?_
  refine R_iload_n (dd dt_12_deal 3 rfl) 1 rfl rfl ?_
  obtain ⟨x4, e3, h⟩ := bi_el h
  refine c_12_302 (As := [.int a1]) (st1 := [.int x4]) rfl (fun Q1 hq => ok_12_isFour e3 hq) rfl rfl (Nat.le_of_ble_eq_true rfl) (dd dt_12_deal 4 rfl) rfl ?_
  obtain ⟨z9, hz9, h⟩ := bi_el h
  have K9 : Rj l E (d + 16) m_12_deal 28 [some (.ref a0), some (.int a1), some (.int a2), some (.int a3), none, none, none, none] [.int z9] μ1 Q := by
    clear hz9
    refine R_istore (lv' := [some (.ref a0), some (.int a1), some (.int a2), some (.int a3), some (.int z9), none, none, none]) (dd dt_12_deal 14 rfl) (by decide) rfl rfl ?_
    refine R_iload (dd dt_12_deal 15 rfl) rfl ?_
    refine R_ifge (dd dt_12_deal 16 rfl) (tgt := 37) rfl (fun hc => ?_) (fun hc => ?_)
    · rw [if_pos hc] at h
      refine R_aload_n (dd dt_12_deal 19 rfl) 0 rfl rfl ?_
      refine R_iload (dd dt_12_deal 20 rfl) rfl ?_
      obtain ⟨μ10, e11, h⟩ := bi_el h
      refine p_12_322 rfl k0 (dd dt_12_deal 21 rfl) e11 ?_
      refine R_aload_n (dd dt_12_deal 22 rfl) 0 rfl rfl ?_
      refine R_aload_n (dd dt_12_deal 23 rfl) 0 rfl rfl ?_
      refine g_12_71 rfl k0 (dd dt_12_deal 24 rfl) ?_
      refine R_iload_n (dd dt_12_deal 25 rfl) 1 rfl rfl ?_
      obtain ⟨x12, e13, h⟩ := bi_el h
      refine R_ild e13 (ty_12_30 k0) (dd dt_12_deal 26 rfl) ?_
      obtain ⟨μ14, e15, h⟩ := bi_el h
      refine p_12_349 rfl k0 (dd dt_12_deal 27 rfl) e15 ?_
      refine R_aload_n (dd dt_12_deal 28 rfl) 0 rfl rfl ?_
      refine g_12_68 rfl k0 (dd dt_12_deal 29 rfl) ?_
      refine R_iload_n (dd dt_12_deal 30 rfl) 1 rfl rfl ?_
      obtain ⟨x16, e17, h⟩ := bi_el h
      refine R_ild e17 (ty_12_29 k0) (dd dt_12_deal 31 rfl) ?_
      refine R_iconst (v := 1) (dd dt_12_deal 32 rfl) ic_1 ?_
      obtain ⟨z18, hz18, h⟩ := bi_el h
      have K18 : Rj l E (d + 16) m_12_deal 68 [some (.ref a0), some (.int a1), some (.int a2), some (.int a3), none, none, none, none] [.int z18] μ14 Q := by
        clear hz18
        refine R_istore (lv' := [some (.ref a0), some (.int a1), some (.int a2), some (.int a3), none, some (.int z18), none, none]) (dd dt_12_deal 37 rfl) (by decide) rfl rfl ?_
        refine R_aload_n (dd dt_12_deal 38 rfl) 0 rfl rfl ?_
        refine g_12_68 rfl k0 (dd dt_12_deal 39 rfl) ?_
        refine R_iload_n (dd dt_12_deal 40 rfl) 1 rfl rfl ?_
        obtain ⟨x19, e20, h⟩ := bi_el h
        refine R_ild e20 (ty_12_29 k0) (dd dt_12_deal 41 rfl) ?_
        refine R_iconst (v := 2) (dd dt_12_deal 42 rfl) ic_2 ?_
        obtain ⟨z21, hz21, h⟩ := bi_el h
        have K21 : Rj l E (d + 16) m_12_deal 85 [some (.ref a0), none, some (.int a2), some (.int a3), none, some (.int z18), none, none] [.int z21] μ14 Q := by
          clear hz21
          refine R_istore (lv' := [some (.ref a0), none, some (.int a2), some (.int a3), none, some (.int z18), some (.int z21), none]) (dd dt_12_deal 47 rfl) (by decide) rfl rfl ?_
          refine R_aload_n (dd dt_12_deal 48 rfl) 0 rfl rfl ?_
          refine R_iload (dd dt_12_deal 49 rfl) rfl ?_
          obtain ⟨z32, hz32, h⟩ := bi_el h
          have K32 : Rj l E (d + 16) m_12_deal 139 [some (.ref a0), none, some (.int a2), some (.int a3), none, some (.int z18), some (.int z21), none] [.int z32, .ref a0] μ14 Q := by
            clear hz32
            obtain ⟨μ33, e34, h⟩ := bi_el h
            refine p_12_343 rfl k0 (dd dt_12_deal 74 rfl) e34 ?_
            refine R_aload_n (dd dt_12_deal 75 rfl) 0 rfl rfl ?_
            refine R_iload (dd dt_12_deal 76 rfl) rfl ?_
            obtain ⟨z45, hz45, h⟩ := bi_el h
            have K45 : Rj l E (d + 16) m_12_deal 194 [some (.ref a0), none, some (.int a2), some (.int a3), none, none, none, none] [.int z45, .ref a0] μ33 Q := by
              clear hz45
              obtain ⟨μ46, e47, h⟩ := bi_el h
              refine p_12_337 rfl k0 (dd dt_12_deal 101 rfl) e47 ?_
              refine R_aload_n (dd dt_12_deal 102 rfl) 0 rfl rfl ?_
              refine R_iconst (v := 0) (dd dt_12_deal 103 rfl) ic_0 ?_
              obtain ⟨μ48, e49, h⟩ := bi_el h
              refine p_12_346 rfl k0 (by decide) (dd dt_12_deal 104 rfl) e49 ?_
              refine R_aload_n (dd dt_12_deal 105 rfl) 0 rfl rfl ?_
              refine R_iload_n (dd dt_12_deal 106 rfl) 2 rfl rfl ?_
              refine R_iload_n (dd dt_12_deal 107 rfl) 3 rfl rfl ?_
              obtain ⟨z51, e50, h⟩ := bi_el h
              refine c_12_340 (As := [.int a2, .int a3]) (st1 := [.int z51.1]) rfl (fun Q1 hq => ok_12_dealt_G_0 _ e50 k0 hq) k0 rfl rfl (Nat.le_of_ble_eq_true rfl) (dd dt_12_deal 108 rfl) rfl ?_
              refine R_istore (lv' := [some (.ref a0), none, some (.int a2), some (.int a3), none, none, none, some (.int z51.1)]) (dd dt_12_deal 109 rfl) (by decide) rfl rfl ?_
              refine R_aload_n (dd dt_12_deal 110 rfl) 0 rfl rfl ?_
              refine g_12_346 rfl k0 (dd dt_12_deal 111 rfl) ?_
              refine R_ifeq (dd dt_12_deal 112 rfl) (tgt := 222) rfl (fun hc => ?_) (fun hc => ?_)
              · rw [if_pos hc] at h
                refine R_iload (dd dt_12_deal 115 rfl) rfl ?_
                obtain rfl := Option.some.inj h
                exact R_iret rfl (dd dt_12_deal 116 rfl) hQ
              · rw [if_neg hc] at h
                refine R_bipush (v := (-15)) (dd dt_12_deal 113 rfl) bp_m15 ?_
                refine R_goto (dd dt_12_deal 114 rfl) (tgt := 224) rfl ?_
                obtain rfl := Option.some.inj h
                exact R_iret rfl (dd dt_12_deal 116 rfl) hQ
            clear h
            have h := hz45
            clear hz45
            refine R_ifeq (dd dt_12_deal 77 rfl) (tgt := 160) rfl (fun hc => ?_) (fun hc => ?_)
            · rw [if_pos hc] at h
              refine R_iload (dd dt_12_deal 84 rfl) rfl ?_
              refine R_ifeq (dd dt_12_deal 85 rfl) (tgt := 181) rfl (fun hc => ?_) (fun hc => ?_)
              · rw [if_pos hc] at h
                refine R_aload_n (dd dt_12_deal 94 rfl) 0 rfl rfl ?_
                refine g_12_9 rfl k0 (dd dt_12_deal 95 rfl) ?_
                refine R_aload_n (dd dt_12_deal 96 rfl) 0 rfl rfl ?_
                refine g_12_349 rfl k0 (dd dt_12_deal 97 rfl) ?_
                refine R_iconst (v := 4) (dd dt_12_deal 98 rfl) ic_4 ?_
                obtain ⟨x36, e35, h⟩ := bi_el h
                refine c_12_92 (As := [.int (μ33 a0 35), .int 4]) (st1 := [.int x36, .ref (rf a0 0), .ref a0]) rfl (fun Q1 hq => ok_12_ofPit e35 hq) rfl rfl (Nat.le_of_ble_eq_true rfl) (dd dt_12_deal 99 rfl) rfl ?_
                obtain ⟨x37, e38, h⟩ := bi_el h
                refine R_ild e38 (ty_12_0 k0) (dd dt_12_deal 100 rfl) ?_
                obtain rfl := Option.some.inj h
                exact R_mask [true, false, true, true, false, false, false, false] rfl K45
              · rw [if_neg hc] at h
                refine R_aload_n (dd dt_12_deal 86 rfl) 0 rfl rfl ?_
                refine g_12_9 rfl k0 (dd dt_12_deal 87 rfl) ?_
                refine R_aload_n (dd dt_12_deal 88 rfl) 0 rfl rfl ?_
                refine g_12_349 rfl k0 (dd dt_12_deal 89 rfl) ?_
                refine R_iconst (v := 1) (dd dt_12_deal 90 rfl) ic_1 ?_
                obtain ⟨x40, e39, h⟩ := bi_el h
                refine c_12_95 (As := [.int (μ33 a0 35), .int 1]) (st1 := [.int x40, .ref (rf a0 0), .ref a0]) rfl (fun Q1 hq => ok_12_ofShop e39 hq) rfl rfl (Nat.le_of_ble_eq_true rfl) (dd dt_12_deal 91 rfl) rfl ?_
                obtain ⟨x41, e42, h⟩ := bi_el h
                refine R_ild e42 (ty_12_0 k0) (dd dt_12_deal 92 rfl) ?_
                refine R_goto (dd dt_12_deal 93 rfl) (tgt := 194) rfl ?_
                obtain rfl := Option.some.inj h
                exact R_mask [true, false, true, true, false, false, false, false] rfl K45
            · rw [if_neg hc] at h
              refine R_aload_n (dd dt_12_deal 78 rfl) 0 rfl rfl ?_
              refine R_aload_n (dd dt_12_deal 79 rfl) 0 rfl rfl ?_
              refine g_12_349 rfl k0 (dd dt_12_deal 80 rfl) ?_
              refine R_iconst (v := 2) (dd dt_12_deal 81 rfl) ic_2 ?_
              obtain ⟨x44, e43, h⟩ := bi_el h
              refine c_12_98 (As := [.int (μ33 a0 35), .int 2]) (st1 := [.int x44, .ref a0]) rfl (fun Q1 hq => ok_12_house e43 k0 hq) k0 rfl rfl (Nat.le_of_ble_eq_true rfl) (dd dt_12_deal 82 rfl) rfl ?_
              refine R_goto (dd dt_12_deal 83 rfl) (tgt := 194) rfl ?_
              obtain rfl := Option.some.inj h
              exact R_mask [true, false, true, true, false, false, false, false] rfl K45
          clear h
          have h := hz32
          clear hz32
          refine R_ifeq (dd dt_12_deal 50 rfl) (tgt := 105) rfl (fun hc => ?_) (fun hc => ?_)
          · rw [if_pos hc] at h
            refine R_iload (dd dt_12_deal 57 rfl) rfl ?_
            refine R_ifeq (dd dt_12_deal 58 rfl) (tgt := 126) rfl (fun hc => ?_) (fun hc => ?_)
            · rw [if_pos hc] at h
              refine R_aload_n (dd dt_12_deal 67 rfl) 0 rfl rfl ?_
              refine g_12_9 rfl k0 (dd dt_12_deal 68 rfl) ?_
              refine R_aload_n (dd dt_12_deal 69 rfl) 0 rfl rfl ?_
              refine g_12_349 rfl k0 (dd dt_12_deal 70 rfl) ?_
              refine R_iconst (v := 0) (dd dt_12_deal 71 rfl) ic_0 ?_
              obtain ⟨x23, e22, h⟩ := bi_el h
              refine c_12_92 (As := [.int (μ14 a0 35), .int 0]) (st1 := [.int x23, .ref (rf a0 0), .ref a0]) rfl (fun Q1 hq => ok_12_ofPit e22 hq) rfl rfl (Nat.le_of_ble_eq_true rfl) (dd dt_12_deal 72 rfl) rfl ?_
              obtain ⟨x24, e25, h⟩ := bi_el h
              refine R_ild e25 (ty_12_0 k0) (dd dt_12_deal 73 rfl) ?_
              obtain rfl := Option.some.inj h
              exact R_mask [true, false, true, true, false, true, true, false] rfl K32
            · rw [if_neg hc] at h
              refine R_aload_n (dd dt_12_deal 59 rfl) 0 rfl rfl ?_
              refine g_12_9 rfl k0 (dd dt_12_deal 60 rfl) ?_
              refine R_aload_n (dd dt_12_deal 61 rfl) 0 rfl rfl ?_
              refine g_12_349 rfl k0 (dd dt_12_deal 62 rfl) ?_
              refine R_iconst (v := 0) (dd dt_12_deal 63 rfl) ic_0 ?_
              obtain ⟨x27, e26, h⟩ := bi_el h
              refine c_12_95 (As := [.int (μ14 a0 35), .int 0]) (st1 := [.int x27, .ref (rf a0 0), .ref a0]) rfl (fun Q1 hq => ok_12_ofShop e26 hq) rfl rfl (Nat.le_of_ble_eq_true rfl) (dd dt_12_deal 64 rfl) rfl ?_
              obtain ⟨x28, e29, h⟩ := bi_el h
              refine R_ild e29 (ty_12_0 k0) (dd dt_12_deal 65 rfl) ?_
              refine R_goto (dd dt_12_deal 66 rfl) (tgt := 139) rfl ?_
              obtain rfl := Option.some.inj h
              exact R_mask [true, false, true, true, false, true, true, false] rfl K32
          · rw [if_neg hc] at h
            refine R_aload_n (dd dt_12_deal 51 rfl) 0 rfl rfl ?_
            refine R_aload_n (dd dt_12_deal 52 rfl) 0 rfl rfl ?_
            refine g_12_349 rfl k0 (dd dt_12_deal 53 rfl) ?_
            refine R_iconst (v := 0) (dd dt_12_deal 54 rfl) ic_0 ?_
            obtain ⟨x31, e30, h⟩ := bi_el h
            refine c_12_98 (As := [.int (μ14 a0 35), .int 0]) (st1 := [.int x31, .ref a0]) rfl (fun Q1 hq => ok_12_house e30 k0 hq) k0 rfl rfl (Nat.le_of_ble_eq_true rfl) (dd dt_12_deal 55 rfl) rfl ?_
            refine R_goto (dd dt_12_deal 56 rfl) (tgt := 139) rfl ?_
            obtain rfl := Option.some.inj h
            exact R_mask [true, false, true, true, false, true, true, false] rfl K32
        clear h
        have h := hz21
        clear hz21
        refine R_cmpne (dd dt_12_deal 43 rfl) (tgt := 84) rfl (fun hc => ?_) (fun hc => ?_)
        · rw [if_neg hc] at h
          refine R_iconst (v := 0) (dd dt_12_deal 46 rfl) ic_0 ?_
          obtain rfl := Option.some.inj h
          exact R_mask [true, false, true, true, false, true, false, false] rfl K21
        · rw [if_pos hc] at h
          refine R_iconst (v := 1) (dd dt_12_deal 44 rfl) ic_1 ?_
          refine R_goto (dd dt_12_deal 45 rfl) (tgt := 85) rfl ?_
          obtain rfl := Option.some.inj h
          exact R_mask [true, false, true, true, false, true, false, false] rfl K21
      clear h
      have h := hz18
      clear hz18
      refine R_cmpne (dd dt_12_deal 33 rfl) (tgt := 67) rfl (fun hc => ?_) (fun hc => ?_)
      · rw [if_neg hc] at h
        refine R_iconst (v := 0) (dd dt_12_deal 36 rfl) ic_0 ?_
        obtain rfl := Option.some.inj h
        exact R_mask [true, true, true, true, false, false, false, false] rfl K18
      · rw [if_pos hc] at h
        refine R_iconst (v := 1) (dd dt_12_deal 34 rfl) ic_1 ?_
        refine R_goto (dd dt_12_deal 35 rfl) (tgt := 68) rfl ?_
        obtain rfl := Option.some.inj h
        exact R_mask [true, true, true, true, false, false, false, false] rfl K18
    · rw [if_neg hc] at h
      refine R_iconst (v := 0) (dd dt_12_deal 17 rfl) ic_0 ?_
      obtain rfl := Option.some.inj h
      exact R_iret rfl (dd dt_12_deal 18 rfl) hQ
  clear h
  have h := hz9
  clear hz9
  refine R_ifeq (dd dt_12_deal 5 rfl) (tgt := 19) rfl (fun hc => ?_) (fun hc => ?_)
  · rw [if_pos hc] at h
    refine R_iconst (v := (-1)) (dd dt_12_deal 9 rfl) ic_m1 ?_
    refine R_goto (dd dt_12_deal 10 rfl) (tgt := 28) rfl ?_
    obtain rfl := Option.some.inj h
    exact R_mask [true, true, true, true, false, false, false, false] rfl K9
  · rw [if_neg hc] at h
    refine R_iload_n (dd dt_12_deal 6 rfl) 2 rfl rfl ?_
    obtain ⟨x6, e5, h⟩ := bi_el h
    refine c_12_302 (As := [.int a2]) (st1 := [.int x6]) rfl (fun Q1 hq => ok_12_isFour e5 hq) rfl rfl (Nat.le_of_ble_eq_true rfl) (dd dt_12_deal 7 rfl) rfl ?_
    refine R_ifne (dd dt_12_deal 8 rfl) (tgt := 23) rfl (fun hc => ?_) (fun hc => ?_)
    · rw [if_neg hc] at h
      refine R_aload_n (dd dt_12_deal 11 rfl) 0 rfl rfl ?_
      refine R_iload_n (dd dt_12_deal 12 rfl) 1 rfl rfl ?_
      obtain ⟨x8, e7, h⟩ := bi_el h
      refine c_12_313 (As := [.int a1]) (st1 := [.int x8]) rfl (fun Q1 hq => ok_12_kindOn e7 k0 hq) k0 rfl rfl (Nat.le_of_ble_eq_true rfl) (dd dt_12_deal 13 rfl) rfl ?_
      obtain rfl := Option.some.inj h
      exact R_mask [true, true, true, true, false, false, false, false] rfl K9
    · rw [if_pos hc] at h
      refine R_iconst (v := (-1)) (dd dt_12_deal 9 rfl) ic_m1 ?_
      refine R_goto (dd dt_12_deal 10 rfl) (tgt := 28) rfl ?_
      obtain rfl := Option.some.inj h
      exact R_mask [true, true, true, true, false, false, false, false] rfl K9
/-! LongStrikeModel.trace(I)I -/
def tab_12_trace : List (Nat × Instr × Nat) := [(0, .iload_n 1, 1), (1, .iconst 0, 1), (2, .aload_n 0, 1), (3, .getfield 319, 3), (6, .iconst 1, 1), (7, .isub, 1), (8, .invokestatic 80, 3), (11, .ifCond .eq 12, 3), (14, .aload_n 0, 1), (15, .getfield 77, 3), (18, .iload_n 1, 1), (19, .iaload, 1), (20, .goto 5, 3), (23, .bipush (-3), 2), (25, .ireturn, 1)]
set_option maxRecDepth 100000 in
theorem dt_12_trace : ∀ q ∈ tab_12_trace, decode m_12_trace.2.1 q.1 = .ok q.2 := by decide +kernel
def f_12_trace (a0 : Nat) (a1 : Int32) (μ : mm) : Option (Int32) :=
  (f_12_within a1 0 ((μ a0 33) - 1) μ).bind fun x2 =>
  if x2 = 0 then
    some (-3)
  else
    (ld μ (rf a0 32) a1).bind fun x3 =>
    some x3
set_option maxRecDepth 100000 in
set_option maxHeartbeats 4000000 in
theorem ok_12_trace {l : Launch} {E : ce} {d : Nat}  {a0 : Nat} {a1 : Int32} {μ : mm} {r : Int32} {Q : Option Value → mm → Prop} (h : f_12_trace a0 a1 μ = some r) (k0 : kd a0 = 12) (hQ : Q (some (.int r)) μ) : Ct l E (d + 1) yX12_trace m_12_trace [.ref a0, .int a1] μ Q := by
  refine Ct_of (lv := [some (.ref a0), some (.int a1)]) (by decide) rfl (Nat.le_of_ble_eq_true rfl) rfl ?_
  unfold f_12_trace at h
  refine R_iload_n (dd dt_12_trace 0 rfl) 1 rfl rfl ?_
  refine R_iconst (v := 0) (dd dt_12_trace 1 rfl) ic_0 ?_
  refine R_aload_n (dd dt_12_trace 2 rfl) 0 rfl rfl ?_
  refine g_12_319 rfl k0 (dd dt_12_trace 3 rfl) ?_
  refine R_iconst (v := 1) (dd dt_12_trace 4 rfl) ic_1 ?_
  refine R_isub (dd dt_12_trace 5 rfl) ?_
  obtain ⟨x2, e1, h⟩ := bi_el h
  refine c_12_80 (As := [.int a1, .int 0, .int ((μ a0 33) - 1)]) (st1 := [.int x2]) rfl (fun Q1 hq => ok_12_within e1 hq) rfl rfl (Nat.le_of_ble_eq_true rfl) (dd dt_12_trace 6 rfl) rfl ?_
  refine R_ifeq (dd dt_12_trace 7 rfl) (tgt := 23) rfl (fun hc => ?_) (fun hc => ?_)
  · rw [if_pos hc] at h
    refine R_bipush (v := (-3)) (dd dt_12_trace 13 rfl) bp_m3 ?_
    obtain rfl := Option.some.inj h
    exact R_iret rfl (dd dt_12_trace 14 rfl) hQ
  · rw [if_neg hc] at h
    refine R_aload_n (dd dt_12_trace 8 rfl) 0 rfl rfl ?_
    refine g_12_77 rfl k0 (dd dt_12_trace 9 rfl) ?_
    refine R_iload_n (dd dt_12_trace 10 rfl) 1 rfl rfl ?_
    obtain ⟨x3, e4, h⟩ := bi_el h
    refine R_ild e4 (ty_12_32 k0) (dd dt_12_trace 11 rfl) ?_
    refine R_goto (dd dt_12_trace 12 rfl) (tgt := 25) rfl ?_
    obtain rfl := Option.some.inj h
    exact R_iret rfl (dd dt_12_trace 14 rfl) hQ
/-! LongStrikeModel.many(I)I -/
def tab_12_many : List (Nat × Instr × Nat) := [(0, .iload_n 1, 1), (1, .tableswitch 188 0 16 #[83, 90, 90, 90, 90, 90, 90, 90, 102, 109, 116, 124, 132, 137, 145, 150, 155], 83), (84, .aload_n 0, 1), (85, .getfield 9, 3), (88, .iconst 0, 1), (89, .iaload, 1), (90, .ireturn, 1), (91, .aload_n 0, 1), (92, .getfield 9, 3), (95, .bipush 8, 2), (97, .iload_n 1, 1), (98, .iadd, 1), (99, .iconst 1, 1), (100, .isub, 1), (101, .iaload, 1), (102, .ireturn, 1), (103, .aload_n 0, 1), (104, .getfield 9, 3), (107, .iconst 1, 1), (108, .iaload, 1), (109, .ireturn, 1), (110, .aload_n 0, 1), (111, .getfield 9, 3), (114, .iconst 2, 1), (115, .iaload, 1), (116, .ireturn, 1), (117, .aload_n 0, 1), (118, .getfield 9, 3), (121, .bipush 15, 2), (123, .iaload, 1), (124, .ireturn, 1), (125, .aload_n 0, 1), (126, .getfield 9, 3), (129, .bipush 16, 2), (131, .iaload, 1), (132, .ireturn, 1), (133, .aload_n 0, 1), (134, .getfield 283, 3), (137, .ireturn, 1), (138, .aload_n 0, 1), (139, .getfield 9, 3), (142, .bipush 17, 2), (144, .iaload, 1), (145, .ireturn, 1), (146, .aload_n 0, 1), (147, .getfield 130, 3), (150, .ireturn, 1), (151, .aload_n 0, 1), (152, .getfield 319, 3), (155, .ireturn, 1), (156, .iconst 0, 1), (157, .istore_n 2, 1), (158, .iconst 0, 1), (159, .istore_n 3, 1), (160, .iload_n 3, 1), (161, .aload_n 0, 1), (162, .getfield 9, 3), (165, .bipush 11, 2), (167, .iaload, 1), (168, .if_icmp .ge 19, 3), (171, .iload_n 2, 1), (172, .aload_n 0, 1), (173, .iload_n 3, 1), (174, .bipush 10, 2), (176, .invokevirtual 98, 3), (179, .iadd, 1), (180, .istore_n 2, 1), (181, .iinc 3 1, 3), (184, .goto (-24), 3), (187, .iload_n 2, 1), (188, .ireturn, 1), (189, .iconst (-1), 1), (190, .ireturn, 1)]
set_option maxRecDepth 100000 in
theorem dt_12_many : ∀ q ∈ tab_12_many, decode m_12_many.2.1 q.1 = .ok q.2 := by decide +kernel
def f_12_many_l160 (a0 : Nat) (μ : mm) : Nat → Int32 → Int32 → Option (Int32)
  | 0, _, _ => none
  | n + 1, v2, v3 => (ld μ (rf a0 0) 11).bind fun x1 =>
    if x1 ≤ v3 then
      some v2
    else
      (f_12_house a0 v3 10 μ).bind fun x4 =>
      f_12_many_l160 a0 μ n (v2 + x4) (v3 + 1)
set_option maxRecDepth 100000 in
theorem ok_12_many_l160 {l : Launch} {E : ce} {d : Nat} {Q : Option Value → mm → Prop} (a0 : Nat) (μ : mm) (k0 : kd a0 = 12) : ∀ (n : Nat) (v2 : Int32) (v3 : Int32) (z : Int32), f_12_many_l160 a0 μ n v2 v3 = some z → Rj l E (d + 1) m_12_many 187 [none, none, some (.int z), none] [] μ Q → Rj l E (d + 1) m_12_many 160 [some (.ref a0), none, some (.int v2), some (.int v3)] [] μ Q
  | 0, _, _, z, h, _ => by
    rw [f_12_many_l160] at h
    cases h
  | n + 1, v2, v3, z, h, KX => by
    rw [f_12_many_l160] at h
    refine R_iload_n (dd dt_12_many 54 rfl) 3 rfl rfl ?_
    refine R_aload_n (dd dt_12_many 55 rfl) 0 rfl rfl ?_
    refine g_12_9 rfl k0 (dd dt_12_many 56 rfl) ?_
    refine R_bipush (v := 11) (dd dt_12_many 57 rfl) bp_11 ?_
    obtain ⟨x1, e2, h⟩ := bi_el h
    refine R_ild e2 (ty_12_0 k0) (dd dt_12_many 58 rfl) ?_
    refine R_cmpge (dd dt_12_many 59 rfl) (tgt := 187) rfl (fun hc => ?_) (fun hc => ?_)
    · rw [if_pos hc] at h
      obtain rfl := Option.some.inj h
      exact R_mask [false, false, true, false] rfl KX
    · rw [if_neg hc] at h
      refine R_iload_n (dd dt_12_many 60 rfl) 2 rfl rfl ?_
      refine R_aload_n (dd dt_12_many 61 rfl) 0 rfl rfl ?_
      refine R_iload_n (dd dt_12_many 62 rfl) 3 rfl rfl ?_
      refine R_bipush (v := 10) (dd dt_12_many 63 rfl) bp_10 ?_
      obtain ⟨x4, e3, h⟩ := bi_el h
      refine c_12_98 (As := [.int v3, .int 10]) (st1 := [.int x4, .int v2]) rfl (fun Q1 hq => ok_12_house e3 k0 hq) k0 rfl rfl (Nat.le_of_ble_eq_true rfl) (dd dt_12_many 64 rfl) rfl ?_
      refine R_iadd (dd dt_12_many 65 rfl) ?_
      refine R_istore_n (lv' := [some (.ref a0), none, some (.int (v2 + x4)), some (.int v3)]) (dd dt_12_many 66 rfl) 2 rfl (by decide) rfl rfl ?_
      refine R_iinc (v := 1) (lv' := [some (.ref a0), none, some (.int (v2 + x4)), some (.int (v3 + 1))]) (dd dt_12_many 67 rfl) (by decide) rfl rfl ic_1 rfl ?_
      refine R_goto (dd dt_12_many 68 rfl) (tgt := 160) rfl ?_
      exact R_mask [true, false, true, true] rfl (ok_12_many_l160 a0 μ k0 n (v2 + x4) (v3 + 1) _ h KX)
def f_12_many (a0 : Nat) (a1 : Int32) (μ : mm) : Option (Int32) :=
  if a1 = 0 then
    (ld μ (rf a0 0) 0).bind fun x1 =>
    some x1
  else if a1 = 1 then
    (ld μ (rf a0 0) ((8 + a1) - 1)).bind fun x3 =>
    some x3
  else if a1 = 2 then
    (ld μ (rf a0 0) ((8 + a1) - 1)).bind fun x5 =>
    some x5
  else if a1 = 3 then
    (ld μ (rf a0 0) ((8 + a1) - 1)).bind fun x7 =>
    some x7
  else if a1 = 4 then
    (ld μ (rf a0 0) ((8 + a1) - 1)).bind fun x9 =>
    some x9
  else if a1 = 5 then
    (ld μ (rf a0 0) ((8 + a1) - 1)).bind fun x11 =>
    some x11
  else if a1 = 6 then
    (ld μ (rf a0 0) ((8 + a1) - 1)).bind fun x13 =>
    some x13
  else if a1 = 7 then
    (ld μ (rf a0 0) ((8 + a1) - 1)).bind fun x15 =>
    some x15
  else if a1 = 8 then
    (ld μ (rf a0 0) 1).bind fun x17 =>
    some x17
  else if a1 = 9 then
    (ld μ (rf a0 0) 2).bind fun x19 =>
    some x19
  else if a1 = 10 then
    (ld μ (rf a0 0) 15).bind fun x21 =>
    some x21
  else if a1 = 11 then
    (ld μ (rf a0 0) 16).bind fun x23 =>
    some x23
  else if a1 = 12 then
    some (μ a0 8)
  else if a1 = 13 then
    (ld μ (rf a0 0) 17).bind fun x25 =>
    some x25
  else if a1 = 14 then
    some (μ a0 5)
  else if a1 = 15 then
    some (μ a0 33)
  else if a1 = 16 then
    (f_12_many_l160 a0 μ FU 0 0).bind fun z27 =>
    some z27
  else 
    some (-1)
set_option maxRecDepth 100000 in
set_option maxHeartbeats 4000000 in
theorem ok_12_many {l : Launch} {E : ce} {d : Nat}  {a0 : Nat} {a1 : Int32} {μ : mm} {r : Int32} {Q : Option Value → mm → Prop} (h : f_12_many a0 a1 μ = some r) (k0 : kd a0 = 12) (hQ : Q (some (.int r)) μ) : Ct l E (d + 1) yX12_many m_12_many [.ref a0, .int a1] μ Q := by
  refine Ct_of (lv := [some (.ref a0), some (.int a1), none, none]) (by decide) rfl (Nat.le_of_ble_eq_true rfl) rfl ?_
  unfold f_12_many at h
  refine R_iload_n (dd dt_12_many 0 rfl) 1 rfl rfl ?_
  by_cases hs0 : a1 = 0
  · refine R_tabIn (off := 83) (tgt := 84) (dd dt_12_many 1 rfl) (by rw [hs0]; decide) (by rw [hs0]; decide) (by rw [hs0]; rfl) rfl ?_
    rw [if_pos hs0] at h
    refine R_aload_n (dd dt_12_many 2 rfl) 0 rfl rfl ?_
    refine g_12_9 rfl k0 (dd dt_12_many 3 rfl) ?_
    refine R_iconst (v := 0) (dd dt_12_many 4 rfl) ic_0 ?_
    obtain ⟨x1, e2, h⟩ := bi_el h
    refine R_ild e2 (ty_12_0 k0) (dd dt_12_many 5 rfl) ?_
    obtain rfl := Option.some.inj h
    exact R_iret rfl (dd dt_12_many 6 rfl) hQ
  rw [if_neg hs0] at h
  by_cases hs1 : a1 = 1
  · refine R_tabIn (off := 90) (tgt := 91) (dd dt_12_many 1 rfl) (by rw [hs1]; decide) (by rw [hs1]; decide) (by rw [hs1]; rfl) rfl ?_
    rw [if_pos hs1] at h
    refine R_aload_n (dd dt_12_many 7 rfl) 0 rfl rfl ?_
    refine g_12_9 rfl k0 (dd dt_12_many 8 rfl) ?_
    refine R_bipush (v := 8) (dd dt_12_many 9 rfl) bp_8 ?_
    refine R_iload_n (dd dt_12_many 10 rfl) 1 rfl rfl ?_
    refine R_iadd (dd dt_12_many 11 rfl) ?_
    refine R_iconst (v := 1) (dd dt_12_many 12 rfl) ic_1 ?_
    refine R_isub (dd dt_12_many 13 rfl) ?_
    obtain ⟨x3, e4, h⟩ := bi_el h
    refine R_ild e4 (ty_12_0 k0) (dd dt_12_many 14 rfl) ?_
    obtain rfl := Option.some.inj h
    exact R_iret rfl (dd dt_12_many 15 rfl) hQ
  rw [if_neg hs1] at h
  by_cases hs2 : a1 = 2
  · refine R_tabIn (off := 90) (tgt := 91) (dd dt_12_many 1 rfl) (by rw [hs2]; decide) (by rw [hs2]; decide) (by rw [hs2]; rfl) rfl ?_
    rw [if_pos hs2] at h
    refine R_aload_n (dd dt_12_many 7 rfl) 0 rfl rfl ?_
    refine g_12_9 rfl k0 (dd dt_12_many 8 rfl) ?_
    refine R_bipush (v := 8) (dd dt_12_many 9 rfl) bp_8 ?_
    refine R_iload_n (dd dt_12_many 10 rfl) 1 rfl rfl ?_
    refine R_iadd (dd dt_12_many 11 rfl) ?_
    refine R_iconst (v := 1) (dd dt_12_many 12 rfl) ic_1 ?_
    refine R_isub (dd dt_12_many 13 rfl) ?_
    obtain ⟨x5, e6, h⟩ := bi_el h
    refine R_ild e6 (ty_12_0 k0) (dd dt_12_many 14 rfl) ?_
    obtain rfl := Option.some.inj h
    exact R_iret rfl (dd dt_12_many 15 rfl) hQ
  rw [if_neg hs2] at h
  by_cases hs3 : a1 = 3
  · refine R_tabIn (off := 90) (tgt := 91) (dd dt_12_many 1 rfl) (by rw [hs3]; decide) (by rw [hs3]; decide) (by rw [hs3]; rfl) rfl ?_
    rw [if_pos hs3] at h
    refine R_aload_n (dd dt_12_many 7 rfl) 0 rfl rfl ?_
    refine g_12_9 rfl k0 (dd dt_12_many 8 rfl) ?_
    refine R_bipush (v := 8) (dd dt_12_many 9 rfl) bp_8 ?_
    refine R_iload_n (dd dt_12_many 10 rfl) 1 rfl rfl ?_
    refine R_iadd (dd dt_12_many 11 rfl) ?_
    refine R_iconst (v := 1) (dd dt_12_many 12 rfl) ic_1 ?_
    refine R_isub (dd dt_12_many 13 rfl) ?_
    obtain ⟨x7, e8, h⟩ := bi_el h
    refine R_ild e8 (ty_12_0 k0) (dd dt_12_many 14 rfl) ?_
    obtain rfl := Option.some.inj h
    exact R_iret rfl (dd dt_12_many 15 rfl) hQ
  rw [if_neg hs3] at h
  by_cases hs4 : a1 = 4
  · refine R_tabIn (off := 90) (tgt := 91) (dd dt_12_many 1 rfl) (by rw [hs4]; decide) (by rw [hs4]; decide) (by rw [hs4]; rfl) rfl ?_
    rw [if_pos hs4] at h
    refine R_aload_n (dd dt_12_many 7 rfl) 0 rfl rfl ?_
    refine g_12_9 rfl k0 (dd dt_12_many 8 rfl) ?_
    refine R_bipush (v := 8) (dd dt_12_many 9 rfl) bp_8 ?_
    refine R_iload_n (dd dt_12_many 10 rfl) 1 rfl rfl ?_
    refine R_iadd (dd dt_12_many 11 rfl) ?_
    refine R_iconst (v := 1) (dd dt_12_many 12 rfl) ic_1 ?_
    refine R_isub (dd dt_12_many 13 rfl) ?_
    obtain ⟨x9, e10, h⟩ := bi_el h
    refine R_ild e10 (ty_12_0 k0) (dd dt_12_many 14 rfl) ?_
    obtain rfl := Option.some.inj h
    exact R_iret rfl (dd dt_12_many 15 rfl) hQ
  rw [if_neg hs4] at h
  by_cases hs5 : a1 = 5
  · refine R_tabIn (off := 90) (tgt := 91) (dd dt_12_many 1 rfl) (by rw [hs5]; decide) (by rw [hs5]; decide) (by rw [hs5]; rfl) rfl ?_
    rw [if_pos hs5] at h
    refine R_aload_n (dd dt_12_many 7 rfl) 0 rfl rfl ?_
    refine g_12_9 rfl k0 (dd dt_12_many 8 rfl) ?_
    refine R_bipush (v := 8) (dd dt_12_many 9 rfl) bp_8 ?_
    refine R_iload_n (dd dt_12_many 10 rfl) 1 rfl rfl ?_
    refine R_iadd (dd dt_12_many 11 rfl) ?_
    refine R_iconst (v := 1) (dd dt_12_many 12 rfl) ic_1 ?_
    refine R_isub (dd dt_12_many 13 rfl) ?_
    obtain ⟨x11, e12, h⟩ := bi_el h
    refine R_ild e12 (ty_12_0 k0) (dd dt_12_many 14 rfl) ?_
    obtain rfl := Option.some.inj h
    exact R_iret rfl (dd dt_12_many 15 rfl) hQ
  rw [if_neg hs5] at h
  by_cases hs6 : a1 = 6
  · refine R_tabIn (off := 90) (tgt := 91) (dd dt_12_many 1 rfl) (by rw [hs6]; decide) (by rw [hs6]; decide) (by rw [hs6]; rfl) rfl ?_
    rw [if_pos hs6] at h
    refine R_aload_n (dd dt_12_many 7 rfl) 0 rfl rfl ?_
    refine g_12_9 rfl k0 (dd dt_12_many 8 rfl) ?_
    refine R_bipush (v := 8) (dd dt_12_many 9 rfl) bp_8 ?_
    refine R_iload_n (dd dt_12_many 10 rfl) 1 rfl rfl ?_
    refine R_iadd (dd dt_12_many 11 rfl) ?_
    refine R_iconst (v := 1) (dd dt_12_many 12 rfl) ic_1 ?_
    refine R_isub (dd dt_12_many 13 rfl) ?_
    obtain ⟨x13, e14, h⟩ := bi_el h
    refine R_ild e14 (ty_12_0 k0) (dd dt_12_many 14 rfl) ?_
    obtain rfl := Option.some.inj h
    exact R_iret rfl (dd dt_12_many 15 rfl) hQ
  rw [if_neg hs6] at h
  by_cases hs7 : a1 = 7
  · refine R_tabIn (off := 90) (tgt := 91) (dd dt_12_many 1 rfl) (by rw [hs7]; decide) (by rw [hs7]; decide) (by rw [hs7]; rfl) rfl ?_
    rw [if_pos hs7] at h
    refine R_aload_n (dd dt_12_many 7 rfl) 0 rfl rfl ?_
    refine g_12_9 rfl k0 (dd dt_12_many 8 rfl) ?_
    refine R_bipush (v := 8) (dd dt_12_many 9 rfl) bp_8 ?_
    refine R_iload_n (dd dt_12_many 10 rfl) 1 rfl rfl ?_
    refine R_iadd (dd dt_12_many 11 rfl) ?_
    refine R_iconst (v := 1) (dd dt_12_many 12 rfl) ic_1 ?_
    refine R_isub (dd dt_12_many 13 rfl) ?_
    obtain ⟨x15, e16, h⟩ := bi_el h
    refine R_ild e16 (ty_12_0 k0) (dd dt_12_many 14 rfl) ?_
    obtain rfl := Option.some.inj h
    exact R_iret rfl (dd dt_12_many 15 rfl) hQ
  rw [if_neg hs7] at h
  by_cases hs8 : a1 = 8
  · refine R_tabIn (off := 102) (tgt := 103) (dd dt_12_many 1 rfl) (by rw [hs8]; decide) (by rw [hs8]; decide) (by rw [hs8]; rfl) rfl ?_
    rw [if_pos hs8] at h
    refine R_aload_n (dd dt_12_many 16 rfl) 0 rfl rfl ?_
    refine g_12_9 rfl k0 (dd dt_12_many 17 rfl) ?_
    refine R_iconst (v := 1) (dd dt_12_many 18 rfl) ic_1 ?_
    obtain ⟨x17, e18, h⟩ := bi_el h
    refine R_ild e18 (ty_12_0 k0) (dd dt_12_many 19 rfl) ?_
    obtain rfl := Option.some.inj h
    exact R_iret rfl (dd dt_12_many 20 rfl) hQ
  rw [if_neg hs8] at h
  by_cases hs9 : a1 = 9
  · refine R_tabIn (off := 109) (tgt := 110) (dd dt_12_many 1 rfl) (by rw [hs9]; decide) (by rw [hs9]; decide) (by rw [hs9]; rfl) rfl ?_
    rw [if_pos hs9] at h
    refine R_aload_n (dd dt_12_many 21 rfl) 0 rfl rfl ?_
    refine g_12_9 rfl k0 (dd dt_12_many 22 rfl) ?_
    refine R_iconst (v := 2) (dd dt_12_many 23 rfl) ic_2 ?_
    obtain ⟨x19, e20, h⟩ := bi_el h
    refine R_ild e20 (ty_12_0 k0) (dd dt_12_many 24 rfl) ?_
    obtain rfl := Option.some.inj h
    exact R_iret rfl (dd dt_12_many 25 rfl) hQ
  rw [if_neg hs9] at h
  by_cases hs10 : a1 = 10
  · refine R_tabIn (off := 116) (tgt := 117) (dd dt_12_many 1 rfl) (by rw [hs10]; decide) (by rw [hs10]; decide) (by rw [hs10]; rfl) rfl ?_
    rw [if_pos hs10] at h
    refine R_aload_n (dd dt_12_many 26 rfl) 0 rfl rfl ?_
    refine g_12_9 rfl k0 (dd dt_12_many 27 rfl) ?_
    refine R_bipush (v := 15) (dd dt_12_many 28 rfl) bp_15 ?_
    obtain ⟨x21, e22, h⟩ := bi_el h
    refine R_ild e22 (ty_12_0 k0) (dd dt_12_many 29 rfl) ?_
    obtain rfl := Option.some.inj h
    exact R_iret rfl (dd dt_12_many 30 rfl) hQ
  rw [if_neg hs10] at h
  by_cases hs11 : a1 = 11
  · refine R_tabIn (off := 124) (tgt := 125) (dd dt_12_many 1 rfl) (by rw [hs11]; decide) (by rw [hs11]; decide) (by rw [hs11]; rfl) rfl ?_
    rw [if_pos hs11] at h
    refine R_aload_n (dd dt_12_many 31 rfl) 0 rfl rfl ?_
    refine g_12_9 rfl k0 (dd dt_12_many 32 rfl) ?_
    refine R_bipush (v := 16) (dd dt_12_many 33 rfl) bp_16 ?_
    obtain ⟨x23, e24, h⟩ := bi_el h
    refine R_ild e24 (ty_12_0 k0) (dd dt_12_many 34 rfl) ?_
    obtain rfl := Option.some.inj h
    exact R_iret rfl (dd dt_12_many 35 rfl) hQ
  rw [if_neg hs11] at h
  by_cases hs12 : a1 = 12
  · refine R_tabIn (off := 132) (tgt := 133) (dd dt_12_many 1 rfl) (by rw [hs12]; decide) (by rw [hs12]; decide) (by rw [hs12]; rfl) rfl ?_
    rw [if_pos hs12] at h
    refine R_aload_n (dd dt_12_many 36 rfl) 0 rfl rfl ?_
    refine g_12_283 rfl k0 (dd dt_12_many 37 rfl) ?_
    obtain rfl := Option.some.inj h
    exact R_iret rfl (dd dt_12_many 38 rfl) hQ
  rw [if_neg hs12] at h
  by_cases hs13 : a1 = 13
  · refine R_tabIn (off := 137) (tgt := 138) (dd dt_12_many 1 rfl) (by rw [hs13]; decide) (by rw [hs13]; decide) (by rw [hs13]; rfl) rfl ?_
    rw [if_pos hs13] at h
    refine R_aload_n (dd dt_12_many 39 rfl) 0 rfl rfl ?_
    refine g_12_9 rfl k0 (dd dt_12_many 40 rfl) ?_
    refine R_bipush (v := 17) (dd dt_12_many 41 rfl) bp_17 ?_
    obtain ⟨x25, e26, h⟩ := bi_el h
    refine R_ild e26 (ty_12_0 k0) (dd dt_12_many 42 rfl) ?_
    obtain rfl := Option.some.inj h
    exact R_iret rfl (dd dt_12_many 43 rfl) hQ
  rw [if_neg hs13] at h
  by_cases hs14 : a1 = 14
  · refine R_tabIn (off := 145) (tgt := 146) (dd dt_12_many 1 rfl) (by rw [hs14]; decide) (by rw [hs14]; decide) (by rw [hs14]; rfl) rfl ?_
    rw [if_pos hs14] at h
    refine R_aload_n (dd dt_12_many 44 rfl) 0 rfl rfl ?_
    refine g_12_130 rfl k0 (dd dt_12_many 45 rfl) ?_
    obtain rfl := Option.some.inj h
    exact R_iret rfl (dd dt_12_many 46 rfl) hQ
  rw [if_neg hs14] at h
  by_cases hs15 : a1 = 15
  · refine R_tabIn (off := 150) (tgt := 151) (dd dt_12_many 1 rfl) (by rw [hs15]; decide) (by rw [hs15]; decide) (by rw [hs15]; rfl) rfl ?_
    rw [if_pos hs15] at h
    refine R_aload_n (dd dt_12_many 47 rfl) 0 rfl rfl ?_
    refine g_12_319 rfl k0 (dd dt_12_many 48 rfl) ?_
    obtain rfl := Option.some.inj h
    exact R_iret rfl (dd dt_12_many 49 rfl) hQ
  rw [if_neg hs15] at h
  by_cases hs16 : a1 = 16
  · refine R_tabIn (off := 155) (tgt := 156) (dd dt_12_many 1 rfl) (by rw [hs16]; decide) (by rw [hs16]; decide) (by rw [hs16]; rfl) rfl ?_
    rw [if_pos hs16] at h
    refine R_iconst (v := 0) (dd dt_12_many 50 rfl) ic_0 ?_
    refine R_istore_n (lv' := [some (.ref a0), some (.int a1), some (.int 0), none]) (dd dt_12_many 51 rfl) 2 rfl (by decide) rfl rfl ?_
    refine R_iconst (v := 0) (dd dt_12_many 52 rfl) ic_0 ?_
    refine R_istore_n (lv' := [some (.ref a0), some (.int a1), some (.int 0), some (.int 0)]) (dd dt_12_many 53 rfl) 3 rfl (by decide) rfl rfl ?_
    obtain ⟨z27, e28, h⟩ := bi_el h
    refine R_mask [true, false, true, true] rfl (ok_12_many_l160 a0 μ k0 FU 0 0 _ e28 ?_)
    refine R_iload_n (dd dt_12_many 69 rfl) 2 rfl rfl ?_
    obtain rfl := Option.some.inj h
    exact R_iret rfl (dd dt_12_many 70 rfl) hQ
  rw [if_neg hs16] at h
  refine R_tabOut (tgt := 189) (dd dt_12_many 1 rfl) (by have hn0 := lv_neT hs0 (a := 0) (by decide); have hn1 := lv_neT hs1 (a := 1) (by decide); have hn2 := lv_neT hs2 (a := 2) (by decide); have hn3 := lv_neT hs3 (a := 3) (by decide); have hn4 := lv_neT hs4 (a := 4) (by decide); have hn5 := lv_neT hs5 (a := 5) (by decide); have hn6 := lv_neT hs6 (a := 6) (by decide); have hn7 := lv_neT hs7 (a := 7) (by decide); have hn8 := lv_neT hs8 (a := 8) (by decide); have hn9 := lv_neT hs9 (a := 9) (by decide); have hn10 := lv_neT hs10 (a := 10) (by decide); have hn11 := lv_neT hs11 (a := 11) (by decide); have hn12 := lv_neT hs12 (a := 12) (by decide); have hn13 := lv_neT hs13 (a := 13) (by decide); have hn14 := lv_neT hs14 (a := 14) (by decide); have hn15 := lv_neT hs15 (a := 15) (by decide); have hn16 := lv_neT hs16 (a := 16) (by decide); omega) rfl ?_
  refine R_iconst (v := (-1)) (dd dt_12_many 71 rfl) ic_m1 ?_
  obtain rfl := Option.some.inj h
  exact R_iret rfl (dd dt_12_many 72 rfl) hQ
/-! LongStrikeModel.keep()I -/
def tab_12_keep : List (Nat × Instr × Nat) := [(0, .iconst 0, 1), (1, .istore_n 1, 1), (2, .iload_n 1, 1), (3, .sipush 912, 3), (6, .if_icmp .ge 21, 3), (9, .aload_n 0, 1), (10, .getfield 13, 3), (13, .iload_n 1, 1), (14, .aload_n 0, 1), (15, .getfield 9, 3), (18, .iload_n 1, 1), (19, .iaload, 1), (20, .iastore, 1), (21, .iinc 1 1, 3), (24, .goto (-22), 3), (27, .aload_n 0, 1), (28, .iconst 1, 1), (29, .putfield 351, 3), (32, .iconst 1, 1), (33, .ireturn, 1)]
set_option maxRecDepth 100000 in
theorem dt_12_keep : ∀ q ∈ tab_12_keep, decode m_12_keep.2.1 q.1 = .ok q.2 := by decide +kernel
def f_12_keep_l2 (a0 : Nat) : Nat → Int32 → mm → Option (mm)
  | 0, _, _ => none
  | n + 1, v1, μ => if 912 ≤ v1 then
      some μ
    else
      (ld μ (rf a0 0) v1).bind fun x1 =>
      (sto μ (rf a0 1) v1 x1).bind fun μ3 =>
      f_12_keep_l2 a0 n (v1 + 1) μ3
set_option maxRecDepth 100000 in
theorem ok_12_keep_l2 {l : Launch} {E : ce} {d : Nat} {Q : Option Value → mm → Prop} (a0 : Nat) (k0 : kd a0 = 12) : ∀ (n : Nat) (v1 : Int32) (μ : mm) (z : mm), f_12_keep_l2 a0 n v1 μ = some z → Rj l E d m_12_keep 27 [some (.ref a0), none] [] z Q → Rj l E d m_12_keep 2 [some (.ref a0), some (.int v1)] [] μ Q
  | 0, _, _, z, h, _ => by
    rw [f_12_keep_l2] at h
    cases h
  | n + 1, v1, μ, z, h, KX => by
    rw [f_12_keep_l2] at h
    refine R_iload_n (dd dt_12_keep 2 rfl) 1 rfl rfl ?_
    refine R_sipush (v := 912) (dd dt_12_keep 3 rfl) sp_912 ?_
    refine R_cmpge (dd dt_12_keep 4 rfl) (tgt := 27) rfl (fun hc => ?_) (fun hc => ?_)
    · rw [if_pos hc] at h
      obtain rfl := Option.some.inj h
      exact R_mask [true, false] rfl KX
    · rw [if_neg hc] at h
      refine R_aload_n (dd dt_12_keep 5 rfl) 0 rfl rfl ?_
      refine g_12_13 rfl k0 (dd dt_12_keep 6 rfl) ?_
      refine R_iload_n (dd dt_12_keep 7 rfl) 1 rfl rfl ?_
      refine R_aload_n (dd dt_12_keep 8 rfl) 0 rfl rfl ?_
      refine g_12_9 rfl k0 (dd dt_12_keep 9 rfl) ?_
      refine R_iload_n (dd dt_12_keep 10 rfl) 1 rfl rfl ?_
      obtain ⟨x1, e2, h⟩ := bi_el h
      refine R_ild e2 (ty_12_0 k0) (dd dt_12_keep 11 rfl) ?_
      obtain ⟨μ3, e4, h⟩ := bi_el h
      refine R_isto e4 (ty_12_1 k0) (dd dt_12_keep 12 rfl) ?_
      refine R_iinc (v := 1) (lv' := [some (.ref a0), some (.int (v1 + 1))]) (dd dt_12_keep 13 rfl) (by decide) rfl rfl ic_1 rfl ?_
      refine R_goto (dd dt_12_keep 14 rfl) (tgt := 2) rfl ?_
      exact R_mask [true, true] rfl (ok_12_keep_l2 a0 k0 n (v1 + 1) μ3 _ h KX)
def f_12_keep (a0 : Nat) (μ : mm) : Option (Int32 × mm) :=
  (f_12_keep_l2 a0 FU 0 μ).bind fun z1 =>
  (pf z1 a0 3 1).bind fun μ3 =>
  some (1, μ3)
set_option maxRecDepth 100000 in
set_option maxHeartbeats 4000000 in
theorem ok_12_keep {l : Launch} {E : ce} {d : Nat}  {a0 : Nat} {μ : mm} {r : Int32 × mm} {Q : Option Value → mm → Prop} (h : f_12_keep a0 μ = some r) (k0 : kd a0 = 12) (hQ : Q (some (.int r.1)) r.2) : Ct l E d yX12_keep m_12_keep [.ref a0] μ Q := by
  refine Ct_of (lv := [some (.ref a0), none]) (by decide) rfl (Nat.le_of_ble_eq_true rfl) rfl ?_
  unfold f_12_keep at h
  refine R_iconst (v := 0) (dd dt_12_keep 0 rfl) ic_0 ?_
  refine R_istore_n (lv' := [some (.ref a0), some (.int 0)]) (dd dt_12_keep 1 rfl) 1 rfl (by decide) rfl rfl ?_
  obtain ⟨z1, e2, h⟩ := bi_el h
  refine R_mask [true, true] rfl (ok_12_keep_l2 a0 k0 FU 0 μ _ e2 ?_)
  refine R_aload_n (dd dt_12_keep 15 rfl) 0 rfl rfl ?_
  refine R_iconst (v := 1) (dd dt_12_keep 16 rfl) ic_1 ?_
  obtain ⟨μ3, e4, h⟩ := bi_el h
  refine p_12_351 rfl k0 (by decide) (dd dt_12_keep 17 rfl) e4 ?_
  refine R_iconst (v := 1) (dd dt_12_keep 18 rfl) ic_1 ?_
  obtain rfl := Option.some.inj h
  exact R_iret rfl (dd dt_12_keep 19 rfl) hQ
/-! LongStrikeModel.again()I -/
def tab_12_again : List (Nat × Instr × Nat) := [(0, .aload_n 0, 1), (1, .getfield 351, 3), (4, .ifCond .ne 6, 3), (7, .bipush (-3), 2), (9, .ireturn, 1), (10, .iconst 0, 1), (11, .istore_n 1, 1), (12, .iload_n 1, 1), (13, .sipush 912, 3), (16, .if_icmp .ge 21, 3), (19, .aload_n 0, 1), (20, .getfield 9, 3), (23, .iload_n 1, 1), (24, .aload_n 0, 1), (25, .getfield 13, 3), (28, .iload_n 1, 1), (29, .iaload, 1), (30, .iastore, 1), (31, .iinc 1 1, 3), (34, .goto (-22), 3), (37, .iconst 1, 1), (38, .ireturn, 1)]
set_option maxRecDepth 100000 in
theorem dt_12_again : ∀ q ∈ tab_12_again, decode m_12_again.2.1 q.1 = .ok q.2 := by decide +kernel
def f_12_again_l12 (a0 : Nat) : Nat → Int32 → mm → Option (mm)
  | 0, _, _ => none
  | n + 1, v1, μ => if 912 ≤ v1 then
      some μ
    else
      (ld μ (rf a0 1) v1).bind fun x1 =>
      (sto μ (rf a0 0) v1 x1).bind fun μ3 =>
      f_12_again_l12 a0 n (v1 + 1) μ3
set_option maxRecDepth 100000 in
theorem ok_12_again_l12 {l : Launch} {E : ce} {d : Nat} {Q : Option Value → mm → Prop} (a0 : Nat) (k0 : kd a0 = 12) : ∀ (n : Nat) (v1 : Int32) (μ : mm) (z : mm), f_12_again_l12 a0 n v1 μ = some z → Rj l E d m_12_again 37 [none, none] [] z Q → Rj l E d m_12_again 12 [some (.ref a0), some (.int v1)] [] μ Q
  | 0, _, _, z, h, _ => by
    rw [f_12_again_l12] at h
    cases h
  | n + 1, v1, μ, z, h, KX => by
    rw [f_12_again_l12] at h
    refine R_iload_n (dd dt_12_again 7 rfl) 1 rfl rfl ?_
    refine R_sipush (v := 912) (dd dt_12_again 8 rfl) sp_912 ?_
    refine R_cmpge (dd dt_12_again 9 rfl) (tgt := 37) rfl (fun hc => ?_) (fun hc => ?_)
    · rw [if_pos hc] at h
      obtain rfl := Option.some.inj h
      exact R_mask [false, false] rfl KX
    · rw [if_neg hc] at h
      refine R_aload_n (dd dt_12_again 10 rfl) 0 rfl rfl ?_
      refine g_12_9 rfl k0 (dd dt_12_again 11 rfl) ?_
      refine R_iload_n (dd dt_12_again 12 rfl) 1 rfl rfl ?_
      refine R_aload_n (dd dt_12_again 13 rfl) 0 rfl rfl ?_
      refine g_12_13 rfl k0 (dd dt_12_again 14 rfl) ?_
      refine R_iload_n (dd dt_12_again 15 rfl) 1 rfl rfl ?_
      obtain ⟨x1, e2, h⟩ := bi_el h
      refine R_ild e2 (ty_12_1 k0) (dd dt_12_again 16 rfl) ?_
      obtain ⟨μ3, e4, h⟩ := bi_el h
      refine R_isto e4 (ty_12_0 k0) (dd dt_12_again 17 rfl) ?_
      refine R_iinc (v := 1) (lv' := [some (.ref a0), some (.int (v1 + 1))]) (dd dt_12_again 18 rfl) (by decide) rfl rfl ic_1 rfl ?_
      refine R_goto (dd dt_12_again 19 rfl) (tgt := 12) rfl ?_
      exact R_mask [true, true] rfl (ok_12_again_l12 a0 k0 n (v1 + 1) μ3 _ h KX)
def f_12_again (a0 : Nat) (μ : mm) : Option (Int32 × mm) :=
  if (μ a0 3) = 0 then
    some ((-3), μ)
  else
    (f_12_again_l12 a0 FU 0 μ).bind fun z1 =>
    some (1, z1)
set_option maxRecDepth 100000 in
set_option maxHeartbeats 4000000 in
theorem ok_12_again {l : Launch} {E : ce} {d : Nat}  {a0 : Nat} {μ : mm} {r : Int32 × mm} {Q : Option Value → mm → Prop} (h : f_12_again a0 μ = some r) (k0 : kd a0 = 12) (hQ : Q (some (.int r.1)) r.2) : Ct l E d yX12_again m_12_again [.ref a0] μ Q := by
  refine Ct_of (lv := [some (.ref a0), none]) (by decide) rfl (Nat.le_of_ble_eq_true rfl) rfl ?_
  unfold f_12_again at h
  refine R_aload_n (dd dt_12_again 0 rfl) 0 rfl rfl ?_
  refine g_12_351 rfl k0 (dd dt_12_again 1 rfl) ?_
  refine R_ifne (dd dt_12_again 2 rfl) (tgt := 10) rfl (fun hc => ?_) (fun hc => ?_)
  · rw [if_neg hc] at h
    refine R_iconst (v := 0) (dd dt_12_again 5 rfl) ic_0 ?_
    refine R_istore_n (lv' := [some (.ref a0), some (.int 0)]) (dd dt_12_again 6 rfl) 1 rfl (by decide) rfl rfl ?_
    obtain ⟨z1, e2, h⟩ := bi_el h
    refine R_mask [true, true] rfl (ok_12_again_l12 a0 k0 FU 0 μ _ e2 ?_)
    refine R_iconst (v := 1) (dd dt_12_again 20 rfl) ic_1 ?_
    obtain rfl := Option.some.inj h
    exact R_iret rfl (dd dt_12_again 21 rfl) hQ
  · rw [if_pos hc] at h
    refine R_bipush (v := (-3)) (dd dt_12_again 3 rfl) bp_m3 ?_
    obtain rfl := Option.some.inj h
    exact R_iret rfl (dd dt_12_again 4 rfl) hQ
