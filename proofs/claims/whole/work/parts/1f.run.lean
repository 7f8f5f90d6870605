/-! LongStrike$Valley.takeFrom(LLongStrike$Valley;)V -/
def tab_9_takeFrom : List (Nat × Instr × Nat) := [(0, .aload_n 0, 1), (1, .aload_n 1, 1), (2, .getfield 9, 3), (5, .putfield 9, 3), (8, .aload_n 0, 1), (9, .aload_n 1, 1), (10, .getfield 15, 3), (13, .putfield 15, 3), (16, .aload_n 0, 1), (17, .aload_n 1, 1), (18, .getfield 18, 3), (21, .putfield 18, 3), (24, .aload_n 0, 1), (25, .aload_n 1, 1), (26, .getfield 21, 3), (29, .putfield 21, 3), (32, .aload_n 0, 1), (33, .aload_n 1, 1), (34, .getfield 24, 3), (37, .putfield 24, 3), (40, .aload_n 0, 1), (41, .aload_n 1, 1), (42, .getfield 27, 3), (45, .putfield 27, 3), (48, .aload_n 0, 1), (49, .aload_n 1, 1), (50, .getfield 30, 3), (53, .putfield 30, 3), (56, .iconst 0, 1), (57, .istore_n 2, 1), (58, .iload_n 2, 1), (59, .bipush 6, 2), (61, .if_icmp .ge 28, 3), (64, .aload_n 1, 1), (65, .getfield 36, 3), (68, .iload_n 2, 1), (69, .aaload, 1), (70, .iconst 0, 1), (71, .aload_n 0, 1), (72, .getfield 36, 3), (75, .iload_n 2, 1), (76, .aaload, 1), (77, .iconst 0, 1), (78, .bipush 6, 2), (80, .invokestatic 111, 3), (83, .iinc 2 1, 3), (86, .goto (-28), 3), (89, .iconst 0, 1), (90, .istore_n 2, 1), (91, .iload_n 2, 1), (92, .aload_n 0, 1), (93, .getfield 18, 3), (96, .if_icmp .ge 24, 3), (99, .aload_n 0, 1), (100, .getfield 41, 3), (103, .iload_n 2, 1), (104, .aaload, 1), (105, .aload_n 1, 1), (106, .getfield 41, 3), (109, .iload_n 2, 1), (110, .aaload, 1), (111, .invokevirtual 117, 3), (114, .iinc 2 1, 3), (117, .goto (-26), 3), (120, .iconst 0, 1), (121, .istore_n 2, 1), (122, .iload_n 2, 1), (123, .aload_n 0, 1), (124, .getfield 21, 3), (127, .if_icmp .ge 24, 3), (130, .aload_n 0, 1), (131, .getfield 47, 3), (134, .iload_n 2, 1), (135, .aaload, 1), (136, .aload_n 1, 1), (137, .getfield 47, 3), (140, .iload_n 2, 1), (141, .aaload, 1), (142, .invokevirtual 121, 3), (145, .iinc 2 1, 3), (148, .goto (-26), 3), (151, .iconst 0, 1), (152, .istore_n 2, 1), (153, .iload_n 2, 1), (154, .aload_n 0, 1), (155, .getfield 24, 3), (158, .if_icmp .ge 24, 3), (161, .aload_n 0, 1), (162, .getfield 53, 3), (165, .iload_n 2, 1), (166, .aaload, 1), (167, .aload_n 1, 1), (168, .getfield 53, 3), (171, .iload_n 2, 1), (172, .aaload, 1), (173, .invokevirtual 124, 3), (176, .iinc 2 1, 3), (179, .goto (-26), 3), (182, .iconst 0, 1), (183, .istore_n 2, 1), (184, .iload_n 2, 1), (185, .iconst 3, 1), (186, .if_icmp .ge 24, 3), (189, .aload_n 0, 1), (190, .getfield 59, 3), (193, .iload_n 2, 1), (194, .aaload, 1), (195, .aload_n 1, 1), (196, .getfield 59, 3), (199, .iload_n 2, 1), (200, .aaload, 1), (201, .invokevirtual 127, 3), (204, .iinc 2 1, 3), (207, .goto (-23), 3), (210, .aload_n 0, 1), (211, .getfield 66, 3), (214, .aload_n 1, 1), (215, .getfield 66, 3), (218, .invokevirtual 130, 3), (221, .aload_n 0, 1), (222, .getfield 73, 3), (225, .aload_n 1, 1), (226, .getfield 73, 3), (229, .invokevirtual 133, 3), (232, .aload_n 0, 1), (233, .getfield 80, 3), (236, .aload_n 1, 1), (237, .getfield 80, 3), (240, .invokevirtual 136, 3), (243, .aload_n 0, 1), (244, .getfield 87, 3), (247, .aload_n 1, 1), (248, .getfield 87, 3), (251, .invokevirtual 139, 3), (254, .return_, 1)]
set_option maxRecDepth 100000 in
theorem dt_9_takeFrom : ∀ q ∈ tab_9_takeFrom, decode m_9_takeFrom.2.1 q.1 = .ok q.2 := by decide +kernel
def f_9_takeFrom_l58 (a0 : Nat) (a1 : Nat) : Nat → Int32 → mm → Option (mm)
  | 0, _, _ => none
  | n + 1, v2, μ => if 6 ≤ v2 then
      some μ
    else
      (lda (rf a1 7) v2).bind fun r1 =>
      (lda (rf a0 7) v2).bind fun r3 =>
      (cpo μ r1 0 r3 0 6).bind fun μ5 =>
      f_9_takeFrom_l58 a0 a1 n (v2 + 1) μ5
set_option maxRecDepth 100000 in
theorem ok_9_takeFrom_l58 {l : Launch} {E : ce} {d : Nat} {Q : Option Value → mm → Prop} (a0 : Nat) (a1 : Nat) (k0 : kd a0 = 9) (k1 : kd a1 = 9) : ∀ (n : Nat) (v2 : Int32) (μ : mm) (z : mm), f_9_takeFrom_l58 a0 a1 n v2 μ = some z → Rj l E (d + 1) m_9_takeFrom 89 [some (.ref a0), some (.ref a1), none] [] z Q → Rj l E (d + 1) m_9_takeFrom 58 [some (.ref a0), some (.ref a1), some (.int v2)] [] μ Q
  | 0, _, _, z, h, _ => by
    rw [f_9_takeFrom_l58] at h
    cases h
  | n + 1, v2, μ, z, h, KX => by
    rw [f_9_takeFrom_l58] at h
    refine R_iload_n (dd dt_9_takeFrom 30 rfl) 2 rfl rfl ?_
    refine R_bipush (v := 6) (dd dt_9_takeFrom 31 rfl) bp_6 ?_
    refine R_cmpge (dd dt_9_takeFrom 32 rfl) (tgt := 89) rfl (fun hc => ?_) (fun hc => ?_)
    · rw [if_pos hc] at h
      obtain rfl := Option.some.inj h
      exact R_mask [true, true, false] rfl KX
    · rw [if_neg hc] at h
      refine R_aload_n (dd dt_9_takeFrom 33 rfl) 1 rfl rfl ?_
      refine g_9_36 rfl k1 (dd dt_9_takeFrom 34 rfl) ?_
      refine R_iload_n (dd dt_9_takeFrom 35 rfl) 2 rfl rfl ?_
      obtain ⟨r1, e2, h⟩ := bi_el h
      refine R_aald (t0 := 3) e2 (ty_9_7 k1) (by decide) (by decide) rfl rfl (dd dt_9_takeFrom 36 rfl) ?_
      refine R_iconst (v := 0) (dd dt_9_takeFrom 37 rfl) ic_0 ?_
      refine R_aload_n (dd dt_9_takeFrom 38 rfl) 0 rfl rfl ?_
      refine g_9_36 rfl k0 (dd dt_9_takeFrom 39 rfl) ?_
      refine R_iload_n (dd dt_9_takeFrom 40 rfl) 2 rfl rfl ?_
      obtain ⟨r3, e4, h⟩ := bi_el h
      refine R_aald (t0 := 3) e4 (ty_9_7 k0) (by decide) (by decide) rfl rfl (dd dt_9_takeFrom 41 rfl) ?_
      refine R_iconst (v := 0) (dd dt_9_takeFrom 42 rfl) ic_0 ?_
      refine R_bipush (v := 6) (dd dt_9_takeFrom 43 rfl) bp_6 ?_
      obtain ⟨μ5, e6, h⟩ := bi_el h
      refine R_copy e6 (tl_23 e2 (ty_9_7 k1)) (tl_23 e4 (ty_9_7 k0)) (Nat.le_of_ble_eq_true rfl) ml_9_111 ac_n ac_s ac_i (dd dt_9_takeFrom 44 rfl) ?_
      refine R_iinc (v := 1) (lv' := [some (.ref a0), some (.ref a1), some (.int (v2 + 1))]) (dd dt_9_takeFrom 45 rfl) (by decide) rfl rfl ic_1 rfl ?_
      refine R_goto (dd dt_9_takeFrom 46 rfl) (tgt := 58) rfl ?_
      exact R_mask [true, true, true] rfl (ok_9_takeFrom_l58 a0 a1 k0 k1 n (v2 + 1) μ5 _ h KX)
def f_9_takeFrom_l91 (a0 : Nat) (a1 : Nat) : Nat → Int32 → mm → Option (mm)
  | 0, _, _ => none
  | n + 1, v2, μ => if (μ a0 2) ≤ v2 then
      some μ
    else
      (lda (rf a0 8) v2).bind fun r1 =>
      (lda (rf a1 8) v2).bind fun r3 =>
      (f_4_takeFrom r1 r3 μ).bind fun μ6 =>
      f_9_takeFrom_l91 a0 a1 n (v2 + 1) μ6
set_option maxRecDepth 100000 in
theorem ok_9_takeFrom_l91 {l : Launch} {E : ce} {d : Nat} {Q : Option Value → mm → Prop} (a0 : Nat) (a1 : Nat) (k0 : kd a0 = 9) (k1 : kd a1 = 9) : ∀ (n : Nat) (v2 : Int32) (μ : mm) (z : mm), f_9_takeFrom_l91 a0 a1 n v2 μ = some z → Rj l E (d + 1) m_9_takeFrom 120 [some (.ref a0), some (.ref a1), none] [] z Q → Rj l E (d + 1) m_9_takeFrom 91 [some (.ref a0), some (.ref a1), some (.int v2)] [] μ Q
  | 0, _, _, z, h, _ => by
    rw [f_9_takeFrom_l91] at h
    cases h
  | n + 1, v2, μ, z, h, KX => by
    rw [f_9_takeFrom_l91] at h
    refine R_iload_n (dd dt_9_takeFrom 49 rfl) 2 rfl rfl ?_
    refine R_aload_n (dd dt_9_takeFrom 50 rfl) 0 rfl rfl ?_
    refine g_9_18 rfl k0 (dd dt_9_takeFrom 51 rfl) ?_
    refine R_cmpge (dd dt_9_takeFrom 52 rfl) (tgt := 120) rfl (fun hc => ?_) (fun hc => ?_)
    · rw [if_pos hc] at h
      obtain rfl := Option.some.inj h
      exact R_mask [true, true, false] rfl KX
    · rw [if_neg hc] at h
      refine R_aload_n (dd dt_9_takeFrom 53 rfl) 0 rfl rfl ?_
      refine g_9_41 rfl k0 (dd dt_9_takeFrom 54 rfl) ?_
      refine R_iload_n (dd dt_9_takeFrom 55 rfl) 2 rfl rfl ?_
      obtain ⟨r1, e2, h⟩ := bi_el h
      refine R_aald (t0 := 4) e2 (ty_9_8 k0) (by decide) (by decide) rfl rfl (dd dt_9_takeFrom 56 rfl) ?_
      refine R_aload_n (dd dt_9_takeFrom 57 rfl) 1 rfl rfl ?_
      refine g_9_41 rfl k1 (dd dt_9_takeFrom 58 rfl) ?_
      refine R_iload_n (dd dt_9_takeFrom 59 rfl) 2 rfl rfl ?_
      obtain ⟨r3, e4, h⟩ := bi_el h
      refine R_aald (t0 := 4) e4 (ty_9_8 k1) (by decide) (by decide) rfl rfl (dd dt_9_takeFrom 60 rfl) ?_
      obtain ⟨μ6, e5, h⟩ := bi_el h
      refine c_9_117 (As := [.ref r3]) (st1 := []) rfl (fun Q1 hq => ok_4_takeFrom e5 (tl_24 e2 (ty_9_8 k0)) (tl_24 e4 (ty_9_8 k1)) hq) (tl_24 e2 (ty_9_8 k0)) rfl rfl (Nat.le_of_ble_eq_true rfl) (dd dt_9_takeFrom 61 rfl) rfl ?_
      refine R_iinc (v := 1) (lv' := [some (.ref a0), some (.ref a1), some (.int (v2 + 1))]) (dd dt_9_takeFrom 62 rfl) (by decide) rfl rfl ic_1 rfl ?_
      refine R_goto (dd dt_9_takeFrom 63 rfl) (tgt := 91) rfl ?_
      exact R_mask [true, true, true] rfl (ok_9_takeFrom_l91 a0 a1 k0 k1 n (v2 + 1) μ6 _ h KX)
def f_9_takeFrom_l122 (a0 : Nat) (a1 : Nat) : Nat → Int32 → mm → Option (mm)
  | 0, _, _ => none
  | n + 1, v2, μ => if (μ a0 3) ≤ v2 then
      some μ
    else
      (lda (rf a0 9) v2).bind fun r1 =>
      (lda (rf a1 9) v2).bind fun r3 =>
      (f_6_takeFrom r1 r3 μ).bind fun μ6 =>
      f_9_takeFrom_l122 a0 a1 n (v2 + 1) μ6
set_option maxRecDepth 100000 in
theorem ok_9_takeFrom_l122 {l : Launch} {E : ce} {d : Nat} {Q : Option Value → mm → Prop} (a0 : Nat) (a1 : Nat) (k0 : kd a0 = 9) (k1 : kd a1 = 9) : ∀ (n : Nat) (v2 : Int32) (μ : mm) (z : mm), f_9_takeFrom_l122 a0 a1 n v2 μ = some z → Rj l E (d + 1) m_9_takeFrom 151 [some (.ref a0), some (.ref a1), none] [] z Q → Rj l E (d + 1) m_9_takeFrom 122 [some (.ref a0), some (.ref a1), some (.int v2)] [] μ Q
  | 0, _, _, z, h, _ => by
    rw [f_9_takeFrom_l122] at h
    cases h
  | n + 1, v2, μ, z, h, KX => by
    rw [f_9_takeFrom_l122] at h
    refine R_iload_n (dd dt_9_takeFrom 66 rfl) 2 rfl rfl ?_
    refine R_aload_n (dd dt_9_takeFrom 67 rfl) 0 rfl rfl ?_
    refine g_9_21 rfl k0 (dd dt_9_takeFrom 68 rfl) ?_
    refine R_cmpge (dd dt_9_takeFrom 69 rfl) (tgt := 151) rfl (fun hc => ?_) (fun hc => ?_)
    · rw [if_pos hc] at h
      obtain rfl := Option.some.inj h
      exact R_mask [true, true, false] rfl KX
    · rw [if_neg hc] at h
      refine R_aload_n (dd dt_9_takeFrom 70 rfl) 0 rfl rfl ?_
      refine g_9_47 rfl k0 (dd dt_9_takeFrom 71 rfl) ?_
      refine R_iload_n (dd dt_9_takeFrom 72 rfl) 2 rfl rfl ?_
      obtain ⟨r1, e2, h⟩ := bi_el h
      refine R_aald (t0 := 5) e2 (ty_9_9 k0) (by decide) (by decide) rfl rfl (dd dt_9_takeFrom 73 rfl) ?_
      refine R_aload_n (dd dt_9_takeFrom 74 rfl) 1 rfl rfl ?_
      refine g_9_47 rfl k1 (dd dt_9_takeFrom 75 rfl) ?_
      refine R_iload_n (dd dt_9_takeFrom 76 rfl) 2 rfl rfl ?_
      obtain ⟨r3, e4, h⟩ := bi_el h
      refine R_aald (t0 := 5) e4 (ty_9_9 k1) (by decide) (by decide) rfl rfl (dd dt_9_takeFrom 77 rfl) ?_
      obtain ⟨μ6, e5, h⟩ := bi_el h
      refine c_9_121 (As := [.ref r3]) (st1 := []) rfl (fun Q1 hq => ok_6_takeFrom e5 (tl_25 e2 (ty_9_9 k0)) (tl_25 e4 (ty_9_9 k1)) hq) (tl_25 e2 (ty_9_9 k0)) rfl rfl (Nat.le_of_ble_eq_true rfl) (dd dt_9_takeFrom 78 rfl) rfl ?_
      refine R_iinc (v := 1) (lv' := [some (.ref a0), some (.ref a1), some (.int (v2 + 1))]) (dd dt_9_takeFrom 79 rfl) (by decide) rfl rfl ic_1 rfl ?_
      refine R_goto (dd dt_9_takeFrom 80 rfl) (tgt := 122) rfl ?_
      exact R_mask [true, true, true] rfl (ok_9_takeFrom_l122 a0 a1 k0 k1 n (v2 + 1) μ6 _ h KX)
def f_9_takeFrom_l153 (a0 : Nat) (a1 : Nat) : Nat → Int32 → mm → Option (mm)
  | 0, _, _ => none
  | n + 1, v2, μ => if (μ a0 4) ≤ v2 then
      some μ
    else
      (lda (rf a0 10) v2).bind fun r1 =>
      (lda (rf a1 10) v2).bind fun r3 =>
      (f_1_takeFrom r1 r3 μ).bind fun μ6 =>
      f_9_takeFrom_l153 a0 a1 n (v2 + 1) μ6
set_option maxRecDepth 100000 in
theorem ok_9_takeFrom_l153 {l : Launch} {E : ce} {d : Nat} {Q : Option Value → mm → Prop} (a0 : Nat) (a1 : Nat) (k0 : kd a0 = 9) (k1 : kd a1 = 9) : ∀ (n : Nat) (v2 : Int32) (μ : mm) (z : mm), f_9_takeFrom_l153 a0 a1 n v2 μ = some z → Rj l E (d + 1) m_9_takeFrom 182 [some (.ref a0), some (.ref a1), none] [] z Q → Rj l E (d + 1) m_9_takeFrom 153 [some (.ref a0), some (.ref a1), some (.int v2)] [] μ Q
  | 0, _, _, z, h, _ => by
    rw [f_9_takeFrom_l153] at h
    cases h
  | n + 1, v2, μ, z, h, KX => by
    rw [f_9_takeFrom_l153] at h
    refine R_iload_n (dd dt_9_takeFrom 83 rfl) 2 rfl rfl ?_
    refine R_aload_n (dd dt_9_takeFrom 84 rfl) 0 rfl rfl ?_
    refine g_9_24 rfl k0 (dd dt_9_takeFrom 85 rfl) ?_
    refine R_cmpge (dd dt_9_takeFrom 86 rfl) (tgt := 182) rfl (fun hc => ?_) (fun hc => ?_)
    · rw [if_pos hc] at h
      obtain rfl := Option.some.inj h
      exact R_mask [true, true, false] rfl KX
    · rw [if_neg hc] at h
      refine R_aload_n (dd dt_9_takeFrom 87 rfl) 0 rfl rfl ?_
      refine g_9_53 rfl k0 (dd dt_9_takeFrom 88 rfl) ?_
      refine R_iload_n (dd dt_9_takeFrom 89 rfl) 2 rfl rfl ?_
      obtain ⟨r1, e2, h⟩ := bi_el h
      refine R_aald (t0 := 6) e2 (ty_9_10 k0) (by decide) (by decide) rfl rfl (dd dt_9_takeFrom 90 rfl) ?_
      refine R_aload_n (dd dt_9_takeFrom 91 rfl) 1 rfl rfl ?_
      refine g_9_53 rfl k1 (dd dt_9_takeFrom 92 rfl) ?_
      refine R_iload_n (dd dt_9_takeFrom 93 rfl) 2 rfl rfl ?_
      obtain ⟨r3, e4, h⟩ := bi_el h
      refine R_aald (t0 := 6) e4 (ty_9_10 k1) (by decide) (by decide) rfl rfl (dd dt_9_takeFrom 94 rfl) ?_
      obtain ⟨μ6, e5, h⟩ := bi_el h
      refine c_9_124 (As := [.ref r3]) (st1 := []) rfl (fun Q1 hq => ok_1_takeFrom e5 (tl_26 e2 (ty_9_10 k0)) (tl_26 e4 (ty_9_10 k1)) hq) (tl_26 e2 (ty_9_10 k0)) rfl rfl (Nat.le_of_ble_eq_true rfl) (dd dt_9_takeFrom 95 rfl) rfl ?_
      refine R_iinc (v := 1) (lv' := [some (.ref a0), some (.ref a1), some (.int (v2 + 1))]) (dd dt_9_takeFrom 96 rfl) (by decide) rfl rfl ic_1 rfl ?_
      refine R_goto (dd dt_9_takeFrom 97 rfl) (tgt := 153) rfl ?_
      exact R_mask [true, true, true] rfl (ok_9_takeFrom_l153 a0 a1 k0 k1 n (v2 + 1) μ6 _ h KX)
def f_9_takeFrom_l184 (a0 : Nat) (a1 : Nat) : Nat → Int32 → mm → Option (mm)
  | 0, _, _ => none
  | n + 1, v2, μ => if 3 ≤ v2 then
      some μ
    else
      (lda (rf a0 11) v2).bind fun r1 =>
      (lda (rf a1 11) v2).bind fun r3 =>
      (f_5_takeFrom r1 r3 μ).bind fun μ6 =>
      f_9_takeFrom_l184 a0 a1 n (v2 + 1) μ6
set_option maxRecDepth 100000 in
theorem ok_9_takeFrom_l184 {l : Launch} {E : ce} {d : Nat} {Q : Option Value → mm → Prop} (a0 : Nat) (a1 : Nat) (k0 : kd a0 = 9) (k1 : kd a1 = 9) : ∀ (n : Nat) (v2 : Int32) (μ : mm) (z : mm), f_9_takeFrom_l184 a0 a1 n v2 μ = some z → Rj l E (d + 1) m_9_takeFrom 210 [some (.ref a0), some (.ref a1), none] [] z Q → Rj l E (d + 1) m_9_takeFrom 184 [some (.ref a0), some (.ref a1), some (.int v2)] [] μ Q
  | 0, _, _, z, h, _ => by
    rw [f_9_takeFrom_l184] at h
    cases h
  | n + 1, v2, μ, z, h, KX => by
    rw [f_9_takeFrom_l184] at h
    refine R_iload_n (dd dt_9_takeFrom 100 rfl) 2 rfl rfl ?_
    refine R_iconst (v := 3) (dd dt_9_takeFrom 101 rfl) ic_3 ?_
    refine R_cmpge (dd dt_9_takeFrom 102 rfl) (tgt := 210) rfl (fun hc => ?_) (fun hc => ?_)
    · rw [if_pos hc] at h
      obtain rfl := Option.some.inj h
      exact R_mask [true, true, false] rfl KX
    · rw [if_neg hc] at h
      refine R_aload_n (dd dt_9_takeFrom 103 rfl) 0 rfl rfl ?_
      refine g_9_59 rfl k0 (dd dt_9_takeFrom 104 rfl) ?_
      refine R_iload_n (dd dt_9_takeFrom 105 rfl) 2 rfl rfl ?_
      obtain ⟨r1, e2, h⟩ := bi_el h
      refine R_aald (t0 := 7) e2 (ty_9_11 k0) (by decide) (by decide) rfl rfl (dd dt_9_takeFrom 106 rfl) ?_
      refine R_aload_n (dd dt_9_takeFrom 107 rfl) 1 rfl rfl ?_
      refine g_9_59 rfl k1 (dd dt_9_takeFrom 108 rfl) ?_
      refine R_iload_n (dd dt_9_takeFrom 109 rfl) 2 rfl rfl ?_
      obtain ⟨r3, e4, h⟩ := bi_el h
      refine R_aald (t0 := 7) e4 (ty_9_11 k1) (by decide) (by decide) rfl rfl (dd dt_9_takeFrom 110 rfl) ?_
      obtain ⟨μ6, e5, h⟩ := bi_el h
      refine c_9_127 (As := [.ref r3]) (st1 := []) rfl (fun Q1 hq => ok_5_takeFrom e5 (tl_27 e2 (ty_9_11 k0)) (tl_27 e4 (ty_9_11 k1)) hq) (tl_27 e2 (ty_9_11 k0)) rfl rfl (Nat.le_of_ble_eq_true rfl) (dd dt_9_takeFrom 111 rfl) rfl ?_
      refine R_iinc (v := 1) (lv' := [some (.ref a0), some (.ref a1), some (.int (v2 + 1))]) (dd dt_9_takeFrom 112 rfl) (by decide) rfl rfl ic_1 rfl ?_
      refine R_goto (dd dt_9_takeFrom 113 rfl) (tgt := 184) rfl ?_
      exact R_mask [true, true, true] rfl (ok_9_takeFrom_l184 a0 a1 k0 k1 n (v2 + 1) μ6 _ h KX)
def f_9_takeFrom (a0 : Nat) (a1 : Nat) (μ : mm) : Option (mm) :=
  (pf μ a0 0 (μ a1 0)).bind fun μ1 =>
  (pf μ1 a0 1 (μ1 a1 1)).bind fun μ3 =>
  (pf μ3 a0 2 (μ3 a1 2)).bind fun μ5 =>
  (pf μ5 a0 3 (μ5 a1 3)).bind fun μ7 =>
  (pf μ7 a0 4 (μ7 a1 4)).bind fun μ9 =>
  (pf μ9 a0 5 (μ9 a1 5)).bind fun μ11 =>
  (gb (μ11 a1 6)).bind fun _ =>
  (pf μ11 a0 6 (μ11 a1 6)).bind fun μ13 =>
  (f_9_takeFrom_l58 a0 a1 FU 0 μ13).bind fun z16 =>
  (f_9_takeFrom_l91 a0 a1 FU 0 z16).bind fun z18 =>
  (f_9_takeFrom_l122 a0 a1 FU 0 z18).bind fun z20 =>
  (f_9_takeFrom_l153 a0 a1 FU 0 z20).bind fun z22 =>
  (f_9_takeFrom_l184 a0 a1 FU 0 z22).bind fun z24 =>
  (f_10_takeFrom (rf a0 12) (rf a1 12) z24).bind fun μ27 =>
  (f_7_takeFrom (rf a0 13) (rf a1 13) μ27).bind fun μ29 =>
  (f_3_takeFrom (rf a0 14) (rf a1 14) μ29).bind fun μ31 =>
  (f_2_takeFrom (rf a0 15) (rf a1 15) μ31).bind fun μ33 =>
  some μ33
set_option maxRecDepth 100000 in
set_option maxHeartbeats 4000000 in
theorem ok_9_takeFrom {l : Launch} {E : ce} {d : Nat}  {a0 : Nat} {a1 : Nat} {μ : mm} {r : mm} {Q : Option Value → mm → Prop} (h : f_9_takeFrom a0 a1 μ = some r) (k0 : kd a0 = 9) (k1 : kd a1 = 9) (hQ : Q none r) : Ct l E (d + 1) yX9_takeFrom m_9_takeFrom [.ref a0, .ref a1] μ Q := by
  refine Ct_of (lv := [some (.ref a0), some (.ref a1), none]) (by decide) rfl (Nat.le_of_ble_eq_true rfl) rfl ?_
  unfold f_9_takeFrom at h
  refine R_aload_n (dd dt_9_takeFrom 0 rfl) 0 rfl rfl ?_
  refine R_aload_n (dd dt_9_takeFrom 1 rfl) 1 rfl rfl ?_
  refine g_9_9 rfl k1 (dd dt_9_takeFrom 2 rfl) ?_
  obtain ⟨μ1, e2, h⟩ := bi_el h
  refine p_9_9 rfl k0 (dd dt_9_takeFrom 3 rfl) e2 ?_
  refine R_aload_n (dd dt_9_takeFrom 4 rfl) 0 rfl rfl ?_
  refine R_aload_n (dd dt_9_takeFrom 5 rfl) 1 rfl rfl ?_
  refine g_9_15 rfl k1 (dd dt_9_takeFrom 6 rfl) ?_
  obtain ⟨μ3, e4, h⟩ := bi_el h
  refine p_9_15 rfl k0 (dd dt_9_takeFrom 7 rfl) e4 ?_
  refine R_aload_n (dd dt_9_takeFrom 8 rfl) 0 rfl rfl ?_
  refine R_aload_n (dd dt_9_takeFrom 9 rfl) 1 rfl rfl ?_
  refine g_9_18 rfl k1 (dd dt_9_takeFrom 10 rfl) ?_
  obtain ⟨μ5, e6, h⟩ := bi_el h
  refine p_9_18 rfl k0 (dd dt_9_takeFrom 11 rfl) e6 ?_
  refine R_aload_n (dd dt_9_takeFrom 12 rfl) 0 rfl rfl ?_
  refine R_aload_n (dd dt_9_takeFrom 13 rfl) 1 rfl rfl ?_
  refine g_9_21 rfl k1 (dd dt_9_takeFrom 14 rfl) ?_
  obtain ⟨μ7, e8, h⟩ := bi_el h
  refine p_9_21 rfl k0 (dd dt_9_takeFrom 15 rfl) e8 ?_
  refine R_aload_n (dd dt_9_takeFrom 16 rfl) 0 rfl rfl ?_
  refine R_aload_n (dd dt_9_takeFrom 17 rfl) 1 rfl rfl ?_
  refine g_9_24 rfl k1 (dd dt_9_takeFrom 18 rfl) ?_
  obtain ⟨μ9, e10, h⟩ := bi_el h
  refine p_9_24 rfl k0 (dd dt_9_takeFrom 19 rfl) e10 ?_
  refine R_aload_n (dd dt_9_takeFrom 20 rfl) 0 rfl rfl ?_
  refine R_aload_n (dd dt_9_takeFrom 21 rfl) 1 rfl rfl ?_
  refine g_9_27 rfl k1 (dd dt_9_takeFrom 22 rfl) ?_
  obtain ⟨μ11, e12, h⟩ := bi_el h
  refine p_9_27 rfl k0 (dd dt_9_takeFrom 23 rfl) e12 ?_
  refine R_aload_n (dd dt_9_takeFrom 24 rfl) 0 rfl rfl ?_
  refine R_aload_n (dd dt_9_takeFrom 25 rfl) 1 rfl rfl ?_
  refine g_9_30 rfl k1 (dd dt_9_takeFrom 26 rfl) ?_
  obtain ⟨_, q15, h⟩ := bi_el h
  obtain ⟨μ13, e14, h⟩ := bi_el h
  refine p_9_30 rfl k0 (gb_el q15).1 (dd dt_9_takeFrom 27 rfl) e14 ?_
  refine R_iconst (v := 0) (dd dt_9_takeFrom 28 rfl) ic_0 ?_
  refine R_istore_n (lv' := [some (.ref a0), some (.ref a1), some (.int 0)]) (dd dt_9_takeFrom 29 rfl) 2 rfl (by decide) rfl rfl ?_
  obtain ⟨z16, e17, h⟩ := bi_el h
  refine R_mask [true, true, true] rfl (ok_9_takeFrom_l58 a0 a1 k0 k1 FU 0 μ13 _ e17 ?_)
  refine R_iconst (v := 0) (dd dt_9_takeFrom 47 rfl) ic_0 ?_
  refine R_istore_n (lv' := [some (.ref a0), some (.ref a1), some (.int 0)]) (dd dt_9_takeFrom 48 rfl) 2 rfl (by decide) rfl rfl ?_
  obtain ⟨z18, e19, h⟩ := bi_el h
  refine R_mask [true, true, true] rfl (ok_9_takeFrom_l91 a0 a1 k0 k1 FU 0 z16 _ e19 ?_)
  refine R_iconst (v := 0) (dd dt_9_takeFrom 64 rfl) ic_0 ?_
  refine R_istore_n (lv' := [some (.ref a0), some (.ref a1), some (.int 0)]) (dd dt_9_takeFrom 65 rfl) 2 rfl (by decide) rfl rfl ?_
  obtain ⟨z20, e21, h⟩ := bi_el h
  refine R_mask [true, true, true] rfl (ok_9_takeFrom_l122 a0 a1 k0 k1 FU 0 z18 _ e21 ?_)
  refine R_iconst (v := 0) (dd dt_9_takeFrom 81 rfl) ic_0 ?_
  refine R_istore_n (lv' := [some (.ref a0), some (.ref a1), some (.int 0)]) (dd dt_9_takeFrom 82 rfl) 2 rfl (by decide) rfl rfl ?_
  obtain ⟨z22, e23, h⟩ := bi_el h
  refine R_mask [true, true, true] rfl (ok_9_takeFrom_l153 a0 a1 k0 k1 FU 0 z20 _ e23 ?_)
  refine R_iconst (v := 0) (dd dt_9_takeFrom 98 rfl) ic_0 ?_
  refine R_istore_n (lv' := [some (.ref a0), some (.ref a1), some (.int 0)]) (dd dt_9_takeFrom 99 rfl) 2 rfl (by decide) rfl rfl ?_
  obtain ⟨z24, e25, h⟩ := bi_el h
  refine R_mask [true, true, true] rfl (ok_9_takeFrom_l184 a0 a1 k0 k1 FU 0 z22 _ e25 ?_)
  refine R_aload_n (dd dt_9_takeFrom 114 rfl) 0 rfl rfl ?_
  refine g_9_66 rfl k0 (dd dt_9_takeFrom 115 rfl) ?_
  refine R_aload_n (dd dt_9_takeFrom 116 rfl) 1 rfl rfl ?_
  refine g_9_66 rfl k1 (dd dt_9_takeFrom 117 rfl) ?_
  obtain ⟨μ27, e26, h⟩ := bi_el h
  refine c_9_130 (As := [.ref (rf a1 12)]) (st1 := []) rfl (fun Q1 hq => ok_10_takeFrom e26 (ty_9_12 k0) (ty_9_12 k1) hq) (ty_9_12 k0) rfl rfl (Nat.le_of_ble_eq_true rfl) (dd dt_9_takeFrom 118 rfl) rfl ?_
  refine R_aload_n (dd dt_9_takeFrom 119 rfl) 0 rfl rfl ?_
  refine g_9_73 rfl k0 (dd dt_9_takeFrom 120 rfl) ?_
  refine R_aload_n (dd dt_9_takeFrom 121 rfl) 1 rfl rfl ?_
  refine g_9_73 rfl k1 (dd dt_9_takeFrom 122 rfl) ?_
  obtain ⟨μ29, e28, h⟩ := bi_el h
  refine c_9_133 (As := [.ref (rf a1 13)]) (st1 := []) rfl (fun Q1 hq => ok_7_takeFrom e28 (ty_9_13 k0) (ty_9_13 k1) hq) (ty_9_13 k0) rfl rfl (Nat.le_of_ble_eq_true rfl) (dd dt_9_takeFrom 123 rfl) rfl ?_
  refine R_aload_n (dd dt_9_takeFrom 124 rfl) 0 rfl rfl ?_
  refine g_9_80 rfl k0 (dd dt_9_takeFrom 125 rfl) ?_
  refine R_aload_n (dd dt_9_takeFrom 126 rfl) 1 rfl rfl ?_
  refine g_9_80 rfl k1 (dd dt_9_takeFrom 127 rfl) ?_
  obtain ⟨μ31, e30, h⟩ := bi_el h
  refine c_9_136 (As := [.ref (rf a1 14)]) (st1 := []) rfl (fun Q1 hq => ok_3_takeFrom e30 (ty_9_14 k0) (ty_9_14 k1) hq) (ty_9_14 k0) rfl rfl (Nat.le_of_ble_eq_true rfl) (dd dt_9_takeFrom 128 rfl) rfl ?_
  refine R_aload_n (dd dt_9_takeFrom 129 rfl) 0 rfl rfl ?_
  refine g_9_87 rfl k0 (dd dt_9_takeFrom 130 rfl) ?_
  refine R_aload_n (dd dt_9_takeFrom 131 rfl) 1 rfl rfl ?_
  refine g_9_87 rfl k1 (dd dt_9_takeFrom 132 rfl) ?_
  obtain ⟨μ33, e32, h⟩ := bi_el h
  refine c_9_139 (As := [.ref (rf a1 15)]) (st1 := []) rfl (fun Q1 hq => ok_2_takeFrom e32 (ty_9_15 k0) (ty_9_15 k1) hq) (ty_9_15 k0) rfl rfl (Nat.le_of_ble_eq_true rfl) (dd dt_9_takeFrom 133 rfl) rfl ?_
  obtain rfl := Option.some.inj h
  exact R_vret rfl (dd dt_9_takeFrom 134 rfl) hQ
/-! LongStrike$Works.daysLeft(IIZ)I -/
def tab_10_daysLeft : List (Nat × Instr × Nat) := [(0, .iload_n 1, 1), (1, .istore 4, 2), (3, .iconst 0, 1), (4, .istore 5, 2), (6, .iload 5, 2), (8, .bipush 120, 2), (10, .if_icmp .ge 32, 3), (13, .iload 4, 2), (15, .ifCond .ne 6, 3), (18, .iload 5, 2), (20, .ireturn, 1), (21, .aload_n 0, 1), (22, .iload 4, 2), (24, .iload_n 2, 1), (25, .iload 5, 2), (27, .iadd, 1), (28, .iconst 1, 1), (29, .iadd, 1), (30, .iload_n 3, 1), (31, .invokevirtual 41, 3), (34, .istore 4, 2), (36, .iinc 5 1, 3), (39, .goto (-33), 3), (42, .bipush 120, 2), (44, .ireturn, 1)]
set_option maxRecDepth 100000 in
theorem dt_10_daysLeft : ∀ q ∈ tab_10_daysLeft, decode m_10_daysLeft.2.1 q.1 = .ok q.2 := by decide +kernel
def f_10_daysLeft_l6 (a0 : Nat) (a2 : Int32) (a3 : Int32) (μ : mm) : Nat → Int32 → Int32 → Option (Int32)
  | 0, _, _ => none
  | n + 1, v4, v5 => if 120 ≤ v5 then
      some 120
    else
      if v4 = 0 then
        some v5
      else
        (f_10_stockAfter a0 v4 ((a2 + v5) + 1) a3 μ).bind fun x2 =>
        f_10_daysLeft_l6 a0 a2 a3 μ n x2 (v5 + 1)
set_option maxRecDepth 100000 in
theorem ok_10_daysLeft_l6 {l : Launch} {E : ce} {d : Nat} {Q : Option Value → mm → Prop} (a0 : Nat) (a2 : Int32) (a3 : Int32) (μ : mm) (k0 : kd a0 = 10) : ∀ (n : Nat) (v4 : Int32) (v5 : Int32) (r : Int32), f_10_daysLeft_l6 a0 a2 a3 μ n v4 v5 = some r → Q (some (.int r)) μ → Rj l E (d + 1) m_10_daysLeft 6 [some (.ref a0), none, some (.int a2), some (.int a3), some (.int v4), some (.int v5)] [] μ Q
  | 0, _, _, z, h, _ => by
    rw [f_10_daysLeft_l6] at h
    cases h
  | n + 1, v4, v5, r, h, hQ => by
    rw [f_10_daysLeft_l6] at h
    refine R_iload (dd dt_10_daysLeft 4 rfl) rfl ?_
    refine R_bipush (v := 120) (dd dt_10_daysLeft 5 rfl) bp_120 ?_
    refine R_cmpge (dd dt_10_daysLeft 6 rfl) (tgt := 42) rfl (fun hc => ?_) (fun hc => ?_)
    · rw [if_pos hc] at h
      refine R_bipush (v := 120) (dd dt_10_daysLeft 23 rfl) bp_120 ?_
      obtain rfl := Option.some.inj h
      exact R_iret rfl (dd dt_10_daysLeft 24 rfl) hQ
    · rw [if_neg hc] at h
      refine R_iload (dd dt_10_daysLeft 7 rfl) rfl ?_
      refine R_ifne (dd dt_10_daysLeft 8 rfl) (tgt := 21) rfl (fun hc => ?_) (fun hc => ?_)
      · rw [if_neg hc] at h
        refine R_aload_n (dd dt_10_daysLeft 11 rfl) 0 rfl rfl ?_
        refine R_iload (dd dt_10_daysLeft 12 rfl) rfl ?_
        refine R_iload_n (dd dt_10_daysLeft 13 rfl) 2 rfl rfl ?_
        refine R_iload (dd dt_10_daysLeft 14 rfl) rfl ?_
        refine R_iadd (dd dt_10_daysLeft 15 rfl) ?_
        refine R_iconst (v := 1) (dd dt_10_daysLeft 16 rfl) ic_1 ?_
        refine R_iadd (dd dt_10_daysLeft 17 rfl) ?_
        refine R_iload_n (dd dt_10_daysLeft 18 rfl) 3 rfl rfl ?_
        obtain ⟨x2, e1, h⟩ := bi_el h
        refine c_10_41 (As := [.int v4, .int ((a2 + v5) + 1), .int a3]) (st1 := [.int x2]) rfl (fun Q1 hq => ok_10_stockAfter e1 k0 hq) k0 rfl rfl (Nat.le_of_ble_eq_true rfl) (dd dt_10_daysLeft 19 rfl) rfl ?_
        refine R_istore (lv' := [some (.ref a0), none, some (.int a2), some (.int a3), some (.int x2), some (.int v5)]) (dd dt_10_daysLeft 20 rfl) (by decide) rfl rfl ?_
        refine R_iinc (v := 1) (lv' := [some (.ref a0), none, some (.int a2), some (.int a3), some (.int x2), some (.int (v5 + 1))]) (dd dt_10_daysLeft 21 rfl) (by decide) rfl rfl ic_1 rfl ?_
        refine R_goto (dd dt_10_daysLeft 22 rfl) (tgt := 6) rfl ?_
        exact R_mask [true, false, true, true, true, true] rfl (ok_10_daysLeft_l6 a0 a2 a3 μ k0 n x2 (v5 + 1) _ h hQ)
      · rw [if_pos hc] at h
        refine R_iload (dd dt_10_daysLeft 9 rfl) rfl ?_
        obtain rfl := Option.some.inj h
        exact R_iret rfl (dd dt_10_daysLeft 10 rfl) hQ
def f_10_daysLeft (a0 : Nat) (a1 : Int32) (a2 : Int32) (a3 : Int32) (μ : mm) : Option (Int32) :=
  f_10_daysLeft_l6 a0 a2 a3 μ FU a1 0
set_option maxRecDepth 100000 in
set_option maxHeartbeats 4000000 in
theorem ok_10_daysLeft {l : Launch} {E : ce} {d : Nat}  {a0 : Nat} {a1 : Int32} {a2 : Int32} {a3 : Int32} {μ : mm} {r : Int32} {Q : Option Value → mm → Prop} (h : f_10_daysLeft a0 a1 a2 a3 μ = some r) (k0 : kd a0 = 10) (hQ : Q (some (.int r)) μ) : Ct l E (d + 1) yX10_daysLeft m_10_daysLeft [.ref a0, .int a1, .int a2, .int a3] μ Q := by
  refine Ct_of (lv := [some (.ref a0), some (.int a1), some (.int a2), some (.int a3), none, none]) (by decide) rfl (Nat.le_of_ble_eq_true rfl) rfl ?_
  unfold f_10_daysLeft at h
  refine R_iload_n (dd dt_10_daysLeft 0 rfl) 1 rfl rfl ?_
  refine R_istore (lv' := [some (.ref a0), some (.int a1), some (.int a2), some (.int a3), some (.int a1), none]) (dd dt_10_daysLeft 1 rfl) (by decide) rfl rfl ?_
  refine R_iconst (v := 0) (dd dt_10_daysLeft 2 rfl) ic_0 ?_
  refine R_istore (lv' := [some (.ref a0), some (.int a1), some (.int a2), some (.int a3), some (.int a1), some (.int 0)]) (dd dt_10_daysLeft 3 rfl) (by decide) rfl rfl ?_
  exact R_mask [true, false, true, true, true, true] rfl (ok_10_daysLeft_l6 a0 a2 a3 μ k0 FU a1 0 _ h hQ)
/-! LongStrike.last(I)I -/
def tab_11_last : List (Nat × Instr × Nat) := [(0, .iload_n 1, 1), (1, .tableswitch 144 0 3 #[31, 57, 86, 115], 31), (32, .aload_n 0, 1), (33, .getfield 19, 3), (36, .aload_n 0, 1), (37, .getfield 10, 3), (40, .invokevirtual 383, 3), (43, .aload_n 0, 1), (44, .getfield 19, 3), (47, .aload_n 0, 1), (48, .getfield 10, 3), (51, .getfield 269, 3), (54, .invokevirtual 386, 3), (57, .ireturn, 1), (58, .aload_n 0, 1), (59, .getfield 10, 3), (62, .getfield 250, 3), (65, .aload_n 0, 1), (66, .getfield 10, 3), (69, .getfield 250, 3), (72, .getfield 281, 3), (75, .aload_n 0, 1), (76, .getfield 10, 3), (79, .getfield 87, 3), (82, .iconst 1, 1), (83, .invokevirtual 389, 3), (86, .ireturn, 1), (87, .aload_n 0, 1), (88, .getfield 19, 3), (91, .aload_n 0, 1), (92, .getfield 10, 3), (95, .invokevirtual 383, 3), (98, .aload_n 0, 1), (99, .getfield 19, 3), (102, .aload_n 0, 1), (103, .getfield 10, 3), (106, .getfield 336, 3), (109, .getfield 353, 3), (112, .invokevirtual 386, 3), (115, .ireturn, 1), (116, .aload_n 0, 1), (117, .getfield 10, 3), (120, .getfield 250, 3), (123, .aload_n 0, 1), (124, .getfield 10, 3), (127, .getfield 336, 3), (130, .getfield 356, 3), (133, .aload_n 0, 1), (134, .getfield 10, 3), (137, .getfield 87, 3), (140, .iconst 0, 1), (141, .invokevirtual 389, 3), (144, .ireturn, 1), (145, .iconst (-1), 1), (146, .ireturn, 1)]
set_option maxRecDepth 100000 in
theorem dt_11_last : ∀ q ∈ tab_11_last, decode m_11_last.2.1 q.1 = .ok q.2 := by decide +kernel
def f_11_last (a0 : Nat) (a1 : Int32) (μ : mm) : Option (Int32 × mm) :=
  if a1 = 0 then
    (f_9_takeFrom (rf a0 2) (rf a0 0) μ).bind fun μ2 =>
    (f_9_holdOut (rf a0 2) (μ2 (rf a0 0) 5) μ2).bind fun z4 =>
    some (z4.1, z4.2)
  else if a1 = 1 then
    (f_10_daysLeft (rf (rf a0 0) 12) (μ (rf (rf a0 0) 12) 0) (μ (rf a0 0) 0) 1 μ).bind fun x6 =>
    some (x6, μ)
  else if a1 = 2 then
    (f_9_takeFrom (rf a0 2) (rf a0 0) μ).bind fun μ8 =>
    (f_9_holdOut (rf a0 2) (μ8 (rf (rf a0 0) 13) 8) μ8).bind fun z10 =>
    some (z10.1, z10.2)
  else if a1 = 3 then
    (f_10_daysLeft (rf (rf a0 0) 12) (μ (rf (rf a0 0) 13) 9) (μ (rf a0 0) 0) 0 μ).bind fun x12 =>
    some (x12, μ)
  else 
    some ((-1), μ)
set_option maxRecDepth 100000 in
set_option maxHeartbeats 4000000 in
theorem ok_11_last {l : Launch} {E : ce} {d : Nat}  {a0 : Nat} {a1 : Int32} {μ : mm} {r : Int32 × mm} {Q : Option Value → mm → Prop} (h : f_11_last a0 a1 μ = some r) (k0 : kd a0 = 11) (hQ : Q (some (.int r.1)) r.2) : Ct l E (d + 7) yX11_last m_11_last [.ref a0, .int a1] μ Q := by
  refine Ct_of (lv := [some (.ref a0), some (.int a1)]) (by decide) rfl (Nat.le_of_ble_eq_true rfl) rfl ?_
  unfold f_11_last at h
  refine R_iload_n (dd dt_11_last 0 rfl) 1 rfl rfl ?_
  by_cases hs0 : a1 = 0
  · refine R_tabIn (off := 31) (tgt := 32) (dd dt_11_last 1 rfl) (by rw [hs0]; decide) (by rw [hs0]; decide) (by rw [hs0]; rfl) rfl ?_
    rw [if_pos hs0] at h
    refine R_aload_n (dd dt_11_last 2 rfl) 0 rfl rfl ?_
    refine g_11_19 rfl k0 (dd dt_11_last 3 rfl) ?_
    refine R_aload_n (dd dt_11_last 4 rfl) 0 rfl rfl ?_
    refine g_11_10 rfl k0 (dd dt_11_last 5 rfl) ?_
    obtain ⟨μ2, e1, h⟩ := bi_el h
    refine c_11_383 (As := [.ref (rf a0 0)]) (st1 := []) rfl (fun Q1 hq => ok_9_takeFrom e1 (ty_11_2 k0) (ty_11_0 k0) hq) (ty_11_2 k0) rfl rfl (Nat.le_of_ble_eq_true rfl) (dd dt_11_last 6 rfl) rfl ?_
    refine R_aload_n (dd dt_11_last 7 rfl) 0 rfl rfl ?_
    refine g_11_19 rfl k0 (dd dt_11_last 8 rfl) ?_
    refine R_aload_n (dd dt_11_last 9 rfl) 0 rfl rfl ?_
    refine g_11_10 rfl k0 (dd dt_11_last 10 rfl) ?_
    refine g_11_269 rfl (ty_11_0 k0) (dd dt_11_last 11 rfl) ?_
    obtain ⟨z4, e3, h⟩ := bi_el h
    refine c_11_386 (As := [.int (μ2 (rf a0 0) 5)]) (st1 := [.int z4.1]) rfl (fun Q1 hq => ok_9_holdOut e3 (ty_11_2 k0) hq) (ty_11_2 k0) rfl rfl (Nat.le_of_ble_eq_true rfl) (dd dt_11_last 12 rfl) rfl ?_
    obtain rfl := Option.some.inj h
    exact R_iret rfl (dd dt_11_last 13 rfl) hQ
  rw [if_neg hs0] at h
  by_cases hs1 : a1 = 1
  · refine R_tabIn (off := 57) (tgt := 58) (dd dt_11_last 1 rfl) (by rw [hs1]; decide) (by rw [hs1]; decide) (by rw [hs1]; rfl) rfl ?_
    rw [if_pos hs1] at h
    refine R_aload_n (dd dt_11_last 14 rfl) 0 rfl rfl ?_
    refine g_11_10 rfl k0 (dd dt_11_last 15 rfl) ?_
    refine g_11_250 rfl (ty_11_0 k0) (dd dt_11_last 16 rfl) ?_
    refine R_aload_n (dd dt_11_last 17 rfl) 0 rfl rfl ?_
    refine g_11_10 rfl k0 (dd dt_11_last 18 rfl) ?_
    refine g_11_250 rfl (ty_11_0 k0) (dd dt_11_last 19 rfl) ?_
    refine g_11_281 rfl (ty_9_12 (ty_11_0 k0)) (dd dt_11_last 20 rfl) ?_
    refine R_aload_n (dd dt_11_last 21 rfl) 0 rfl rfl ?_
    refine g_11_10 rfl k0 (dd dt_11_last 22 rfl) ?_
    refine g_11_87 rfl (ty_11_0 k0) (dd dt_11_last 23 rfl) ?_
    refine R_iconst (v := 1) (dd dt_11_last 24 rfl) ic_1 ?_
    obtain ⟨x6, e5, h⟩ := bi_el h
    refine c_11_389 (As := [.int (μ (rf (rf a0 0) 12) 0), .int (μ (rf a0 0) 0), .int 1]) (st1 := [.int x6]) rfl (fun Q1 hq => ok_10_daysLeft e5 (ty_9_12 (ty_11_0 k0)) hq) (ty_9_12 (ty_11_0 k0)) rfl rfl (Nat.le_of_ble_eq_true rfl) (dd dt_11_last 25 rfl) rfl ?_
    obtain rfl := Option.some.inj h
    exact R_iret rfl (dd dt_11_last 26 rfl) hQ
  rw [if_neg hs1] at h
  by_cases hs2 : a1 = 2
  · refine R_tabIn (off := 86) (tgt := 87) (dd dt_11_last 1 rfl) (by rw [hs2]; decide) (by rw [hs2]; decide) (by rw [hs2]; rfl) rfl ?_
    rw [if_pos hs2] at h
    refine R_aload_n (dd dt_11_last 27 rfl) 0 rfl rfl ?_
    refine g_11_19 rfl k0 (dd dt_11_last 28 rfl) ?_
    refine R_aload_n (dd dt_11_last 29 rfl) 0 rfl rfl ?_
    refine g_11_10 rfl k0 (dd dt_11_last 30 rfl) ?_
    obtain ⟨μ8, e7, h⟩ := bi_el h
    refine c_11_383 (As := [.ref (rf a0 0)]) (st1 := []) rfl (fun Q1 hq => ok_9_takeFrom e7 (ty_11_2 k0) (ty_11_0 k0) hq) (ty_11_2 k0) rfl rfl (Nat.le_of_ble_eq_true rfl) (dd dt_11_last 31 rfl) rfl ?_
    refine R_aload_n (dd dt_11_last 32 rfl) 0 rfl rfl ?_
    refine g_11_19 rfl k0 (dd dt_11_last 33 rfl) ?_
    refine R_aload_n (dd dt_11_last 34 rfl) 0 rfl rfl ?_
    refine g_11_10 rfl k0 (dd dt_11_last 35 rfl) ?_
    refine g_11_336 rfl (ty_11_0 k0) (dd dt_11_last 36 rfl) ?_
    refine g_11_353 rfl (ty_9_13 (ty_11_0 k0)) (dd dt_11_last 37 rfl) ?_
    obtain ⟨z10, e9, h⟩ := bi_el h
    refine c_11_386 (As := [.int (μ8 (rf (rf a0 0) 13) 8)]) (st1 := [.int z10.1]) rfl (fun Q1 hq => ok_9_holdOut e9 (ty_11_2 k0) hq) (ty_11_2 k0) rfl rfl (Nat.le_of_ble_eq_true rfl) (dd dt_11_last 38 rfl) rfl ?_
    obtain rfl := Option.some.inj h
    exact R_iret rfl (dd dt_11_last 39 rfl) hQ
  rw [if_neg hs2] at h
  by_cases hs3 : a1 = 3
  · refine R_tabIn (off := 115) (tgt := 116) (dd dt_11_last 1 rfl) (by rw [hs3]; decide) (by rw [hs3]; decide) (by rw [hs3]; rfl) rfl ?_
    rw [if_pos hs3] at h
    refine R_aload_n (dd dt_11_last 40 rfl) 0 rfl rfl ?_
    refine g_11_10 rfl k0 (dd dt_11_last 41 rfl) ?_
    refine g_11_250 rfl (ty_11_0 k0) (dd dt_11_last 42 rfl) ?_
    refine R_aload_n (dd dt_11_last 43 rfl) 0 rfl rfl ?_
    refine g_11_10 rfl k0 (dd dt_11_last 44 rfl) ?_
    refine g_11_336 rfl (ty_11_0 k0) (dd dt_11_last 45 rfl) ?_
    refine g_11_356 rfl (ty_9_13 (ty_11_0 k0)) (dd dt_11_last 46 rfl) ?_
    refine R_aload_n (dd dt_11_last 47 rfl) 0 rfl rfl ?_
    refine g_11_10 rfl k0 (dd dt_11_last 48 rfl) ?_
    refine g_11_87 rfl (ty_11_0 k0) (dd dt_11_last 49 rfl) ?_
    refine R_iconst (v := 0) (dd dt_11_last 50 rfl) ic_0 ?_
    obtain ⟨x12, e11, h⟩ := bi_el h
    refine c_11_389 (As := [.int (μ (rf (rf a0 0) 13) 9), .int (μ (rf a0 0) 0), .int 0]) (st1 := [.int x12]) rfl (fun Q1 hq => ok_10_daysLeft e11 (ty_9_12 (ty_11_0 k0)) hq) (ty_9_12 (ty_11_0 k0)) rfl rfl (Nat.le_of_ble_eq_true rfl) (dd dt_11_last 51 rfl) rfl ?_
    obtain rfl := Option.some.inj h
    exact R_iret rfl (dd dt_11_last 52 rfl) hQ
  rw [if_neg hs3] at h
  refine R_tabOut (tgt := 145) (dd dt_11_last 1 rfl) (by have hn0 := lv_neT hs0 (a := 0) (by decide); have hn1 := lv_neT hs1 (a := 1) (by decide); have hn2 := lv_neT hs2 (a := 2) (by decide); have hn3 := lv_neT hs3 (a := 3) (by decide); omega) rfl ?_
  refine R_iconst (v := (-1)) (dd dt_11_last 53 rfl) ic_m1 ?_
  obtain rfl := Option.some.inj h
  exact R_iret rfl (dd dt_11_last 54 rfl) hQ
/-! LongStrike$Pickets.addGate(I)I -/
def tab_3_addGate : List (Nat × Instr × Nat) := [(0, .aload_n 0, 1), (1, .getfield 21, 3), (4, .aload_n 0, 1), (5, .getfield 15, 3), (8, .iload_n 1, 1), (9, .iastore, 1), (10, .aload_n 0, 1), (11, .dup, 1), (12, .getfield 15, 3), (15, .iconst 1, 1), (16, .iadd, 1), (17, .putfield 15, 3), (20, .aload_n 0, 1), (21, .getfield 15, 3), (24, .iconst 1, 1), (25, .isub, 1), (26, .ireturn, 1)]
set_option maxRecDepth 100000 in
theorem dt_3_addGate : ∀ q ∈ tab_3_addGate, decode m_3_addGate.2.1 q.1 = .ok q.2 := by decide +kernel
def f_3_addGate (a0 : Nat) (a1 : Int32) (μ : mm) : Option (Int32 × mm) :=
  (sto μ (rf a0 3) (μ a0 1) a1).bind fun μ1 =>
  (pf μ1 a0 1 ((μ1 a0 1) + 1)).bind fun μ3 =>
  some (((μ3 a0 1) - 1), μ3)
set_option maxRecDepth 100000 in
set_option maxHeartbeats 4000000 in
theorem ok_3_addGate {l : Launch} {E : ce} {d : Nat}  {a0 : Nat} {a1 : Int32} {μ : mm} {r : Int32 × mm} {Q : Option Value → mm → Prop} (h : f_3_addGate a0 a1 μ = some r) (k0 : kd a0 = 3) (hQ : Q (some (.int r.1)) r.2) : Ct l E d yX3_addGate m_3_addGate [.ref a0, .int a1] μ Q := by
  refine Ct_of (lv := [some (.ref a0), some (.int a1)]) (by decide) rfl (Nat.le_of_ble_eq_true rfl) rfl ?_
  unfold f_3_addGate at h
  refine R_aload_n (dd dt_3_addGate 0 rfl) 0 rfl rfl ?_
  refine g_3_21 rfl k0 (dd dt_3_addGate 1 rfl) ?_
  refine R_aload_n (dd dt_3_addGate 2 rfl) 0 rfl rfl ?_
  refine g_3_15 rfl k0 (dd dt_3_addGate 3 rfl) ?_
  refine R_iload_n (dd dt_3_addGate 4 rfl) 1 rfl rfl ?_
  obtain ⟨μ1, e2, h⟩ := bi_el h
  refine R_isto e2 (ty_3_3 k0) (dd dt_3_addGate 5 rfl) ?_
  refine R_aload_n (dd dt_3_addGate 6 rfl) 0 rfl rfl ?_
  refine R_dup (dd dt_3_addGate 7 rfl) rfl ?_
  refine g_3_15 rfl k0 (dd dt_3_addGate 8 rfl) ?_
  refine R_iconst (v := 1) (dd dt_3_addGate 9 rfl) ic_1 ?_
  refine R_iadd (dd dt_3_addGate 10 rfl) ?_
  obtain ⟨μ3, e4, h⟩ := bi_el h
  refine p_3_15 rfl k0 (dd dt_3_addGate 11 rfl) e4 ?_
  refine R_aload_n (dd dt_3_addGate 12 rfl) 0 rfl rfl ?_
  refine g_3_15 rfl k0 (dd dt_3_addGate 13 rfl) ?_
  refine R_iconst (v := 1) (dd dt_3_addGate 14 rfl) ic_1 ?_
  refine R_isub (dd dt_3_addGate 15 rfl) ?_
  obtain rfl := Option.some.inj h
  exact R_iret rfl (dd dt_3_addGate 16 rfl) hQ
/-! LongStrike$Pickets.addMan(I)I -/
def tab_3_addMan : List (Nat × Instr × Nat) := [(0, .aload_n 0, 1), (1, .getfield 25, 3), (4, .aload_n 0, 1), (5, .getfield 18, 3), (8, .iload_n 1, 1), (9, .iastore, 1), (10, .aload_n 0, 1), (11, .dup, 1), (12, .getfield 18, 3), (15, .iconst 1, 1), (16, .iadd, 1), (17, .putfield 18, 3), (20, .aload_n 0, 1), (21, .getfield 18, 3), (24, .iconst 1, 1), (25, .isub, 1), (26, .ireturn, 1)]
set_option maxRecDepth 100000 in
theorem dt_3_addMan : ∀ q ∈ tab_3_addMan, decode m_3_addMan.2.1 q.1 = .ok q.2 := by decide +kernel
def f_3_addMan (a0 : Nat) (a1 : Int32) (μ : mm) : Option (Int32 × mm) :=
  (sto μ (rf a0 4) (μ a0 2) a1).bind fun μ1 =>
  (pf μ1 a0 2 ((μ1 a0 2) + 1)).bind fun μ3 =>
  some (((μ3 a0 2) - 1), μ3)
set_option maxRecDepth 100000 in
set_option maxHeartbeats 4000000 in
theorem ok_3_addMan {l : Launch} {E : ce} {d : Nat}  {a0 : Nat} {a1 : Int32} {μ : mm} {r : Int32 × mm} {Q : Option Value → mm → Prop} (h : f_3_addMan a0 a1 μ = some r) (k0 : kd a0 = 3) (hQ : Q (some (.int r.1)) r.2) : Ct l E d yX3_addMan m_3_addMan [.ref a0, .int a1] μ Q := by
  refine Ct_of (lv := [some (.ref a0), some (.int a1)]) (by decide) rfl (Nat.le_of_ble_eq_true rfl) rfl ?_
  unfold f_3_addMan at h
  refine R_aload_n (dd dt_3_addMan 0 rfl) 0 rfl rfl ?_
  refine g_3_25 rfl k0 (dd dt_3_addMan 1 rfl) ?_
  refine R_aload_n (dd dt_3_addMan 2 rfl) 0 rfl rfl ?_
  refine g_3_18 rfl k0 (dd dt_3_addMan 3 rfl) ?_
  refine R_iload_n (dd dt_3_addMan 4 rfl) 1 rfl rfl ?_
  obtain ⟨μ1, e2, h⟩ := bi_el h
  refine R_isto e2 (ty_3_4 k0) (dd dt_3_addMan 5 rfl) ?_
  refine R_aload_n (dd dt_3_addMan 6 rfl) 0 rfl rfl ?_
  refine R_dup (dd dt_3_addMan 7 rfl) rfl ?_
  refine g_3_18 rfl k0 (dd dt_3_addMan 8 rfl) ?_
  refine R_iconst (v := 1) (dd dt_3_addMan 9 rfl) ic_1 ?_
  refine R_iadd (dd dt_3_addMan 10 rfl) ?_
  obtain ⟨μ3, e4, h⟩ := bi_el h
  refine p_3_18 rfl k0 (dd dt_3_addMan 11 rfl) e4 ?_
  refine R_aload_n (dd dt_3_addMan 12 rfl) 0 rfl rfl ?_
  refine g_3_18 rfl k0 (dd dt_3_addMan 13 rfl) ?_
  refine R_iconst (v := 1) (dd dt_3_addMan 14 rfl) ic_1 ?_
  refine R_isub (dd dt_3_addMan 15 rfl) ?_
  obtain rfl := Option.some.inj h
  exact R_iret rfl (dd dt_3_addMan 16 rfl) hQ
/-! LongStrike.post(ZI)I -/
def tab_11_post : List (Nat × Instr × Nat) := [(0, .aload_n 0, 1), (1, .getfield 10, 3), (4, .iload_n 2, 1), (5, .invokevirtual 96, 3), (8, .ifCond .ne 5, 3), (11, .iconst (-1), 1), (12, .ireturn, 1), (13, .iload_n 1, 1), (14, .ifCond .eq 35, 3), (17, .aload_n 0, 1), (18, .getfield 10, 3), (21, .getfield 259, 3), (24, .getfield 393, 3), (27, .bipush 8, 2), (29, .if_icmp .ge 17, 3), (32, .aload_n 0, 1), (33, .getfield 10, 3), (36, .getfield 259, 3), (39, .iload_n 2, 1), (40, .invokevirtual 396, 3), (43, .goto 5, 3), (46, .bipush (-2), 2), (48, .ireturn, 1), (49, .aload_n 0, 1), (50, .getfield 10, 3), (53, .getfield 259, 3), (56, .getfield 399, 3), (59, .iconst 4, 1), (60, .if_icmp .ge 17, 3), (63, .aload_n 0, 1), (64, .getfield 10, 3), (67, .getfield 259, 3), (70, .iload_n 2, 1), (71, .invokevirtual 402, 3), (74, .goto 5, 3), (77, .bipush (-2), 2), (79, .ireturn, 1)]
set_option maxRecDepth 100000 in
theorem dt_11_post : ∀ q ∈ tab_11_post, decode m_11_post.2.1 q.1 = .ok q.2 := by decide +kernel
def f_11_post (a0 : Nat) (a1 : Int32) (a2 : Int32) (μ : mm) : Option (Int32 × mm) :=
  (f_9_hasVillage (rf a0 0) a2 μ).bind fun x2 =>
  if x2 = 0 then
    some ((-1), μ)
  else
    if a1 = 0 then
      if 4 ≤ (μ (rf (rf a0 0) 14) 1) then
        some ((-2), μ)
      else
        (f_3_addGate (rf (rf a0 0) 14) a2 μ).bind fun z4 =>
        some (z4.1, z4.2)
    else
      if 8 ≤ (μ (rf (rf a0 0) 14) 2) then
        some ((-2), μ)
      else
        (f_3_addMan (rf (rf a0 0) 14) a2 μ).bind fun z6 =>
        some (z6.1, z6.2)
set_option maxRecDepth 100000 in
set_option maxHeartbeats 4000000 in
theorem ok_11_post {l : Launch} {E : ce} {d : Nat}  {a0 : Nat} {a1 : Int32} {a2 : Int32} {μ : mm} {r : Int32 × mm} {Q : Option Value → mm → Prop} (h : f_11_post a0 a1 a2 μ = some r) (k0 : kd a0 = 11) (hQ : Q (some (.int r.1)) r.2) : Ct l E (d + 2) yX11_post m_11_post [.ref a0, .int a1, .int a2] μ Q := by
  refine Ct_of (lv := [some (.ref a0), some (.int a1), some (.int a2)]) (by decide) rfl (Nat.le_of_ble_eq_true rfl) rfl ?_
  unfold f_11_post at h
  refine R_aload_n (dd dt_11_post 0 rfl) 0 rfl rfl ?_
  refine g_11_10 rfl k0 (dd dt_11_post 1 rfl) ?_
  refine R_iload_n (dd dt_11_post 2 rfl) 2 rfl rfl ?_
  obtain ⟨x2, e1, h⟩ := bi_el h
  refine c_11_96 (As := [.int a2]) (st1 := [.int x2]) rfl (fun Q1 hq => ok_9_hasVillage e1 (ty_11_0 k0) hq) (ty_11_0 k0) rfl rfl (Nat.le_of_ble_eq_true rfl) (dd dt_11_post 3 rfl) rfl ?_
  refine R_ifne (dd dt_11_post 4 rfl) (tgt := 13) rfl (fun hc => ?_) (fun hc => ?_)
  · rw [if_neg hc] at h
    refine R_iload_n (dd dt_11_post 7 rfl) 1 rfl rfl ?_
    refine R_ifeq (dd dt_11_post 8 rfl) (tgt := 49) rfl (fun hc => ?_) (fun hc => ?_)
    · rw [if_pos hc] at h
      refine R_aload_n (dd dt_11_post 23 rfl) 0 rfl rfl ?_
      refine g_11_10 rfl k0 (dd dt_11_post 24 rfl) ?_
      refine g_11_259 rfl (ty_11_0 k0) (dd dt_11_post 25 rfl) ?_
      refine g_11_399 rfl (ty_9_14 (ty_11_0 k0)) (dd dt_11_post 26 rfl) ?_
      refine R_iconst (v := 4) (dd dt_11_post 27 rfl) ic_4 ?_
      refine R_cmpge (dd dt_11_post 28 rfl) (tgt := 77) rfl (fun hc => ?_) (fun hc => ?_)
      · rw [if_pos hc] at h
        refine R_bipush (v := (-2)) (dd dt_11_post 35 rfl) bp_m2 ?_
        obtain rfl := Option.some.inj h
        exact R_iret rfl (dd dt_11_post 36 rfl) hQ
      · rw [if_neg hc] at h
        refine R_aload_n (dd dt_11_post 29 rfl) 0 rfl rfl ?_
        refine g_11_10 rfl k0 (dd dt_11_post 30 rfl) ?_
        refine g_11_259 rfl (ty_11_0 k0) (dd dt_11_post 31 rfl) ?_
        refine R_iload_n (dd dt_11_post 32 rfl) 2 rfl rfl ?_
        obtain ⟨z4, e3, h⟩ := bi_el h
        refine c_11_402 (As := [.int a2]) (st1 := [.int z4.1]) rfl (fun Q1 hq => ok_3_addGate e3 (ty_9_14 (ty_11_0 k0)) hq) (ty_9_14 (ty_11_0 k0)) rfl rfl (Nat.le_of_ble_eq_true rfl) (dd dt_11_post 33 rfl) rfl ?_
        refine R_goto (dd dt_11_post 34 rfl) (tgt := 79) rfl ?_
        obtain rfl := Option.some.inj h
        exact R_iret rfl (dd dt_11_post 36 rfl) hQ
    · rw [if_neg hc] at h
      refine R_aload_n (dd dt_11_post 9 rfl) 0 rfl rfl ?_
      refine g_11_10 rfl k0 (dd dt_11_post 10 rfl) ?_
      refine g_11_259 rfl (ty_11_0 k0) (dd dt_11_post 11 rfl) ?_
      refine g_11_393 rfl (ty_9_14 (ty_11_0 k0)) (dd dt_11_post 12 rfl) ?_
      refine R_bipush (v := 8) (dd dt_11_post 13 rfl) bp_8 ?_
      refine R_cmpge (dd dt_11_post 14 rfl) (tgt := 46) rfl (fun hc => ?_) (fun hc => ?_)
      · rw [if_pos hc] at h
        refine R_bipush (v := (-2)) (dd dt_11_post 21 rfl) bp_m2 ?_
        obtain rfl := Option.some.inj h
        exact R_iret rfl (dd dt_11_post 22 rfl) hQ
      · rw [if_neg hc] at h
        refine R_aload_n (dd dt_11_post 15 rfl) 0 rfl rfl ?_
        refine g_11_10 rfl k0 (dd dt_11_post 16 rfl) ?_
        refine g_11_259 rfl (ty_11_0 k0) (dd dt_11_post 17 rfl) ?_
        refine R_iload_n (dd dt_11_post 18 rfl) 2 rfl rfl ?_
        obtain ⟨z6, e5, h⟩ := bi_el h
        refine c_11_396 (As := [.int a2]) (st1 := [.int z6.1]) rfl (fun Q1 hq => ok_3_addMan e5 (ty_9_14 (ty_11_0 k0)) hq) (ty_9_14 (ty_11_0 k0)) rfl rfl (Nat.le_of_ble_eq_true rfl) (dd dt_11_post 19 rfl) rfl ?_
        refine R_goto (dd dt_11_post 20 rfl) (tgt := 48) rfl ?_
        obtain rfl := Option.some.inj h
        exact R_iret rfl (dd dt_11_post 22 rfl) hQ
  · rw [if_pos hc] at h
    refine R_iconst (v := (-1)) (dd dt_11_post 5 rfl) ic_m1 ?_
    obtain rfl := Option.some.inj h
    exact R_iret rfl (dd dt_11_post 6 rfl) hQ
/-! LongStrike.tellRows()V -/
def tab_11_tellRows : List (Nat × Instr × Nat) := [(0, .iconst 0, 1), (1, .istore_n 1, 1), (2, .iconst 0, 1), (3, .istore_n 2, 1), (4, .iload_n 2, 1), (5, .aload_n 0, 1), (6, .getfield 10, 3), (9, .getfield 259, 3), (12, .getfield 393, 3), (15, .if_icmp .ge 64, 3), (18, .iload_n 1, 1), (19, .iconst 4, 1), (20, .if_icmp .ge 59, 3), (23, .aload_n 0, 1), (24, .getfield 10, 3), (27, .getfield 259, 3), (30, .getfield 412, 3), (33, .iload_n 2, 1), (34, .iaload, 1), (35, .iconst (-1), 1), (36, .if_icmp .eq 37, 3), (39, .aload_n 0, 1), (40, .getfield 44, 3), (43, .iconst 2, 1), (44, .iload_n 1, 1), (45, .imul, 1), (46, .iload_n 2, 1), (47, .iastore, 1), (48, .aload_n 0, 1), (49, .getfield 44, 3), (52, .iconst 2, 1), (53, .iload_n 1, 1), (54, .imul, 1), (55, .iconst 1, 1), (56, .iadd, 1), (57, .aload_n 0, 1), (58, .getfield 10, 3), (61, .getfield 259, 3), (64, .getfield 412, 3), (67, .iload_n 2, 1), (68, .iaload, 1), (69, .iastore, 1), (70, .iinc 1 1, 3), (73, .iinc 2 1, 3), (76, .goto (-72), 3), (79, .aload_n 0, 1), (80, .getfield 44, 3), (83, .iconst 0, 1), (84, .aload_n 0, 1), (85, .getfield 40, 3), (88, .iconst 0, 1), (89, .aload_n 0, 1), (90, .getfield 44, 3), (93, .arraylength, 1), (94, .invokestatic 418, 3), (97, .aload_n 0, 1), (98, .iload_n 1, 1), (99, .putfield 47, 3), (102, .aload_n 0, 1), (103, .iload_n 1, 1), (104, .putfield 51, 3), (107, .aload_n 0, 1), (108, .iconst 1, 1), (109, .putfield 54, 3), (112, .return_, 1)]
set_option maxRecDepth 100000 in
theorem dt_11_tellRows : ∀ q ∈ tab_11_tellRows, decode m_11_tellRows.2.1 q.1 = .ok q.2 := by decide +kernel
def f_11_tellRows_l4 (a0 : Nat) : Nat → Int32 → Int32 → mm → Option (Int32 × mm)
  | 0, _, _, _ => none
  | n + 1, v1, v2, μ => if (μ (rf (rf a0 0) 14) 2) ≤ v2 then
      some (v1, μ)
    else
      if 4 ≤ v1 then
        some (v1, μ)
      else
        (ld μ (rf (rf (rf a0 0) 14) 5) v2).bind fun x1 =>
        if x1 = (-1) then
          f_11_tellRows_l4 a0 n v1 (v2 + 1) μ
        else
          (sto μ (rf a0 7) (2 * v1) v2).bind fun μ3 =>
          (ld μ3 (rf (rf (rf a0 0) 14) 5) v2).bind fun x5 =>
          (sto μ3 (rf a0 7) ((2 * v1) + 1) x5).bind fun μ7 =>
          f_11_tellRows_l4 a0 n (v1 + 1) (v2 + 1) μ7
set_option maxRecDepth 100000 in
theorem ok_11_tellRows_l4 {l : Launch} {E : ce} {d : Nat} {Q : Option Value → mm → Prop} (a0 : Nat) (k0 : kd a0 = 11) : ∀ (n : Nat) (v1 : Int32) (v2 : Int32) (μ : mm) (z : Int32 × mm), f_11_tellRows_l4 a0 n v1 v2 μ = some z → Rj l E d m_11_tellRows 79 [some (.ref a0), some (.int z.1), none] [] z.2 Q → Rj l E d m_11_tellRows 4 [some (.ref a0), some (.int v1), some (.int v2)] [] μ Q
  | 0, _, _, _, z, h, _ => by
    rw [f_11_tellRows_l4] at h
    cases h
  | n + 1, v1, v2, μ, z, h, KX => by
    rw [f_11_tellRows_l4] at h
    refine R_iload_n (dd dt_11_tellRows 4 rfl) 2 rfl rfl ?_
    refine R_aload_n (dd dt_11_tellRows 5 rfl) 0 rfl rfl ?_
    refine g_11_10 rfl k0 (dd dt_11_tellRows 6 rfl) ?_
    refine g_11_259 rfl (ty_11_0 k0) (dd dt_11_tellRows 7 rfl) ?_
    refine g_11_393 rfl (ty_9_14 (ty_11_0 k0)) (dd dt_11_tellRows 8 rfl) ?_
    refine R_cmpge (dd dt_11_tellRows 9 rfl) (tgt := 79) rfl (fun hc => ?_) (fun hc => ?_)
    · rw [if_pos hc] at h
      obtain rfl := Option.some.inj h
      exact R_mask [true, true, false] rfl KX
    · rw [if_neg hc] at h
      refine R_iload_n (dd dt_11_tellRows 10 rfl) 1 rfl rfl ?_
      refine R_iconst (v := 4) (dd dt_11_tellRows 11 rfl) ic_4 ?_
      refine R_cmpge (dd dt_11_tellRows 12 rfl) (tgt := 79) rfl (fun hc => ?_) (fun hc => ?_)
      · rw [if_pos hc] at h
        obtain rfl := Option.some.inj h
        exact R_mask [true, true, false] rfl KX
      · rw [if_neg hc] at h
        refine R_aload_n (dd dt_11_tellRows 13 rfl) 0 rfl rfl ?_
        refine g_11_10 rfl k0 (dd dt_11_tellRows 14 rfl) ?_
        refine g_11_259 rfl (ty_11_0 k0) (dd dt_11_tellRows 15 rfl) ?_
        refine g_11_412 rfl (ty_9_14 (ty_11_0 k0)) (dd dt_11_tellRows 16 rfl) ?_
        refine R_iload_n (dd dt_11_tellRows 17 rfl) 2 rfl rfl ?_
        obtain ⟨x1, e2, h⟩ := bi_el h
        refine R_ild e2 (ty_3_5 (ty_9_14 (ty_11_0 k0))) (dd dt_11_tellRows 18 rfl) ?_
        refine R_iconst (v := (-1)) (dd dt_11_tellRows 19 rfl) ic_m1 ?_
        refine R_cmpeq (dd dt_11_tellRows 20 rfl) (tgt := 73) rfl (fun hc => ?_) (fun hc => ?_)
        · rw [if_pos hc] at h
          refine R_iinc (v := 1) (lv' := [some (.ref a0), some (.int v1), some (.int (v2 + 1))]) (dd dt_11_tellRows 43 rfl) (by decide) rfl rfl ic_1 rfl ?_
          refine R_goto (dd dt_11_tellRows 44 rfl) (tgt := 4) rfl ?_
          exact R_mask [true, true, true] rfl (ok_11_tellRows_l4 a0 k0 n v1 (v2 + 1) μ _ h KX)
        · rw [if_neg hc] at h
          refine R_aload_n (dd dt_11_tellRows 21 rfl) 0 rfl rfl ?_
          refine g_11_44 rfl k0 (dd dt_11_tellRows 22 rfl) ?_
          refine R_iconst (v := 2) (dd dt_11_tellRows 23 rfl) ic_2 ?_
          refine R_iload_n (dd dt_11_tellRows 24 rfl) 1 rfl rfl ?_
          refine R_imul (dd dt_11_tellRows 25 rfl) ?_
          refine R_iload_n (dd dt_11_tellRows 26 rfl) 2 rfl rfl ?_
          obtain ⟨μ3, e4, h⟩ := bi_el h
          refine R_isto e4 (ty_11_7 k0) (dd dt_11_tellRows 27 rfl) ?_
          refine R_aload_n (dd dt_11_tellRows 28 rfl) 0 rfl rfl ?_
          refine g_11_44 rfl k0 (dd dt_11_tellRows 29 rfl) ?_
          refine R_iconst (v := 2) (dd dt_11_tellRows 30 rfl) ic_2 ?_
          refine R_iload_n (dd dt_11_tellRows 31 rfl) 1 rfl rfl ?_
          refine R_imul (dd dt_11_tellRows 32 rfl) ?_
          refine R_iconst (v := 1) (dd dt_11_tellRows 33 rfl) ic_1 ?_
          refine R_iadd (dd dt_11_tellRows 34 rfl) ?_
          refine R_aload_n (dd dt_11_tellRows 35 rfl) 0 rfl rfl ?_
          refine g_11_10 rfl k0 (dd dt_11_tellRows 36 rfl) ?_
          refine g_11_259 rfl (ty_11_0 k0) (dd dt_11_tellRows 37 rfl) ?_
          refine g_11_412 rfl (ty_9_14 (ty_11_0 k0)) (dd dt_11_tellRows 38 rfl) ?_
          refine R_iload_n (dd dt_11_tellRows 39 rfl) 2 rfl rfl ?_
          obtain ⟨x5, e6, h⟩ := bi_el h
          refine R_ild e6 (ty_3_5 (ty_9_14 (ty_11_0 k0))) (dd dt_11_tellRows 40 rfl) ?_
          obtain ⟨μ7, e8, h⟩ := bi_el h
          refine R_isto e8 (ty_11_7 k0) (dd dt_11_tellRows 41 rfl) ?_
          refine R_iinc (v := 1) (lv' := [some (.ref a0), some (.int (v1 + 1)), some (.int v2)]) (dd dt_11_tellRows 42 rfl) (by decide) rfl rfl ic_1 rfl ?_
          refine R_iinc (v := 1) (lv' := [some (.ref a0), some (.int (v1 + 1)), some (.int (v2 + 1))]) (dd dt_11_tellRows 43 rfl) (by decide) rfl rfl ic_1 rfl ?_
          refine R_goto (dd dt_11_tellRows 44 rfl) (tgt := 4) rfl ?_
          exact R_mask [true, true, true] rfl (ok_11_tellRows_l4 a0 k0 n (v1 + 1) (v2 + 1) μ7 _ h KX)
def f_11_tellRows (a0 : Nat) (μ : mm) : Option (mm) :=
  (f_11_tellRows_l4 a0 FU 0 0 μ).bind fun z1 =>
  (cpo z1.2 (rf a0 7) 0 (rf a0 6) 0 (Int32.ofNat (len (rf a0 7)))).bind fun μ3 =>
  (pf μ3 a0 8 z1.1).bind fun μ5 =>
  (pf μ5 a0 9 z1.1).bind fun μ7 =>
  (pf μ7 a0 10 1).bind fun μ9 =>
  some μ9
set_option maxRecDepth 100000 in
set_option maxHeartbeats 4000000 in
theorem ok_11_tellRows {l : Launch} {E : ce} {d : Nat}  {a0 : Nat} {μ : mm} {r : mm} {Q : Option Value → mm → Prop} (h : f_11_tellRows a0 μ = some r) (k0 : kd a0 = 11) (hQ : Q none r) : Ct l E d yX11_tellRows m_11_tellRows [.ref a0] μ Q := by
  refine Ct_of (lv := [some (.ref a0), none, none]) (by decide) rfl (Nat.le_of_ble_eq_true rfl) rfl ?_
  unfold f_11_tellRows at h
  refine R_iconst (v := 0) (dd dt_11_tellRows 0 rfl) ic_0 ?_
  refine R_istore_n (lv' := [some (.ref a0), some (.int 0), none]) (dd dt_11_tellRows 1 rfl) 1 rfl (by decide) rfl rfl ?_
  refine R_iconst (v := 0) (dd dt_11_tellRows 2 rfl) ic_0 ?_
  refine R_istore_n (lv' := [some (.ref a0), some (.int 0), some (.int 0)]) (dd dt_11_tellRows 3 rfl) 2 rfl (by decide) rfl rfl ?_
  obtain ⟨z1, e2, h⟩ := bi_el h
  refine R_mask [true, true, true] rfl (ok_11_tellRows_l4 a0 k0 FU 0 0 μ _ e2 ?_)
  refine R_aload_n (dd dt_11_tellRows 45 rfl) 0 rfl rfl ?_
  refine g_11_44 rfl k0 (dd dt_11_tellRows 46 rfl) ?_
  refine R_iconst (v := 0) (dd dt_11_tellRows 47 rfl) ic_0 ?_
  refine R_aload_n (dd dt_11_tellRows 48 rfl) 0 rfl rfl ?_
  refine g_11_40 rfl k0 (dd dt_11_tellRows 49 rfl) ?_
  refine R_iconst (v := 0) (dd dt_11_tellRows 50 rfl) ic_0 ?_
  refine R_aload_n (dd dt_11_tellRows 51 rfl) 0 rfl rfl ?_
  refine g_11_44 rfl k0 (dd dt_11_tellRows 52 rfl) ?_
  refine R_alen rfl (ty_11_7 k0) (dd dt_11_tellRows 53 rfl) ?_
  obtain ⟨μ3, e4, h⟩ := bi_el h
  refine R_copy e4 (ty_11_7 k0) (ty_11_6 k0) (Nat.le_of_ble_eq_true rfl) ml_11_418 ac_n ac_s ac_i (dd dt_11_tellRows 54 rfl) ?_
  refine R_aload_n (dd dt_11_tellRows 55 rfl) 0 rfl rfl ?_
  refine R_iload_n (dd dt_11_tellRows 56 rfl) 1 rfl rfl ?_
  obtain ⟨μ5, e6, h⟩ := bi_el h
  refine p_11_47 rfl k0 (dd dt_11_tellRows 57 rfl) e6 ?_
  refine R_aload_n (dd dt_11_tellRows 58 rfl) 0 rfl rfl ?_
  refine R_iload_n (dd dt_11_tellRows 59 rfl) 1 rfl rfl ?_
  obtain ⟨μ7, e8, h⟩ := bi_el h
  refine p_11_51 rfl k0 (dd dt_11_tellRows 60 rfl) e8 ?_
  refine R_aload_n (dd dt_11_tellRows 61 rfl) 0 rfl rfl ?_
  refine R_iconst (v := 1) (dd dt_11_tellRows 62 rfl) ic_1 ?_
  obtain ⟨μ9, e10, h⟩ := bi_el h
  refine p_11_54 rfl k0 (by decide) (dd dt_11_tellRows 63 rfl) e10 ?_
  obtain rfl := Option.some.inj h
  exact R_vret rfl (dd dt_11_tellRows 64 rfl) hQ
/-! LongStrike$Pickets.leastSum()I -/
def tab_3_leastSum : List (Nat × Instr × Nat) := [(0, .aload_n 0, 1), (1, .getfield 33, 3), (4, .iconst 0, 1), (5, .aaload, 1), (6, .iconst 1, 1), (7, .aload_n 0, 1), (8, .getfield 15, 3), (11, .ishl, 1), (12, .iconst 1, 1), (13, .isub, 1), (14, .iaload, 1), (15, .ireturn, 1)]
set_option maxRecDepth 100000 in
theorem dt_3_leastSum : ∀ q ∈ tab_3_leastSum, decode m_3_leastSum.2.1 q.1 = .ok q.2 := by decide +kernel
def f_3_leastSum (a0 : Nat) (μ : mm) : Option (Int32) :=
  (lda (rf a0 6) 0).bind fun r1 =>
  (ld μ r1 ((1 <<< ((μ a0 1) &&& 31)) - 1)).bind fun x3 =>
  some x3
set_option maxRecDepth 100000 in
set_option maxHeartbeats 4000000 in
theorem ok_3_leastSum {l : Launch} {E : ce} {d : Nat}  {a0 : Nat} {μ : mm} {r : Int32} {Q : Option Value → mm → Prop} (h : f_3_leastSum a0 μ = some r) (k0 : kd a0 = 3) (hQ : Q (some (.int r)) μ) : Ct l E d yX3_leastSum m_3_leastSum [.ref a0] μ Q := by
  refine Ct_of (lv := [some (.ref a0)]) (by decide) rfl (Nat.le_of_ble_eq_true rfl) rfl ?_
  unfold f_3_leastSum at h
  refine R_aload_n (dd dt_3_leastSum 0 rfl) 0 rfl rfl ?_
  refine g_3_33 rfl k0 (dd dt_3_leastSum 1 rfl) ?_
  refine R_iconst (v := 0) (dd dt_3_leastSum 2 rfl) ic_0 ?_
  obtain ⟨r1, e2, h⟩ := bi_el h
  refine R_aald (t0 := 3) e2 (ty_3_6 k0) (by decide) (by decide) rfl rfl (dd dt_3_leastSum 3 rfl) ?_
  refine R_iconst (v := 1) (dd dt_3_leastSum 4 rfl) ic_1 ?_
  refine R_aload_n (dd dt_3_leastSum 5 rfl) 0 rfl rfl ?_
  refine g_3_15 rfl k0 (dd dt_3_leastSum 6 rfl) ?_
  refine R_ishl (dd dt_3_leastSum 7 rfl) ?_
  refine R_iconst (v := 1) (dd dt_3_leastSum 8 rfl) ic_1 ?_
  refine R_isub (dd dt_3_leastSum 9 rfl) ?_
  obtain ⟨x3, e4, h⟩ := bi_el h
  refine R_ild e4 (tl_23 e2 (ty_3_6 k0)) (dd dt_3_leastSum 10 rfl) ?_
  obtain rfl := Option.some.inj h
  exact R_iret rfl (dd dt_3_leastSum 11 rfl) hQ
/-! LongStrike$Pickets.leastIfAt(III[[I)I -/
def tab_3_leastIfAt : List (Nat × Instr × Nat) := [(0, .aload 4, 2), (2, .aload_n 0, 1), (3, .getfield 25, 3), (6, .iload_n 1, 1), (7, .iaload, 1), (8, .aaload, 1), (9, .aload_n 0, 1), (10, .getfield 21, 3), (13, .iload_n 2, 1), (14, .iaload, 1), (15, .iaload, 1), (16, .istore 5, 2), (18, .iload_n 3, 1), (19, .iconst 1, 1), (20, .iload_n 2, 1), (21, .ishl, 1), (22, .iand, 1), (23, .ifCond .eq 12, 3), (26, .iload 5, 2), (28, .aload_n 0, 1), (29, .getfield 9, 3), (32, .if_icmp .le 6, 3), (35, .ldc 42, 2), (37, .ireturn, 1), (38, .iload 5, 2), (40, .aload_n 0, 1), (41, .getfield 33, 3), (44, .iload_n 1, 1), (45, .iconst 1, 1), (46, .iadd, 1), (47, .aaload, 1), (48, .iload_n 3, 1), (49, .iconst 1, 1), (50, .iload_n 2, 1), (51, .ishl, 1), (52, .iconst (-1), 1), (53, .ixor, 1), (54, .iand, 1), (55, .iaload, 1), (56, .iadd, 1), (57, .ireturn, 1)]
set_option maxRecDepth 100000 in
theorem dt_3_leastIfAt : ∀ q ∈ tab_3_leastIfAt, decode m_3_leastIfAt.2.1 q.1 = .ok q.2 := by decide +kernel
def f_3_leastIfAt (a0 : Nat) (a1 : Int32) (a2 : Int32) (a3 : Int32) (a4 : Nat) (μ : mm) : Option (Int32) :=
  (ld μ (rf a0 4) a1).bind fun x1 =>
  (lda a4 x1).bind fun r3 =>
  (ld μ (rf a0 3) a2).bind fun x5 =>
  (ld μ r3 x5).bind fun x7 =>
  if (a3 &&& (1 <<< (a2 &&& 31))) = 0 then
    some 1000000
  else
    if x7 ≤ (μ a0 0) then
      (lda (rf a0 6) (a1 + 1)).bind fun r9 =>
      (ld μ r9 (a3 &&& ((1 <<< (a2 &&& 31)) ^^^ (-1)))).bind fun x11 =>
      some (x7 + x11)
    else
      some 1000000
set_option maxRecDepth 100000 in
set_option maxHeartbeats 4000000 in
theorem ok_3_leastIfAt {l : Launch} {E : ce} {d : Nat}  {a0 : Nat} {a1 : Int32} {a2 : Int32} {a3 : Int32} {a4 : Nat} {μ : mm} {r : Int32} {Q : Option Value → mm → Prop} (h : f_3_leastIfAt a0 a1 a2 a3 a4 μ = some r) (k0 : kd a0 = 3) (k4 : kd a4 = 23) (hQ : Q (some (.int r)) μ) : Ct l E d yX3_leastIfAt m_3_leastIfAt [.ref a0, .int a1, .int a2, .int a3, .ref a4] μ Q := by
  refine Ct_of (lv := [some (.ref a0), some (.int a1), some (.int a2), some (.int a3), some (.ref a4), none]) (by decide) rfl (Nat.le_of_ble_eq_true rfl) rfl ?_
  unfold f_3_leastIfAt at h
  refine R_aload (dd dt_3_leastIfAt 0 rfl) rfl ?_
  refine R_aload_n (dd dt_3_leastIfAt 1 rfl) 0 rfl rfl ?_
  refine g_3_25 rfl k0 (dd dt_3_leastIfAt 2 rfl) ?_
  refine R_iload_n (dd dt_3_leastIfAt 3 rfl) 1 rfl rfl ?_
  obtain ⟨x1, e2, h⟩ := bi_el h
  refine R_ild e2 (ty_3_4 k0) (dd dt_3_leastIfAt 4 rfl) ?_
  obtain ⟨r3, e4, h⟩ := bi_el h
  refine R_aald (t0 := 3) e4 k4 (by decide) (by decide) rfl rfl (dd dt_3_leastIfAt 5 rfl) ?_
  refine R_aload_n (dd dt_3_leastIfAt 6 rfl) 0 rfl rfl ?_
  refine g_3_21 rfl k0 (dd dt_3_leastIfAt 7 rfl) ?_
  refine R_iload_n (dd dt_3_leastIfAt 8 rfl) 2 rfl rfl ?_
  obtain ⟨x5, e6, h⟩ := bi_el h
  refine R_ild e6 (ty_3_3 k0) (dd dt_3_leastIfAt 9 rfl) ?_
  obtain ⟨x7, e8, h⟩ := bi_el h
  refine R_ild e8 (tl_23 e4 k4) (dd dt_3_leastIfAt 10 rfl) ?_
  refine R_istore (lv' := [some (.ref a0), some (.int a1), some (.int a2), some (.int a3), some (.ref a4), some (.int x7)]) (dd dt_3_leastIfAt 11 rfl) (by decide) rfl rfl ?_
  refine R_iload_n (dd dt_3_leastIfAt 12 rfl) 3 rfl rfl ?_
  refine R_iconst (v := 1) (dd dt_3_leastIfAt 13 rfl) ic_1 ?_
  refine R_iload_n (dd dt_3_leastIfAt 14 rfl) 2 rfl rfl ?_
  refine R_ishl (dd dt_3_leastIfAt 15 rfl) ?_
  refine R_iand (dd dt_3_leastIfAt 16 rfl) ?_
  refine R_ifeq (dd dt_3_leastIfAt 17 rfl) (tgt := 35) rfl (fun hc => ?_) (fun hc => ?_)
  · rw [if_pos hc] at h
    refine R_ldc (dd dt_3_leastIfAt 22 rfl) ct_3_42 ?_
    obtain rfl := Option.some.inj h
    exact R_iret rfl (dd dt_3_leastIfAt 23 rfl) hQ
  · rw [if_neg hc] at h
    refine R_iload (dd dt_3_leastIfAt 18 rfl) rfl ?_
    refine R_aload_n (dd dt_3_leastIfAt 19 rfl) 0 rfl rfl ?_
    refine g_3_9 rfl k0 (dd dt_3_leastIfAt 20 rfl) ?_
    refine R_cmple (dd dt_3_leastIfAt 21 rfl) (tgt := 38) rfl (fun hc => ?_) (fun hc => ?_)
    · rw [if_pos hc] at h
      refine R_iload (dd dt_3_leastIfAt 24 rfl) rfl ?_
      refine R_aload_n (dd dt_3_leastIfAt 25 rfl) 0 rfl rfl ?_
      refine g_3_33 rfl k0 (dd dt_3_leastIfAt 26 rfl) ?_
      refine R_iload_n (dd dt_3_leastIfAt 27 rfl) 1 rfl rfl ?_
      refine R_iconst (v := 1) (dd dt_3_leastIfAt 28 rfl) ic_1 ?_
      refine R_iadd (dd dt_3_leastIfAt 29 rfl) ?_
      obtain ⟨r9, e10, h⟩ := bi_el h
      refine R_aald (t0 := 3) e10 (ty_3_6 k0) (by decide) (by decide) rfl rfl (dd dt_3_leastIfAt 30 rfl) ?_
      refine R_iload_n (dd dt_3_leastIfAt 31 rfl) 3 rfl rfl ?_
      refine R_iconst (v := 1) (dd dt_3_leastIfAt 32 rfl) ic_1 ?_
      refine R_iload_n (dd dt_3_leastIfAt 33 rfl) 2 rfl rfl ?_
      refine R_ishl (dd dt_3_leastIfAt 34 rfl) ?_
      refine R_iconst (v := (-1)) (dd dt_3_leastIfAt 35 rfl) ic_m1 ?_
      refine R_ixor (dd dt_3_leastIfAt 36 rfl) ?_
      refine R_iand (dd dt_3_leastIfAt 37 rfl) ?_
      obtain ⟨x11, e12, h⟩ := bi_el h
      refine R_ild e12 (tl_23 e10 (ty_3_6 k0)) (dd dt_3_leastIfAt 38 rfl) ?_
      refine R_iadd (dd dt_3_leastIfAt 39 rfl) ?_
      obtain rfl := Option.some.inj h
      exact R_iret rfl (dd dt_3_leastIfAt 40 rfl) hQ
    · rw [if_neg hc] at h
      refine R_ldc (dd dt_3_leastIfAt 22 rfl) ct_3_42 ?_
      obtain rfl := Option.some.inj h
      exact R_iret rfl (dd dt_3_leastIfAt 23 rfl) hQ
/-! LongStrike$Pickets.leastFrom(II[[I)I -/
def tab_3_leastFrom : List (Nat × Instr × Nat) := [(0, .aload_n 0, 1), (1, .getfield 33, 3), (4, .iload_n 1, 1), (5, .iconst 1, 1), (6, .iadd, 1), (7, .aaload, 1), (8, .iload_n 2, 1), (9, .iaload, 1), (10, .istore 4, 2), (12, .iconst 0, 1), (13, .istore 5, 2), (15, .iload 5, 2), (17, .aload_n 0, 1), (18, .getfield 15, 3), (21, .if_icmp .ge 25, 3), (24, .iload 4, 2), (26, .aload_n 0, 1), (27, .iload_n 1, 1), (28, .iload 5, 2), (30, .iload_n 2, 1), (31, .aload_n 3, 1), (32, .invokevirtual 61, 3), (35, .invokestatic 65, 3), (38, .istore 4, 2), (40, .iinc 5 1, 3), (43, .goto (-28), 3), (46, .iload 4, 2), (48, .ireturn, 1)]
set_option maxRecDepth 100000 in
theorem dt_3_leastFrom : ∀ q ∈ tab_3_leastFrom, decode m_3_leastFrom.2.1 q.1 = .ok q.2 := by decide +kernel
def f_3_leastFrom_l15 (a0 : Nat) (a1 : Int32) (a2 : Int32) (a3 : Nat) (μ : mm) : Nat → Int32 → Int32 → Option (Int32)
  | 0, _, _ => none
  | n + 1, v4, v5 => if (μ a0 1) ≤ v5 then
      some v4
    else
      (f_3_leastIfAt a0 a1 v5 a2 a3 μ).bind fun x2 =>
      f_3_leastFrom_l15 a0 a1 a2 a3 μ n (mn v4 x2) (v5 + 1)
set_option maxRecDepth 100000 in
theorem ok_3_leastFrom_l15 {l : Launch} {E : ce} {d : Nat} {Q : Option Value → mm → Prop} (a0 : Nat) (a1 : Int32) (a2 : Int32) (a3 : Nat) (μ : mm) (k0 : kd a0 = 3) (k3 : kd a3 = 23) : ∀ (n : Nat) (v4 : Int32) (v5 : Int32) (z : Int32), f_3_leastFrom_l15 a0 a1 a2 a3 μ n v4 v5 = some z → Rj l E (d + 1) m_3_leastFrom 46 [none, none, none, none, some (.int z), none] [] μ Q → Rj l E (d + 1) m_3_leastFrom 15 [some (.ref a0), some (.int a1), some (.int a2), some (.ref a3), some (.int v4), some (.int v5)] [] μ Q
  | 0, _, _, z, h, _ => by
    rw [f_3_leastFrom_l15] at h
    cases h
  | n + 1, v4, v5, z, h, KX => by
    rw [f_3_leastFrom_l15] at h
    refine R_iload (dd dt_3_leastFrom 11 rfl) rfl ?_
    refine R_aload_n (dd dt_3_leastFrom 12 rfl) 0 rfl rfl ?_
    refine g_3_15 rfl k0 (dd dt_3_leastFrom 13 rfl) ?_
    refine R_cmpge (dd dt_3_leastFrom 14 rfl) (tgt := 46) rfl (fun hc => ?_) (fun hc => ?_)
    · rw [if_pos hc] at h
      obtain rfl := Option.some.inj h
      exact R_mask [false, false, false, false, true, false] rfl KX
    · rw [if_neg hc] at h
      refine R_iload (dd dt_3_leastFrom 15 rfl) rfl ?_
      refine R_aload_n (dd dt_3_leastFrom 16 rfl) 0 rfl rfl ?_
      refine R_iload_n (dd dt_3_leastFrom 17 rfl) 1 rfl rfl ?_
      refine R_iload (dd dt_3_leastFrom 18 rfl) rfl ?_
      refine R_iload_n (dd dt_3_leastFrom 19 rfl) 2 rfl rfl ?_
      refine R_aload_n (dd dt_3_leastFrom 20 rfl) 3 rfl rfl ?_
      obtain ⟨x2, e1, h⟩ := bi_el h
      refine c_3_61 (As := [.int a1, .int v5, .int a2, .ref a3]) (st1 := [.int x2, .int v4]) rfl (fun Q1 hq => ok_3_leastIfAt e1 k0 k3 hq) k0 rfl rfl (Nat.le_of_ble_eq_true rfl) (dd dt_3_leastFrom 21 rfl) rfl ?_
      refine R_mmin ml_3_65 (Nat.le_of_ble_eq_true rfl) (dd dt_3_leastFrom 22 rfl) ?_
      refine R_istore (lv' := [some (.ref a0), some (.int a1), some (.int a2), some (.ref a3), some (.int (mn v4 x2)), some (.int v5)]) (dd dt_3_leastFrom 23 rfl) (by decide) rfl rfl ?_
      refine R_iinc (v := 1) (lv' := [some (.ref a0), some (.int a1), some (.int a2), some (.ref a3), some (.int (mn v4 x2)), some (.int (v5 + 1))]) (dd dt_3_leastFrom 24 rfl) (by decide) rfl rfl ic_1 rfl ?_
      refine R_goto (dd dt_3_leastFrom 25 rfl) (tgt := 15) rfl ?_
      exact R_mask [true, true, true, true, true, true] rfl (ok_3_leastFrom_l15 a0 a1 a2 a3 μ k0 k3 n (mn v4 x2) (v5 + 1) _ h KX)
def f_3_leastFrom (a0 : Nat) (a1 : Int32) (a2 : Int32) (a3 : Nat) (μ : mm) : Option (Int32) :=
  (lda (rf a0 6) (a1 + 1)).bind fun r1 =>
  (ld μ r1 a2).bind fun x3 =>
  (f_3_leastFrom_l15 a0 a1 a2 a3 μ FU x3 0).bind fun z5 =>
  some z5
set_option maxRecDepth 100000 in
set_option maxHeartbeats 4000000 in
theorem ok_3_leastFrom {l : Launch} {E : ce} {d : Nat}  {a0 : Nat} {a1 : Int32} {a2 : Int32} {a3 : Nat} {μ : mm} {r : Int32} {Q : Option Value → mm → Prop} (h : f_3_leastFrom a0 a1 a2 a3 μ = some r) (k0 : kd a0 = 3) (k3 : kd a3 = 23) (hQ : Q (some (.int r)) μ) : Ct l E (d + 1) yX3_leastFrom m_3_leastFrom [.ref a0, .int a1, .int a2, .ref a3] μ Q := by
  refine Ct_of (lv := [some (.ref a0), some (.int a1), some (.int a2), some (.ref a3), none, none]) (by decide) rfl (Nat.le_of_ble_eq_true rfl) rfl ?_
  unfold f_3_leastFrom at h
  refine R_aload_n (dd dt_3_leastFrom 0 rfl) 0 rfl rfl ?_
  refine g_3_33 rfl k0 (dd dt_3_leastFrom 1 rfl) ?_
  refine R_iload_n (dd dt_3_leastFrom 2 rfl) 1 rfl rfl ?_
  refine R_iconst (v := 1) (dd dt_3_leastFrom 3 rfl) ic_1 ?_
  refine R_iadd (dd dt_3_leastFrom 4 rfl) ?_
  obtain ⟨r1, e2, h⟩ := bi_el h
  refine R_aald (t0 := 3) e2 (ty_3_6 k0) (by decide) (by decide) rfl rfl (dd dt_3_leastFrom 5 rfl) ?_
  refine R_iload_n (dd dt_3_leastFrom 6 rfl) 2 rfl rfl ?_
  obtain ⟨x3, e4, h⟩ := bi_el h
  refine R_ild e4 (tl_23 e2 (ty_3_6 k0)) (dd dt_3_leastFrom 7 rfl) ?_
  refine R_istore (lv' := [some (.ref a0), some (.int a1), some (.int a2), some (.ref a3), some (.int x3), none]) (dd dt_3_leastFrom 8 rfl) (by decide) rfl rfl ?_
  refine R_iconst (v := 0) (dd dt_3_leastFrom 9 rfl) ic_0 ?_
  refine R_istore (lv' := [some (.ref a0), some (.int a1), some (.int a2), some (.ref a3), some (.int x3), some (.int 0)]) (dd dt_3_leastFrom 10 rfl) (by decide) rfl rfl ?_
  obtain ⟨z5, e6, h⟩ := bi_el h
  refine R_mask [true, true, true, true, true, true] rfl (ok_3_leastFrom_l15 a0 a1 a2 a3 μ k0 k3 FU x3 0 _ e6 ?_)
  refine R_iload (dd dt_3_leastFrom 26 rfl) rfl ?_
  obtain rfl := Option.some.inj h
  exact R_iret rfl (dd dt_3_leastFrom 27 rfl) hQ
/-! LongStrike$Pickets.sendMen([[I)V -/
def tab_3_sendMen : List (Nat × Instr × Nat) := [(0, .iconst 1, 1), (1, .aload_n 0, 1), (2, .getfield 15, 3), (5, .ishl, 1), (6, .iconst 1, 1), (7, .isub, 1), (8, .istore_n 2, 1), (9, .iconst 0, 1), (10, .istore_n 3, 1), (11, .iload_n 3, 1), (12, .aload_n 0, 1), (13, .getfield 18, 3), (16, .if_icmp .ge 81, 3), (19, .aload_n 0, 1), (20, .getfield 28, 3), (23, .iload_n 3, 1), (24, .iconst (-1), 1), (25, .iastore, 1), (26, .iconst 0, 1), (27, .istore 4, 2), (29, .iload 4, 2), (31, .aload_n 0, 1), (32, .getfield 15, 3), (35, .if_icmp .ge 56, 3), (38, .aload_n 0, 1), (39, .getfield 28, 3), (42, .iload_n 3, 1), (43, .iaload, 1), (44, .iconst (-1), 1), (45, .if_icmp .ne 46, 3), (48, .aload_n 0, 1), (49, .iload_n 3, 1), (50, .iload 4, 2), (52, .iload_n 2, 1), (53, .aload_n 1, 1), (54, .invokevirtual 61, 3), (57, .aload_n 0, 1), (58, .getfield 33, 3), (61, .iload_n 3, 1), (62, .aaload, 1), (63, .iload_n 2, 1), (64, .iaload, 1), (65, .if_icmp .ne 20, 3), (68, .aload_n 0, 1), (69, .getfield 28, 3), (72, .iload_n 3, 1), (73, .iload 4, 2), (75, .iastore, 1), (76, .iload_n 2, 1), (77, .iconst 1, 1), (78, .iload 4, 2), (80, .ishl, 1), (81, .iconst (-1), 1), (82, .ixor, 1), (83, .iand, 1), (84, .istore_n 2, 1), (85, .iinc 4 1, 3), (88, .goto (-59), 3), (91, .iinc 3 1, 3), (94, .goto (-83), 3), (97, .return_, 1)]
set_option maxRecDepth 100000 in
theorem dt_3_sendMen : ∀ q ∈ tab_3_sendMen, decode m_3_sendMen.2.1 q.1 = .ok q.2 := by decide +kernel
def f_3_sendMen_l29 (a0 : Nat) (a1 : Nat) (a3 : Int32) : Nat → Int32 → Int32 → mm → Option (Int32 × mm)
  | 0, _, _, _ => none
  | n + 1, v2, v4, μ => if (μ a0 1) ≤ v4 then
      some (v2, μ)
    else
      (ld μ (rf a0 5) a3).bind fun x1 =>
      if x1 = (-1) then
        (f_3_leastIfAt a0 a3 v4 v2 a1 μ).bind fun x4 =>
        (lda (rf a0 6) a3).bind fun r5 =>
        (ld μ r5 v2).bind fun x7 =>
        if x4 = x7 then
          (sto μ (rf a0 5) a3 v4).bind fun μ9 =>
          f_3_sendMen_l29 a0 a1 a3 n (v2 &&& ((1 <<< (v4 &&& 31)) ^^^ (-1))) (v4 + 1) μ9
        else
          f_3_sendMen_l29 a0 a1 a3 n v2 (v4 + 1) μ
      else
        some (v2, μ)
set_option maxRecDepth 100000 in
theorem ok_3_sendMen_l29 {l : Launch} {E : ce} {d : Nat} {Q : Option Value → mm → Prop} (a0 : Nat) (a1 : Nat) (a3 : Int32) (k0 : kd a0 = 3) (k1 : kd a1 = 23) : ∀ (n : Nat) (v2 : Int32) (v4 : Int32) (μ : mm) (z : Int32 × mm), f_3_sendMen_l29 a0 a1 a3 n v2 v4 μ = some z → Rj l E (d + 1) m_3_sendMen 91 [some (.ref a0), some (.ref a1), some (.int z.1), some (.int a3), none] [] z.2 Q → Rj l E (d + 1) m_3_sendMen 29 [some (.ref a0), some (.ref a1), some (.int v2), some (.int a3), some (.int v4)] [] μ Q
  | 0, _, _, _, z, h, _ => by
    rw [f_3_sendMen_l29] at h
    cases h
  | n + 1, v2, v4, μ, z, h, KX => by
    rw [f_3_sendMen_l29] at h
    refine R_iload (dd dt_3_sendMen 20 rfl) rfl ?_
    refine R_aload_n (dd dt_3_sendMen 21 rfl) 0 rfl rfl ?_
    refine g_3_15 rfl k0 (dd dt_3_sendMen 22 rfl) ?_
    refine R_cmpge (dd dt_3_sendMen 23 rfl) (tgt := 91) rfl (fun hc => ?_) (fun hc => ?_)
    · rw [if_pos hc] at h
      obtain rfl := Option.some.inj h
      exact R_mask [true, true, true, true, false] rfl KX
    · rw [if_neg hc] at h
      refine R_aload_n (dd dt_3_sendMen 24 rfl) 0 rfl rfl ?_
      refine g_3_28 rfl k0 (dd dt_3_sendMen 25 rfl) ?_
      refine R_iload_n (dd dt_3_sendMen 26 rfl) 3 rfl rfl ?_
      obtain ⟨x1, e2, h⟩ := bi_el h
      refine R_ild e2 (ty_3_5 k0) (dd dt_3_sendMen 27 rfl) ?_
      refine R_iconst (v := (-1)) (dd dt_3_sendMen 28 rfl) ic_m1 ?_
      refine R_cmpne (dd dt_3_sendMen 29 rfl) (tgt := 91) rfl (fun hc => ?_) (fun hc => ?_)
      · rw [if_neg hc] at h
        obtain rfl := Option.some.inj h
        exact R_mask [true, true, true, true, false] rfl KX
      · rw [if_pos hc] at h
        refine R_aload_n (dd dt_3_sendMen 30 rfl) 0 rfl rfl ?_
        refine R_iload_n (dd dt_3_sendMen 31 rfl) 3 rfl rfl ?_
        refine R_iload (dd dt_3_sendMen 32 rfl) rfl ?_
        refine R_iload_n (dd dt_3_sendMen 33 rfl) 2 rfl rfl ?_
        refine R_aload_n (dd dt_3_sendMen 34 rfl) 1 rfl rfl ?_
        obtain ⟨x4, e3, h⟩ := bi_el h
        refine c_3_61 (As := [.int a3, .int v4, .int v2, .ref a1]) (st1 := [.int x4]) rfl (fun Q1 hq => ok_3_leastIfAt e3 k0 k1 hq) k0 rfl rfl (Nat.le_of_ble_eq_true rfl) (dd dt_3_sendMen 35 rfl) rfl ?_
        refine R_aload_n (dd dt_3_sendMen 36 rfl) 0 rfl rfl ?_
        refine g_3_33 rfl k0 (dd dt_3_sendMen 37 rfl) ?_
        refine R_iload_n (dd dt_3_sendMen 38 rfl) 3 rfl rfl ?_
        obtain ⟨r5, e6, h⟩ := bi_el h
        refine R_aald (t0 := 3) e6 (ty_3_6 k0) (by decide) (by decide) rfl rfl (dd dt_3_sendMen 39 rfl) ?_
        refine R_iload_n (dd dt_3_sendMen 40 rfl) 2 rfl rfl ?_
        obtain ⟨x7, e8, h⟩ := bi_el h
        refine R_ild e8 (tl_23 e6 (ty_3_6 k0)) (dd dt_3_sendMen 41 rfl) ?_
        refine R_cmpne (dd dt_3_sendMen 42 rfl) (tgt := 85) rfl (fun hc => ?_) (fun hc => ?_)
        · rw [if_neg hc] at h
          refine R_iinc (v := 1) (lv' := [some (.ref a0), some (.ref a1), some (.int v2), some (.int a3), some (.int (v4 + 1))]) (dd dt_3_sendMen 56 rfl) (by decide) rfl rfl ic_1 rfl ?_
          refine R_goto (dd dt_3_sendMen 57 rfl) (tgt := 29) rfl ?_
          exact R_mask [true, true, true, true, true] rfl (ok_3_sendMen_l29 a0 a1 a3 k0 k1 n v2 (v4 + 1) μ _ h KX)
        · rw [if_pos hc] at h
          refine R_aload_n (dd dt_3_sendMen 43 rfl) 0 rfl rfl ?_
          refine g_3_28 rfl k0 (dd dt_3_sendMen 44 rfl) ?_
          refine R_iload_n (dd dt_3_sendMen 45 rfl) 3 rfl rfl ?_
          refine R_iload (dd dt_3_sendMen 46 rfl) rfl ?_
          obtain ⟨μ9, e10, h⟩ := bi_el h
          refine R_isto e10 (ty_3_5 k0) (dd dt_3_sendMen 47 rfl) ?_
          refine R_iload_n (dd dt_3_sendMen 48 rfl) 2 rfl rfl ?_
          refine R_iconst (v := 1) (dd dt_3_sendMen 49 rfl) ic_1 ?_
          refine R_iload (dd dt_3_sendMen 50 rfl) rfl ?_
          refine R_ishl (dd dt_3_sendMen 51 rfl) ?_
          refine R_iconst (v := (-1)) (dd dt_3_sendMen 52 rfl) ic_m1 ?_
          refine R_ixor (dd dt_3_sendMen 53 rfl) ?_
          refine R_iand (dd dt_3_sendMen 54 rfl) ?_
          refine R_istore_n (lv' := [some (.ref a0), some (.ref a1), some (.int (v2 &&& ((1 <<< (v4 &&& 31)) ^^^ (-1)))), some (.int a3), some (.int v4)]) (dd dt_3_sendMen 55 rfl) 2 rfl (by decide) rfl rfl ?_
          refine R_iinc (v := 1) (lv' := [some (.ref a0), some (.ref a1), some (.int (v2 &&& ((1 <<< (v4 &&& 31)) ^^^ (-1)))), some (.int a3), some (.int (v4 + 1))]) (dd dt_3_sendMen 56 rfl) (by decide) rfl rfl ic_1 rfl ?_
          refine R_goto (dd dt_3_sendMen 57 rfl) (tgt := 29) rfl ?_
          exact R_mask [true, true, true, true, true] rfl (ok_3_sendMen_l29 a0 a1 a3 k0 k1 n (v2 &&& ((1 <<< (v4 &&& 31)) ^^^ (-1))) (v4 + 1) μ9 _ h KX)
def f_3_sendMen_l11 (a0 : Nat) (a1 : Nat) : Nat → Int32 → Int32 → mm → Option (mm)
  | 0, _, _, _ => none
  | n + 1, v2, v3, μ => if (μ a0 2) ≤ v3 then
      some μ
    else
      (sto μ (rf a0 5) v3 (-1)).bind fun μ1 =>
      (f_3_sendMen_l29 a0 a1 v3 FU v2 0 μ1).bind fun z3 =>
      f_3_sendMen_l11 a0 a1 n z3.1 (v3 + 1) z3.2
set_option maxRecDepth 100000 in
theorem ok_3_sendMen_l11 {l : Launch} {E : ce} {d : Nat} {Q : Option Value → mm → Prop} (a0 : Nat) (a1 : Nat) (k0 : kd a0 = 3) (k1 : kd a1 = 23) : ∀ (n : Nat) (v2 : Int32) (v3 : Int32) (μ : mm) (z : mm), f_3_sendMen_l11 a0 a1 n v2 v3 μ = some z → Rj l E (d + 1) m_3_sendMen 97 [none, none, none, none, none] [] z Q → Rj l E (d + 1) m_3_sendMen 11 [some (.ref a0), some (.ref a1), some (.int v2), some (.int v3), none] [] μ Q
  | 0, _, _, _, z, h, _ => by
    rw [f_3_sendMen_l11] at h
    cases h
  | n + 1, v2, v3, μ, z, h, KX => by
    rw [f_3_sendMen_l11] at h
    refine R_iload_n (dd dt_3_sendMen 9 rfl) 3 rfl rfl ?_
    refine R_aload_n (dd dt_3_sendMen 10 rfl) 0 rfl rfl ?_
    refine g_3_18 rfl k0 (dd dt_3_sendMen 11 rfl) ?_
    refine R_cmpge (dd dt_3_sendMen 12 rfl) (tgt := 97) rfl (fun hc => ?_) (fun hc => ?_)
    · rw [if_pos hc] at h
      obtain rfl := Option.some.inj h
      exact R_mask [false, false, false, false, false] rfl KX
    · rw [if_neg hc] at h
      refine R_aload_n (dd dt_3_sendMen 13 rfl) 0 rfl rfl ?_
      refine g_3_28 rfl k0 (dd dt_3_sendMen 14 rfl) ?_
      refine R_iload_n (dd dt_3_sendMen 15 rfl) 3 rfl rfl ?_
      refine R_iconst (v := (-1)) (dd dt_3_sendMen 16 rfl) ic_m1 ?_
      obtain ⟨μ1, e2, h⟩ := bi_el h
      refine R_isto e2 (ty_3_5 k0) (dd dt_3_sendMen 17 rfl) ?_
      refine R_iconst (v := 0) (dd dt_3_sendMen 18 rfl) ic_0 ?_
      refine R_istore (lv' := [some (.ref a0), some (.ref a1), some (.int v2), some (.int v3), some (.int 0)]) (dd dt_3_sendMen 19 rfl) (by decide) rfl rfl ?_
      obtain ⟨z3, e4, h⟩ := bi_el h
      refine R_mask [true, true, true, true, true] rfl (ok_3_sendMen_l29 a0 a1 v3 k0 k1 FU v2 0 μ1 _ e4 ?_)
      refine R_iinc (v := 1) (lv' := [some (.ref a0), some (.ref a1), some (.int z3.1), some (.int (v3 + 1)), none]) (dd dt_3_sendMen 58 rfl) (by decide) rfl rfl ic_1 rfl ?_
      refine R_goto (dd dt_3_sendMen 59 rfl) (tgt := 11) rfl ?_
      exact R_mask [true, true, true, true, false] rfl (ok_3_sendMen_l11 a0 a1 k0 k1 n z3.1 (v3 + 1) z3.2 _ h KX)
def f_3_sendMen (a0 : Nat) (a1 : Nat) (μ : mm) : Option (mm) :=
  (f_3_sendMen_l11 a0 a1 FU ((1 <<< ((μ a0 1) &&& 31)) - 1) 0 μ).bind fun z1 =>
  some z1
set_option maxRecDepth 100000 in
set_option maxHeartbeats 4000000 in
theorem ok_3_sendMen {l : Launch} {E : ce} {d : Nat}  {a0 : Nat} {a1 : Nat} {μ : mm} {r : mm} {Q : Option Value → mm → Prop} (h : f_3_sendMen a0 a1 μ = some r) (k0 : kd a0 = 3) (k1 : kd a1 = 23) (hQ : Q none r) : Ct l E (d + 1) yX3_sendMen m_3_sendMen [.ref a0, .ref a1] μ Q := by
  refine Ct_of (lv := [some (.ref a0), some (.ref a1), none, none, none]) (by decide) rfl (Nat.le_of_ble_eq_true rfl) rfl ?_
  unfold f_3_sendMen at h
  refine R_iconst (v := 1) (dd dt_3_sendMen 0 rfl) ic_1 ?_
  refine R_aload_n (dd dt_3_sendMen 1 rfl) 0 rfl rfl ?_
  refine g_3_15 rfl k0 (dd dt_3_sendMen 2 rfl) ?_
  refine R_ishl (dd dt_3_sendMen 3 rfl) ?_
  refine R_iconst (v := 1) (dd dt_3_sendMen 4 rfl) ic_1 ?_
  refine R_isub (dd dt_3_sendMen 5 rfl) ?_
  refine R_istore_n (lv' := [some (.ref a0), some (.ref a1), some (.int ((1 <<< ((μ a0 1) &&& 31)) - 1)), none, none]) (dd dt_3_sendMen 6 rfl) 2 rfl (by decide) rfl rfl ?_
  refine R_iconst (v := 0) (dd dt_3_sendMen 7 rfl) ic_0 ?_
  refine R_istore_n (lv' := [some (.ref a0), some (.ref a1), some (.int ((1 <<< ((μ a0 1) &&& 31)) - 1)), some (.int 0), none]) (dd dt_3_sendMen 8 rfl) 3 rfl (by decide) rfl rfl ?_
  obtain ⟨z1, e2, h⟩ := bi_el h
  refine R_mask [true, true, true, true, false] rfl (ok_3_sendMen_l11 a0 a1 k0 k1 FU ((1 <<< ((μ a0 1) &&& 31)) - 1) 0 μ _ e2 ?_)
  obtain rfl := Option.some.inj h
  exact R_vret rfl (dd dt_3_sendMen 60 rfl) hQ
/-! LongStrike$Pickets.plan([[I)Z -/
def tab_3_plan : List (Nat × Instr × Nat) := [(0, .aload_n 0, 1), (1, .getfield 33, 3), (4, .aload_n 0, 1), (5, .getfield 18, 3), (8, .aaload, 1), (9, .ldc 42, 2), (11, .invokestatic 43, 3), (14, .aload_n 0, 1), (15, .getfield 33, 3), (18, .aload_n 0, 1), (19, .getfield 18, 3), (22, .aaload, 1), (23, .iconst 0, 1), (24, .iconst 0, 1), (25, .iastore, 1), (26, .aload_n 0, 1), (27, .getfield 18, 3), (30, .iconst 1, 1), (31, .isub, 1), (32, .istore_n 2, 1), (33, .iload_n 2, 1), (34, .ifCond .lt 42, 3), (37, .iconst 0, 1), (38, .istore_n 3, 1), (39, .iload_n 3, 1), (40, .iconst 1, 1), (41, .aload_n 0, 1), (42, .getfield 15, 3), (45, .ishl, 1), (46, .if_icmp .ge 24, 3), (49, .aload_n 0, 1), (50, .getfield 33, 3), (53, .iload_n 2, 1), (54, .aaload, 1), (55, .iload_n 3, 1), (56, .aload_n 0, 1), (57, .iload_n 2, 1), (58, .iload_n 3, 1), (59, .aload_n 1, 1), (60, .invokevirtual 49, 3), (63, .iastore, 1), (64, .iinc 3 1, 3), (67, .goto (-28), 3), (70, .iinc 2 (-1), 3), (73, .goto (-40), 3), (76, .aload_n 0, 1), (77, .invokevirtual 53, 3), (80, .ldc 42, 2), (82, .if_icmp .lt 5, 3), (85, .iconst 0, 1), (86, .ireturn, 1), (87, .aload_n 0, 1), (88, .aload_n 1, 1), (89, .invokevirtual 57, 3), (92, .iconst 1, 1), (93, .ireturn, 1)]
set_option maxRecDepth 100000 in
theorem dt_3_plan : ∀ q ∈ tab_3_plan, decode m_3_plan.2.1 q.1 = .ok q.2 := by decide +kernel
def f_3_plan_l39 (a0 : Nat) (a1 : Nat) (a2 : Int32) : Nat → Int32 → mm → Option (mm)
  | 0, _, _ => none
  | n + 1, v3, μ => if (1 <<< ((μ a0 1) &&& 31)) ≤ v3 then
      some μ
    else
      (lda (rf a0 6) a2).bind fun r1 =>
      (f_3_leastFrom a0 a2 v3 a1 μ).bind fun x4 =>
      (sto μ r1 v3 x4).bind fun μ5 =>
      f_3_plan_l39 a0 a1 a2 n (v3 + 1) μ5
set_option maxRecDepth 100000 in
theorem ok_3_plan_l39 {l : Launch} {E : ce} {d : Nat} {Q : Option Value → mm → Prop} (a0 : Nat) (a1 : Nat) (a2 : Int32) (k0 : kd a0 = 3) (k1 : kd a1 = 23) : ∀ (n : Nat) (v3 : Int32) (μ : mm) (z : mm), f_3_plan_l39 a0 a1 a2 n v3 μ = some z → Rj l E (d + 2) m_3_plan 70 [some (.ref a0), some (.ref a1), some (.int a2), none] [] z Q → Rj l E (d + 2) m_3_plan 39 [some (.ref a0), some (.ref a1), some (.int a2), some (.int v3)] [] μ Q
  | 0, _, _, z, h, _ => by
    rw [f_3_plan_l39] at h
    cases h
  | n + 1, v3, μ, z, h, KX => by
    rw [f_3_plan_l39] at h
    refine R_iload_n (dd dt_3_plan 24 rfl) 3 rfl rfl ?_
    refine R_iconst (v := 1) (dd dt_3_plan 25 rfl) ic_1 ?_
    refine R_aload_n (dd dt_3_plan 26 rfl) 0 rfl rfl ?_
    refine g_3_15 rfl k0 (dd dt_3_plan 27 rfl) ?_
    refine R_ishl (dd dt_3_plan 28 rfl) ?_
    refine R_cmpge (dd dt_3_plan 29 rfl) (tgt := 70) rfl (fun hc => ?_) (fun hc => ?_)
    · rw [if_pos hc] at h
      obtain rfl := Option.some.inj h
      exact R_mask [true, true, true, false] rfl KX
    · rw [if_neg hc] at h
      refine R_aload_n (dd dt_3_plan 30 rfl) 0 rfl rfl ?_
      refine g_3_33 rfl k0 (dd dt_3_plan 31 rfl) ?_
      refine R_iload_n (dd dt_3_plan 32 rfl) 2 rfl rfl ?_
      obtain ⟨r1, e2, h⟩ := bi_el h
      refine R_aald (t0 := 3) e2 (ty_3_6 k0) (by decide) (by decide) rfl rfl (dd dt_3_plan 33 rfl) ?_
      refine R_iload_n (dd dt_3_plan 34 rfl) 3 rfl rfl ?_
      refine R_aload_n (dd dt_3_plan 35 rfl) 0 rfl rfl ?_
      refine R_iload_n (dd dt_3_plan 36 rfl) 2 rfl rfl ?_
      refine R_iload_n (dd dt_3_plan 37 rfl) 3 rfl rfl ?_
      refine R_aload_n (dd dt_3_plan 38 rfl) 1 rfl rfl ?_
      obtain ⟨x4, e3, h⟩ := bi_el h
      refine c_3_49 (As := [.int a2, .int v3, .ref a1]) (st1 := [.int x4, .int v3, .ref r1]) rfl (fun Q1 hq => ok_3_leastFrom e3 k0 k1 hq) k0 rfl rfl (Nat.le_of_ble_eq_true rfl) (dd dt_3_plan 39 rfl) rfl ?_
      obtain ⟨μ5, e6, h⟩ := bi_el h
      refine R_isto e6 (tl_23 e2 (ty_3_6 k0)) (dd dt_3_plan 40 rfl) ?_
      refine R_iinc (v := 1) (lv' := [some (.ref a0), some (.ref a1), some (.int a2), some (.int (v3 + 1))]) (dd dt_3_plan 41 rfl) (by decide) rfl rfl ic_1 rfl ?_
      refine R_goto (dd dt_3_plan 42 rfl) (tgt := 39) rfl ?_
      exact R_mask [true, true, true, true] rfl (ok_3_plan_l39 a0 a1 a2 k0 k1 n (v3 + 1) μ5 _ h KX)
def f_3_plan_l33 (a0 : Nat) (a1 : Nat) : Nat → Int32 → mm → Option (mm)
  | 0, _, _ => none
  | n + 1, v2, μ => if v2 < 0 then
      some μ
    else
      (f_3_plan_l39 a0 a1 v2 FU 0 μ).bind fun z1 =>
      f_3_plan_l33 a0 a1 n (v2 + (-1)) z1
set_option maxRecDepth 100000 in
theorem ok_3_plan_l33 {l : Launch} {E : ce} {d : Nat} {Q : Option Value → mm → Prop} (a0 : Nat) (a1 : Nat) (k0 : kd a0 = 3) (k1 : kd a1 = 23) : ∀ (n : Nat) (v2 : Int32) (μ : mm) (z : mm), f_3_plan_l33 a0 a1 n v2 μ = some z → Rj l E (d + 2) m_3_plan 76 [some (.ref a0), some (.ref a1), none, none] [] z Q → Rj l E (d + 2) m_3_plan 33 [some (.ref a0), some (.ref a1), some (.int v2), none] [] μ Q
  | 0, _, _, z, h, _ => by
    rw [f_3_plan_l33] at h
    cases h
  | n + 1, v2, μ, z, h, KX => by
    rw [f_3_plan_l33] at h
    refine R_iload_n (dd dt_3_plan 20 rfl) 2 rfl rfl ?_
    refine R_iflt (dd dt_3_plan 21 rfl) (tgt := 76) rfl (fun hc => ?_) (fun hc => ?_)
    · rw [if_pos hc] at h
      obtain rfl := Option.some.inj h
      exact R_mask [true, true, false, false] rfl KX
    · rw [if_neg hc] at h
      refine R_iconst (v := 0) (dd dt_3_plan 22 rfl) ic_0 ?_
      refine R_istore_n (lv' := [some (.ref a0), some (.ref a1), some (.int v2), some (.int 0)]) (dd dt_3_plan 23 rfl) 3 rfl (by decide) rfl rfl ?_
      obtain ⟨z1, e2, h⟩ := bi_el h
      refine R_mask [true, true, true, true] rfl (ok_3_plan_l39 a0 a1 v2 k0 k1 FU 0 μ _ e2 ?_)
      refine R_iinc (v := (-1)) (lv' := [some (.ref a0), some (.ref a1), some (.int (v2 + (-1))), none]) (dd dt_3_plan 43 rfl) (by decide) rfl rfl ic_m1 rfl ?_
      refine R_goto (dd dt_3_plan 44 rfl) (tgt := 33) rfl ?_
      exact R_mask [true, true, true, false] rfl (ok_3_plan_l33 a0 a1 k0 k1 n (v2 + (-1)) z1 _ h KX)
def f_3_plan (a0 : Nat) (a1 : Nat) (μ : mm) : Option (Int32 × mm) :=
  (lda (rf a0 6) (μ a0 2)).bind fun r1 =>
  (f_J7_fill r1 1000000 μ).bind fun μ4 =>
  (lda (rf a0 6) (μ4 a0 2)).bind fun r5 =>
  (sto μ4 r5 0 0).bind fun μ7 =>
  (f_3_plan_l33 a0 a1 FU ((μ7 a0 2) - 1) μ7).bind fun z9 =>
  (f_3_leastSum a0 z9).bind fun x12 =>
  if x12 < 1000000 then
    (f_3_sendMen a0 a1 z9).bind fun μ14 =>
    some (1, μ14)
  else
    some (0, z9)
set_option maxRecDepth 100000 in
set_option maxHeartbeats 4000000 in
theorem ok_3_plan {l : Launch} {E : ce} {d : Nat}  {a0 : Nat} {a1 : Nat} {μ : mm} {r : Int32 × mm} {Q : Option Value → mm → Prop} (h : f_3_plan a0 a1 μ = some r) (k0 : kd a0 = 3) (k1 : kd a1 = 23) (hQ : Q (some (.int r.1)) r.2) : Ct l E (d + 2) yX3_plan m_3_plan [.ref a0, .ref a1] μ Q := by
  refine Ct_of (lv := [some (.ref a0), some (.ref a1), none, none]) (by decide) rfl (Nat.le_of_ble_eq_true rfl) rfl ?_
  unfold f_3_plan at h
  refine R_aload_n (dd dt_3_plan 0 rfl) 0 rfl rfl ?_
  refine g_3_33 rfl k0 (dd dt_3_plan 1 rfl) ?_
  refine R_aload_n (dd dt_3_plan 2 rfl) 0 rfl rfl ?_
  refine g_3_18 rfl k0 (dd dt_3_plan 3 rfl) ?_
  obtain ⟨r1, e2, h⟩ := bi_el h
  refine R_aald (t0 := 3) e2 (ty_3_6 k0) (by decide) (by decide) rfl rfl (dd dt_3_plan 4 rfl) ?_
  refine R_ldc (dd dt_3_plan 5 rfl) ct_3_42 ?_
  obtain ⟨μ4, e3, h⟩ := bi_el h
  refine c_3_43 (As := [.ref r1, .int 1000000]) (st1 := []) rfl (fun Q1 hq => ok_J7_fill e3 (tl_23 e2 (ty_3_6 k0)) hq) rfl rfl (Nat.le_of_ble_eq_true rfl) (dd dt_3_plan 6 rfl) rfl ?_
  refine R_aload_n (dd dt_3_plan 7 rfl) 0 rfl rfl ?_
  refine g_3_33 rfl k0 (dd dt_3_plan 8 rfl) ?_
  refine R_aload_n (dd dt_3_plan 9 rfl) 0 rfl rfl ?_
  refine g_3_18 rfl k0 (dd dt_3_plan 10 rfl) ?_
  obtain ⟨r5, e6, h⟩ := bi_el h
  refine R_aald (t0 := 3) e6 (ty_3_6 k0) (by decide) (by decide) rfl rfl (dd dt_3_plan 11 rfl) ?_
  refine R_iconst (v := 0) (dd dt_3_plan 12 rfl) ic_0 ?_
  refine R_iconst (v := 0) (dd dt_3_plan 13 rfl) ic_0 ?_
  obtain ⟨μ7, e8, h⟩ := bi_el h
  refine R_isto e8 (tl_23 e6 (ty_3_6 k0)) (dd dt_3_plan 14 rfl) ?_
  refine R_aload_n (dd dt_3_plan 15 rfl) 0 rfl rfl ?_
  refine g_3_18 rfl k0 (dd dt_3_plan 16 rfl) ?_
  refine R_iconst (v := 1) (dd dt_3_plan 17 rfl) ic_1 ?_
  refine R_isub (dd dt_3_plan 18 rfl) ?_
  refine R_istore_n (lv' := [some (.ref a0), some (.ref a1), some (.int ((μ7 a0 2) - 1)), none]) (dd dt_3_plan 19 rfl) 2 rfl (by decide) rfl rfl ?_
  obtain ⟨z9, e10, h⟩ := bi_el h
  refine R_mask [true, true, true, false] rfl (ok_3_plan_l33 a0 a1 k0 k1 FU ((μ7 a0 2) - 1) μ7 _ e10 ?_)
  refine R_aload_n (dd dt_3_plan 45 rfl) 0 rfl rfl ?_
  obtain ⟨x12, e11, h⟩ := bi_el h
  refine c_3_53 (As := []) (st1 := [.int x12]) rfl (fun Q1 hq => ok_3_leastSum e11 k0 hq) k0 rfl rfl (Nat.le_of_ble_eq_true rfl) (dd dt_3_plan 46 rfl) rfl ?_
  refine R_ldc (dd dt_3_plan 47 rfl) ct_3_42 ?_
  refine R_cmplt (dd dt_3_plan 48 rfl) (tgt := 87) rfl (fun hc => ?_) (fun hc => ?_)
  · rw [if_pos hc] at h
    refine R_aload_n (dd dt_3_plan 51 rfl) 0 rfl rfl ?_
    refine R_aload_n (dd dt_3_plan 52 rfl) 1 rfl rfl ?_
    obtain ⟨μ14, e13, h⟩ := bi_el h
    refine c_3_57 (As := [.ref a1]) (st1 := []) rfl (fun Q1 hq => ok_3_sendMen e13 k0 k1 hq) k0 rfl rfl (Nat.le_of_ble_eq_true rfl) (dd dt_3_plan 53 rfl) rfl ?_
    refine R_iconst (v := 1) (dd dt_3_plan 54 rfl) ic_1 ?_
    obtain rfl := Option.some.inj h
    exact R_zret rfl (by decide) (dd dt_3_plan 55 rfl) hQ
  · rw [if_neg hc] at h
    refine R_iconst (v := 0) (dd dt_3_plan 49 rfl) ic_0 ?_
    obtain rfl := Option.some.inj h
    exact R_zret rfl (by decide) (dd dt_3_plan 50 rfl) hQ
/-! LongStrike.watch(I)I -/
def tab_11_watch : List (Nat × Instr × Nat) := [(0, .iload_n 1, 1), (1, .bipush 10, 2), (3, .bipush 10, 2), (5, .aload_n 0, 1), (6, .getfield 10, 3), (9, .getfield 259, 3), (12, .getfield 393, 3), (15, .iadd, 1), (16, .iconst 1, 1), (17, .isub, 1), (18, .invokestatic 83, 3), (21, .istore_n 2, 1), (22, .iload_n 1, 1), (23, .ifCond .eq 14, 3), (26, .iload_n 1, 1), (27, .iconst 1, 1), (28, .if_icmp .eq 9, 3), (31, .iload_n 2, 1), (32, .ifCond .ne 5, 3), (35, .iconst (-1), 1), (36, .ireturn, 1), (37, .aload_n 0, 1), (38, .getfield 10, 3), (41, .getfield 259, 3), (44, .aload_n 0, 1), (45, .getfield 10, 3), (48, .getfield 100, 3), (51, .invokevirtual 405, 3), (54, .ifCond .ne 6, 3), (57, .bipush (-3), 2), (59, .ireturn, 1), (60, .aload_n 0, 1), (61, .invokevirtual 409, 3), (64, .iload_n 2, 1), (65, .ifCond .eq 31, 3), (68, .aload_n 0, 1), (69, .getfield 10, 3), (72, .getfield 259, 3), (75, .getfield 412, 3), (78, .iload_n 1, 1), (79, .bipush 10, 2), (81, .isub, 1), (82, .iaload, 1), (83, .istore_n 3, 1), (84, .iload_n 3, 1), (85, .iconst (-1), 1), (86, .if_icmp .ne 8, 3), (89, .bipush (-9), 2), (91, .goto 4, 3), (94, .iload_n 3, 1), (95, .ireturn, 1), (96, .iload_n 1, 1), (97, .ifCond .ne 10, 3), (100, .aload_n 0, 1), (101, .getfield 47, 3), (104, .goto 13, 3), (107, .aload_n 0, 1), (108, .getfield 10, 3), (111, .getfield 259, 3), (114, .invokevirtual 415, 3), (117, .ireturn, 1)]
set_option maxRecDepth 100000 in
theorem dt_11_watch : ∀ q ∈ tab_11_watch, decode m_11_watch.2.1 q.1 = .ok q.2 := by decide +kernel
def f_11_watch_b37 (a0 : Nat) (a1 : Int32) (a2 : Int32) (μ : mm) : Option (Int32 × mm) :=
  (f_3_plan (rf (rf a0 0) 14) (rf (rf a0 0) 7) μ).bind fun z2 =>
  if z2.1 = 0 then
    some ((-3), z2.2)
  else
    (f_11_tellRows a0 z2.2).bind fun μ4 =>
    if a2 = 0 then
      if a1 = 0 then
        some ((μ4 a0 8), μ4)
      else
        (f_3_leastSum (rf (rf a0 0) 14) μ4).bind fun x6 =>
        some (x6, μ4)
    else
      (ld μ4 (rf (rf (rf a0 0) 14) 5) (a1 - 10)).bind fun x7 =>
      if x7 = (-1) then
        some ((-9), μ4)
      else
        some (x7, μ4)
set_option maxRecDepth 100000 in
set_option maxHeartbeats 4000000 in
theorem ok_11_watch_b37 {l : Launch} {E : ce} {d : Nat}  {a0 : Nat} {a1 : Int32} {a2 : Int32} {μ : mm} {r : Int32 × mm} {Q : Option Value → mm → Prop} (h : f_11_watch_b37 a0 a1 a2 μ = some r) (k0 : kd a0 = 11) (hQ : Q (some (.int r.1)) r.2) : Rj l E (d + 3) m_11_watch 37 [some (.ref a0), some (.int a1), some (.int a2), none] [] μ Q := by
  unfold f_11_watch_b37 at h
  refine R_aload_n (dd dt_11_watch 21 rfl) 0 rfl rfl ?_
  refine g_11_10 rfl k0 (dd dt_11_watch 22 rfl) ?_
  refine g_11_259 rfl (ty_11_0 k0) (dd dt_11_watch 23 rfl) ?_
  refine R_aload_n (dd dt_11_watch 24 rfl) 0 rfl rfl ?_
  refine g_11_10 rfl k0 (dd dt_11_watch 25 rfl) ?_
  refine g_11_100 rfl (ty_11_0 k0) (dd dt_11_watch 26 rfl) ?_
  obtain ⟨z2, e1, h⟩ := bi_el h
  refine c_11_405 (As := [.ref (rf (rf a0 0) 7)]) (st1 := [.int z2.1]) rfl (fun Q1 hq => ok_3_plan e1 (ty_9_14 (ty_11_0 k0)) (ty_9_7 (ty_11_0 k0)) hq) (ty_9_14 (ty_11_0 k0)) rfl rfl (Nat.le_of_ble_eq_true rfl) (dd dt_11_watch 27 rfl) rfl ?_
  refine R_ifne (dd dt_11_watch 28 rfl) (tgt := 60) rfl (fun hc => ?_) (fun hc => ?_)
  · rw [if_neg hc] at h
    refine R_aload_n (dd dt_11_watch 31 rfl) 0 rfl rfl ?_
    obtain ⟨μ4, e3, h⟩ := bi_el h
    refine c_11_409 (As := []) (st1 := []) rfl (fun Q1 hq => ok_11_tellRows e3 k0 hq) k0 rfl rfl (Nat.le_of_ble_eq_true rfl) (dd dt_11_watch 32 rfl) rfl ?_
    refine R_iload_n (dd dt_11_watch 33 rfl) 2 rfl rfl ?_
    refine R_ifeq (dd dt_11_watch 34 rfl) (tgt := 96) rfl (fun hc => ?_) (fun hc => ?_)
    · rw [if_pos hc] at h
      refine R_iload_n (dd dt_11_watch 51 rfl) 1 rfl rfl ?_
      refine R_ifne (dd dt_11_watch 52 rfl) (tgt := 107) rfl (fun hc => ?_) (fun hc => ?_)
      · rw [if_neg hc] at h
        refine R_aload_n (dd dt_11_watch 56 rfl) 0 rfl rfl ?_
        refine g_11_10 rfl k0 (dd dt_11_watch 57 rfl) ?_
        refine g_11_259 rfl (ty_11_0 k0) (dd dt_11_watch 58 rfl) ?_
        obtain ⟨x6, e5, h⟩ := bi_el h
        refine c_11_415 (As := []) (st1 := [.int x6]) rfl (fun Q1 hq => ok_3_leastSum e5 (ty_9_14 (ty_11_0 k0)) hq) (ty_9_14 (ty_11_0 k0)) rfl rfl (Nat.le_of_ble_eq_true rfl) (dd dt_11_watch 59 rfl) rfl ?_
        obtain rfl := Option.some.inj h
        exact R_iret rfl (dd dt_11_watch 60 rfl) hQ
      · rw [if_pos hc] at h
        refine R_aload_n (dd dt_11_watch 53 rfl) 0 rfl rfl ?_
        refine g_11_47 rfl k0 (dd dt_11_watch 54 rfl) ?_
        refine R_goto (dd dt_11_watch 55 rfl) (tgt := 117) rfl ?_
        obtain rfl := Option.some.inj h
        exact R_iret rfl (dd dt_11_watch 60 rfl) hQ
    · rw [if_neg hc] at h
      refine R_aload_n (dd dt_11_watch 35 rfl) 0 rfl rfl ?_
      refine g_11_10 rfl k0 (dd dt_11_watch 36 rfl) ?_
      refine g_11_259 rfl (ty_11_0 k0) (dd dt_11_watch 37 rfl) ?_
      refine g_11_412 rfl (ty_9_14 (ty_11_0 k0)) (dd dt_11_watch 38 rfl) ?_
      refine R_iload_n (dd dt_11_watch 39 rfl) 1 rfl rfl ?_
      refine R_bipush (v := 10) (dd dt_11_watch 40 rfl) bp_10 ?_
      refine R_isub (dd dt_11_watch 41 rfl) ?_
      obtain ⟨x7, e8, h⟩ := bi_el h
      refine R_ild e8 (ty_3_5 (ty_9_14 (ty_11_0 k0))) (dd dt_11_watch 42 rfl) ?_
      refine R_istore_n (lv' := [some (.ref a0), some (.int a1), some (.int a2), some (.int x7)]) (dd dt_11_watch 43 rfl) 3 rfl (by decide) rfl rfl ?_
      refine R_iload_n (dd dt_11_watch 44 rfl) 3 rfl rfl ?_
      refine R_iconst (v := (-1)) (dd dt_11_watch 45 rfl) ic_m1 ?_
      refine R_cmpne (dd dt_11_watch 46 rfl) (tgt := 94) rfl (fun hc => ?_) (fun hc => ?_)
      · rw [if_neg hc] at h
        refine R_iload_n (dd dt_11_watch 49 rfl) 3 rfl rfl ?_
        obtain rfl := Option.some.inj h
        exact R_iret rfl (dd dt_11_watch 50 rfl) hQ
      · rw [if_pos hc] at h
        refine R_bipush (v := (-9)) (dd dt_11_watch 47 rfl) bp_m9 ?_
        refine R_goto (dd dt_11_watch 48 rfl) (tgt := 95) rfl ?_
        obtain rfl := Option.some.inj h
        exact R_iret rfl (dd dt_11_watch 50 rfl) hQ
  · rw [if_pos hc] at h
    refine R_bipush (v := (-3)) (dd dt_11_watch 29 rfl) bp_m3 ?_
    obtain rfl := Option.some.inj h
    exact R_iret rfl (dd dt_11_watch 30 rfl) hQ
def f_11_watch (a0 : Nat) (a1 : Int32) (μ : mm) : Option (Int32 × mm) :=
  (f_11_isIn a1 10 ((10 + (μ (rf (rf a0 0) 14) 2)) - 1) μ).bind fun x2 =>
  if a1 = 0 then
    f_11_watch_b37 a0 a1 x2 μ
  else
    if a1 = 1 then
      f_11_watch_b37 a0 a1 x2 μ
    else
      if x2 = 0 then
        some ((-1), μ)
      else
        f_11_watch_b37 a0 a1 x2 μ
set_option maxRecDepth 100000 in
set_option maxHeartbeats 4000000 in
theorem ok_11_watch {l : Launch} {E : ce} {d : Nat}  {a0 : Nat} {a1 : Int32} {μ : mm} {r : Int32 × mm} {Q : Option Value → mm → Prop} (h : f_11_watch a0 a1 μ = some r) (k0 : kd a0 = 11) (hQ : Q (some (.int r.1)) r.2) : Ct l E (d + 3) yX11_watch m_11_watch [.ref a0, .int a1] μ Q := by
  refine Ct_of (lv := [some (.ref a0), some (.int a1), none, none]) (by decide) rfl (Nat.le_of_ble_eq_true rfl) rfl ?_
  unfold f_11_watch at h
  refine R_iload_n (dd dt_11_watch 0 rfl) 1 rfl rfl ?_
  refine R_bipush (v := 10) (dd dt_11_watch 1 rfl) bp_10 ?_
  refine R_bipush (v := 10) (dd dt_11_watch 2 rfl) bp_10 ?_
  refine R_aload_n (dd dt_11_watch 3 rfl) 0 rfl rfl ?_
  refine g_11_10 rfl k0 (dd dt_11_watch 4 rfl) ?_
  refine g_11_259 rfl (ty_11_0 k0) (dd dt_11_watch 5 rfl) ?_
  refine g_11_393 rfl (ty_9_14 (ty_11_0 k0)) (dd dt_11_watch 6 rfl) ?_
  refine R_iadd (dd dt_11_watch 7 rfl) ?_
  refine R_iconst (v := 1) (dd dt_11_watch 8 rfl) ic_1 ?_
  refine R_isub (dd dt_11_watch 9 rfl) ?_
  obtain ⟨x2, e1, h⟩ := bi_el h
  refine c_11_83 (As := [.int a1, .int 10, .int ((10 + (μ (rf (rf a0 0) 14) 2)) - 1)]) (st1 := [.int x2]) rfl (fun Q1 hq => ok_11_isIn e1 hq) rfl rfl (Nat.le_of_ble_eq_true rfl) (dd dt_11_watch 10 rfl) rfl ?_
  refine R_istore_n (lv' := [some (.ref a0), some (.int a1), some (.int x2), none]) (dd dt_11_watch 11 rfl) 2 rfl (by decide) rfl rfl ?_
  refine R_iload_n (dd dt_11_watch 12 rfl) 1 rfl rfl ?_
  refine R_ifeq (dd dt_11_watch 13 rfl) (tgt := 37) rfl (fun hc => ?_) (fun hc => ?_)
  · rw [if_pos hc] at h
    exact R_mask [true, true, true, false] rfl (ok_11_watch_b37  h k0 hQ)
  · rw [if_neg hc] at h
    refine R_iload_n (dd dt_11_watch 14 rfl) 1 rfl rfl ?_
    refine R_iconst (v := 1) (dd dt_11_watch 15 rfl) ic_1 ?_
    refine R_cmpeq (dd dt_11_watch 16 rfl) (tgt := 37) rfl (fun hc => ?_) (fun hc => ?_)
    · rw [if_pos hc] at h
      exact R_mask [true, true, true, false] rfl (ok_11_watch_b37  h k0 hQ)
    · rw [if_neg hc] at h
      refine R_iload_n (dd dt_11_watch 17 rfl) 2 rfl rfl ?_
      refine R_ifne (dd dt_11_watch 18 rfl) (tgt := 37) rfl (fun hc => ?_) (fun hc => ?_)
      · rw [if_neg hc] at h
        exact R_mask [true, true, true, false] rfl (ok_11_watch_b37  h k0 hQ)
      · rw [if_pos hc] at h
        refine R_iconst (v := (-1)) (dd dt_11_watch 19 rfl) ic_m1 ?_
        obtain rfl := Option.some.inj h
        exact R_iret rfl (dd dt_11_watch 20 rfl) hQ
/-! LongStrike.hasRow(II)Z -/
def tab_11_hasRow : List (Nat × Instr × Nat) := [(0, .iload_n 1, 1), (1, .iconst 0, 1), (2, .aload_n 0, 1), (3, .getfield 47, 3), (6, .iconst 1, 1), (7, .isub, 1), (8, .invokestatic 83, 3), (11, .ifCond .eq 16, 3), (14, .iload_n 2, 1), (15, .iconst 0, 1), (16, .iconst 1, 1), (17, .invokestatic 83, 3), (20, .ifCond .eq 7, 3), (23, .iconst 1, 1), (24, .goto 4, 3), (27, .iconst 0, 1), (28, .ireturn, 1)]
set_option maxRecDepth 100000 in
theorem dt_11_hasRow : ∀ q ∈ tab_11_hasRow, decode m_11_hasRow.2.1 q.1 = .ok q.2 := by decide +kernel
def f_11_hasRow (a0 : Nat) (a1 : Int32) (a2 : Int32) (μ : mm) : Option (Int32) :=
  (f_11_isIn a1 0 ((μ a0 8) - 1) μ).bind fun x2 =>
  if x2 = 0 then
    some 0
  else
    (f_11_isIn a2 0 1 μ).bind fun x4 =>
    if x4 = 0 then
      some 0
    else
      some 1
set_option maxRecDepth 100000 in
set_option maxHeartbeats 4000000 in
theorem ok_11_hasRow {l : Launch} {E : ce} {d : Nat}  {a0 : Nat} {a1 : Int32} {a2 : Int32} {μ : mm} {r : Int32} {Q : Option Value → mm → Prop} (h : f_11_hasRow a0 a1 a2 μ = some r) (k0 : kd a0 = 11) (hQ : Q (some (.int r)) μ) : Ct l E (d + 1) yX11_hasRow m_11_hasRow [.ref a0, .int a1, .int a2] μ Q := by
  refine Ct_of (lv := [some (.ref a0), some (.int a1), some (.int a2)]) (by decide) rfl (Nat.le_of_ble_eq_true rfl) rfl ?_
  unfold f_11_hasRow at h
  refine R_iload_n (dd dt_11_hasRow 0 rfl) 1 rfl rfl ?_
  refine R_iconst (v := 0) (dd dt_11_hasRow 1 rfl) ic_0 ?_
  refine R_aload_n (dd dt_11_hasRow 2 rfl) 0 rfl rfl ?_
  refine g_11_47 rfl k0 (dd dt_11_hasRow 3 rfl) ?_
  refine R_iconst (v := 1) (dd dt_11_hasRow 4 rfl) ic_1 ?_
  refine R_isub (dd dt_11_hasRow 5 rfl) ?_
  obtain ⟨x2, e1, h⟩ := bi_el h
  refine c_11_83 (As := [.int a1, .int 0, .int ((μ a0 8) - 1)]) (st1 := [.int x2]) rfl (fun Q1 hq => ok_11_isIn e1 hq) rfl rfl (Nat.le_of_ble_eq_true rfl) (dd dt_11_hasRow 6 rfl) rfl ?_
  refine R_ifeq (dd dt_11_hasRow 7 rfl) (tgt := 27) rfl (fun hc => ?_) (fun hc => ?_)
  · rw [if_pos hc] at h
    refine R_iconst (v := 0) (dd dt_11_hasRow 15 rfl) ic_0 ?_
    obtain rfl := Option.some.inj h
    exact R_zret rfl (by decide) (dd dt_11_hasRow 16 rfl) hQ
  · rw [if_neg hc] at h
    refine R_iload_n (dd dt_11_hasRow 8 rfl) 2 rfl rfl ?_
    refine R_iconst (v := 0) (dd dt_11_hasRow 9 rfl) ic_0 ?_
    refine R_iconst (v := 1) (dd dt_11_hasRow 10 rfl) ic_1 ?_
    obtain ⟨x4, e3, h⟩ := bi_el h
    refine c_11_83 (As := [.int a2, .int 0, .int 1]) (st1 := [.int x4]) rfl (fun Q1 hq => ok_11_isIn e3 hq) rfl rfl (Nat.le_of_ble_eq_true rfl) (dd dt_11_hasRow 11 rfl) rfl ?_
    refine R_ifeq (dd dt_11_hasRow 12 rfl) (tgt := 27) rfl (fun hc => ?_) (fun hc => ?_)
    · rw [if_pos hc] at h
      refine R_iconst (v := 0) (dd dt_11_hasRow 15 rfl) ic_0 ?_
      obtain rfl := Option.some.inj h
      exact R_zret rfl (by decide) (dd dt_11_hasRow 16 rfl) hQ
    · rw [if_neg hc] at h
      refine R_iconst (v := 1) (dd dt_11_hasRow 13 rfl) ic_1 ?_
      refine R_goto (dd dt_11_hasRow 14 rfl) (tgt := 28) rfl ?_
      obtain rfl := Option.some.inj h
      exact R_zret rfl (by decide) (dd dt_11_hasRow 16 rfl) hQ
/-! LongStrike.row(II)I -/
def tab_11_row : List (Nat × Instr × Nat) := [(0, .aload_n 0, 1), (1, .iload_n 1, 1), (2, .iload_n 2, 1), (3, .invokevirtual 424, 3), (6, .ifCond .eq 16, 3), (9, .aload_n 0, 1), (10, .getfield 40, 3), (13, .iconst 2, 1), (14, .iload_n 1, 1), (15, .imul, 1), (16, .iload_n 2, 1), (17, .iadd, 1), (18, .iaload, 1), (19, .goto 5, 3), (22, .bipush (-9), 2), (24, .ireturn, 1)]
set_option maxRecDepth 100000 in
theorem dt_11_row : ∀ q ∈ tab_11_row, decode m_11_row.2.1 q.1 = .ok q.2 := by decide +kernel
def f_11_row (a0 : Nat) (a1 : Int32) (a2 : Int32) (μ : mm) : Option (Int32) :=
  (f_11_hasRow a0 a1 a2 μ).bind fun x2 =>
  if x2 = 0 then
    some (-9)
  else
    (ld μ (rf a0 6) ((2 * a1) + a2)).bind fun x3 =>
    some x3
set_option maxRecDepth 100000 in
set_option maxHeartbeats 4000000 in
theorem ok_11_row {l : Launch} {E : ce} {d : Nat}  {a0 : Nat} {a1 : Int32} {a2 : Int32} {μ : mm} {r : Int32} {Q : Option Value → mm → Prop} (h : f_11_row a0 a1 a2 μ = some r) (k0 : kd a0 = 11) (hQ : Q (some (.int r)) μ) : Ct l E (d + 2) yX11_row m_11_row [.ref a0, .int a1, .int a2] μ Q := by
  refine Ct_of (lv := [some (.ref a0), some (.int a1), some (.int a2)]) (by decide) rfl (Nat.le_of_ble_eq_true rfl) rfl ?_
  unfold f_11_row at h
  refine R_aload_n (dd dt_11_row 0 rfl) 0 rfl rfl ?_
  refine R_iload_n (dd dt_11_row 1 rfl) 1 rfl rfl ?_
  refine R_iload_n (dd dt_11_row 2 rfl) 2 rfl rfl ?_
  obtain ⟨x2, e1, h⟩ := bi_el h
  refine c_11_424 (As := [.int a1, .int a2]) (st1 := [.int x2]) rfl (fun Q1 hq => ok_11_hasRow e1 k0 hq) k0 rfl rfl (Nat.le_of_ble_eq_true rfl) (dd dt_11_row 3 rfl) rfl ?_
  refine R_ifeq (dd dt_11_row 4 rfl) (tgt := 22) rfl (fun hc => ?_) (fun hc => ?_)
  · rw [if_pos hc] at h
    refine R_bipush (v := (-9)) (dd dt_11_row 14 rfl) bp_m9 ?_
    obtain rfl := Option.some.inj h
    exact R_iret rfl (dd dt_11_row 15 rfl) hQ
  · rw [if_neg hc] at h
    refine R_aload_n (dd dt_11_row 5 rfl) 0 rfl rfl ?_
    refine g_11_40 rfl k0 (dd dt_11_row 6 rfl) ?_
    refine R_iconst (v := 2) (dd dt_11_row 7 rfl) ic_2 ?_
    refine R_iload_n (dd dt_11_row 8 rfl) 1 rfl rfl ?_
    refine R_imul (dd dt_11_row 9 rfl) ?_
    refine R_iload_n (dd dt_11_row 10 rfl) 2 rfl rfl ?_
    refine R_iadd (dd dt_11_row 11 rfl) ?_
    obtain ⟨x3, e4, h⟩ := bi_el h
    refine R_ild e4 (ty_11_6 k0) (dd dt_11_row 12 rfl) ?_
    refine R_goto (dd dt_11_row 13 rfl) (tgt := 24) rfl ?_
    obtain rfl := Option.some.inj h
    exact R_iret rfl (dd dt_11_row 15 rfl) hQ
/-! LongStrike.alterRow(III)I -/
def tab_11_alterRow : List (Nat × Instr × Nat) := [(0, .aload_n 0, 1), (1, .iload_n 1, 1), (2, .iload_n 2, 1), (3, .invokevirtual 424, 3), (6, .ifCond .ne 6, 3), (9, .bipush (-9), 2), (11, .ireturn, 1), (12, .aload_n 0, 1), (13, .getfield 40, 3), (16, .iconst 2, 1), (17, .iload_n 1, 1), (18, .imul, 1), (19, .iload_n 2, 1), (20, .iadd, 1), (21, .iaload, 1), (22, .istore 4, 2), (24, .aload_n 0, 1), (25, .getfield 40, 3), (28, .iconst 2, 1), (29, .iload_n 1, 1), (30, .imul, 1), (31, .iload_n 2, 1), (32, .iadd, 1), (33, .iload_n 3, 1), (34, .iastore, 1), (35, .iload 4, 2), (37, .ireturn, 1)]
set_option maxRecDepth 100000 in
theorem dt_11_alterRow : ∀ q ∈ tab_11_alterRow, decode m_11_alterRow.2.1 q.1 = .ok q.2 := by decide +kernel
def f_11_alterRow (a0 : Nat) (a1 : Int32) (a2 : Int32) (a3 : Int32) (μ : mm) : Option (Int32 × mm) :=
  (f_11_hasRow a0 a1 a2 μ).bind fun x2 =>
  if x2 = 0 then
    some ((-9), μ)
  else
    (ld μ (rf a0 6) ((2 * a1) + a2)).bind fun x3 =>
    (sto μ (rf a0 6) ((2 * a1) + a2) a3).bind fun μ5 =>
    some (x3, μ5)
set_option maxRecDepth 100000 in
set_option maxHeartbeats 4000000 in
theorem ok_11_alterRow {l : Launch} {E : ce} {d : Nat}  {a0 : Nat} {a1 : Int32} {a2 : Int32} {a3 : Int32} {μ : mm} {r : Int32 × mm} {Q : Option Value → mm → Prop} (h : f_11_alterRow a0 a1 a2 a3 μ = some r) (k0 : kd a0 = 11) (hQ : Q (some (.int r.1)) r.2) : Ct l E (d + 2) yX11_alterRow m_11_alterRow [.ref a0, .int a1, .int a2, .int a3] μ Q := by
  refine Ct_of (lv := [some (.ref a0), some (.int a1), some (.int a2), some (.int a3), none]) (by decide) rfl (Nat.le_of_ble_eq_true rfl) rfl ?_
  unfold f_11_alterRow at h
  refine R_aload_n (dd dt_11_alterRow 0 rfl) 0 rfl rfl ?_
  refine R_iload_n (dd dt_11_alterRow 1 rfl) 1 rfl rfl ?_
  refine R_iload_n (dd dt_11_alterRow 2 rfl) 2 rfl rfl ?_
  obtain ⟨x2, e1, h⟩ := bi_el h
  refine c_11_424 (As := [.int a1, .int a2]) (st1 := [.int x2]) rfl (fun Q1 hq => ok_11_hasRow e1 k0 hq) k0 rfl rfl (Nat.le_of_ble_eq_true rfl) (dd dt_11_alterRow 3 rfl) rfl ?_
  refine R_ifne (dd dt_11_alterRow 4 rfl) (tgt := 12) rfl (fun hc => ?_) (fun hc => ?_)
  · rw [if_neg hc] at h
    refine R_aload_n (dd dt_11_alterRow 7 rfl) 0 rfl rfl ?_
    refine g_11_40 rfl k0 (dd dt_11_alterRow 8 rfl) ?_
    refine R_iconst (v := 2) (dd dt_11_alterRow 9 rfl) ic_2 ?_
    refine R_iload_n (dd dt_11_alterRow 10 rfl) 1 rfl rfl ?_
    refine R_imul (dd dt_11_alterRow 11 rfl) ?_
    refine R_iload_n (dd dt_11_alterRow 12 rfl) 2 rfl rfl ?_
    refine R_iadd (dd dt_11_alterRow 13 rfl) ?_
    obtain ⟨x3, e4, h⟩ := bi_el h
    refine R_ild e4 (ty_11_6 k0) (dd dt_11_alterRow 14 rfl) ?_
    refine R_istore (lv' := [some (.ref a0), some (.int a1), some (.int a2), some (.int a3), some (.int x3)]) (dd dt_11_alterRow 15 rfl) (by decide) rfl rfl ?_
    refine R_aload_n (dd dt_11_alterRow 16 rfl) 0 rfl rfl ?_
    refine g_11_40 rfl k0 (dd dt_11_alterRow 17 rfl) ?_
    refine R_iconst (v := 2) (dd dt_11_alterRow 18 rfl) ic_2 ?_
    refine R_iload_n (dd dt_11_alterRow 19 rfl) 1 rfl rfl ?_
    refine R_imul (dd dt_11_alterRow 20 rfl) ?_
    refine R_iload_n (dd dt_11_alterRow 21 rfl) 2 rfl rfl ?_
    refine R_iadd (dd dt_11_alterRow 22 rfl) ?_
    refine R_iload_n (dd dt_11_alterRow 23 rfl) 3 rfl rfl ?_
    obtain ⟨μ5, e6, h⟩ := bi_el h
    refine R_isto e6 (ty_11_6 k0) (dd dt_11_alterRow 24 rfl) ?_
    refine R_iload (dd dt_11_alterRow 25 rfl) rfl ?_
    obtain rfl := Option.some.inj h
    exact R_iret rfl (dd dt_11_alterRow 26 rfl) hQ
  · rw [if_pos hc] at h
    refine R_bipush (v := (-9)) (dd dt_11_alterRow 5 rfl) bp_m9 ?_
    obtain rfl := Option.some.inj h
    exact R_iret rfl (dd dt_11_alterRow 6 rfl) hQ
/-! LongStrike.dropRow()I -/
def tab_11_dropRow : List (Nat × Instr × Nat) := [(0, .aload_n 0, 1), (1, .getfield 47, 3), (4, .ifCond .ne 6, 3), (7, .bipush (-3), 2), (9, .ireturn, 1), (10, .aload_n 0, 1), (11, .dup, 1), (12, .getfield 47, 3), (15, .iconst 1, 1), (16, .isub, 1), (17, .putfield 47, 3), (20, .aload_n 0, 1), (21, .getfield 47, 3), (24, .ireturn, 1)]
set_option maxRecDepth 100000 in
theorem dt_11_dropRow : ∀ q ∈ tab_11_dropRow, decode m_11_dropRow.2.1 q.1 = .ok q.2 := by decide +kernel
def f_11_dropRow (a0 : Nat) (μ : mm) : Option (Int32 × mm) :=
  if (μ a0 8) = 0 then
    some ((-3), μ)
  else
    (pf μ a0 8 ((μ a0 8) - 1)).bind fun μ1 =>
    some ((μ1 a0 8), μ1)
set_option maxRecDepth 100000 in
set_option maxHeartbeats 4000000 in
theorem ok_11_dropRow {l : Launch} {E : ce} {d : Nat}  {a0 : Nat} {μ : mm} {r : Int32 × mm} {Q : Option Value → mm → Prop} (h : f_11_dropRow a0 μ = some r) (k0 : kd a0 = 11) (hQ : Q (some (.int r.1)) r.2) : Ct l E d yX11_dropRow m_11_dropRow [.ref a0] μ Q := by
  refine Ct_of (lv := [some (.ref a0)]) (by decide) rfl (Nat.le_of_ble_eq_true rfl) rfl ?_
  unfold f_11_dropRow at h
  refine R_aload_n (dd dt_11_dropRow 0 rfl) 0 rfl rfl ?_
  refine g_11_47 rfl k0 (dd dt_11_dropRow 1 rfl) ?_
  refine R_ifne (dd dt_11_dropRow 2 rfl) (tgt := 10) rfl (fun hc => ?_) (fun hc => ?_)
  · rw [if_neg hc] at h
    refine R_aload_n (dd dt_11_dropRow 5 rfl) 0 rfl rfl ?_
    refine R_dup (dd dt_11_dropRow 6 rfl) rfl ?_
    refine g_11_47 rfl k0 (dd dt_11_dropRow 7 rfl) ?_
    refine R_iconst (v := 1) (dd dt_11_dropRow 8 rfl) ic_1 ?_
    refine R_isub (dd dt_11_dropRow 9 rfl) ?_
    obtain ⟨μ1, e2, h⟩ := bi_el h
    refine p_11_47 rfl k0 (dd dt_11_dropRow 10 rfl) e2 ?_
    refine R_aload_n (dd dt_11_dropRow 11 rfl) 0 rfl rfl ?_
    refine g_11_47 rfl k0 (dd dt_11_dropRow 12 rfl) ?_
    obtain rfl := Option.some.inj h
    exact R_iret rfl (dd dt_11_dropRow 13 rfl) hQ
  · rw [if_pos hc] at h
    refine R_bipush (v := (-3)) (dd dt_11_dropRow 3 rfl) bp_m3 ?_
    obtain rfl := Option.some.inj h
    exact R_iret rfl (dd dt_11_dropRow 4 rfl) hQ
/-! LongStrike.judge()I -/
def tab_11_judge : List (Nat × Instr × Nat) := [(0, .aload_n 0, 1), (1, .getfield 54, 3), (4, .ifCond .ne 6, 3), (7, .bipush (-3), 2), (9, .ireturn, 1), (10, .iconst 0, 1), (11, .istore_n 1, 1), (12, .iload_n 1, 1), (13, .aload_n 0, 1), (14, .getfield 47, 3), (17, .if_icmp .ge 55, 3), (20, .aload_n 0, 1), (21, .getfield 40, 3), (24, .iconst 2, 1), (25, .iload_n 1, 1), (26, .imul, 1), (27, .iaload, 1), (28, .aload_n 0, 1), (29, .getfield 44, 3), (32, .iconst 2, 1), (33, .iload_n 1, 1), (34, .imul, 1), (35, .iaload, 1), (36, .if_icmp .ne 26, 3), (39, .aload_n 0, 1), (40, .getfield 40, 3), (43, .iconst 2, 1), (44, .iload_n 1, 1), (45, .imul, 1), (46, .iconst 1, 1), (47, .iadd, 1), (48, .iaload, 1), (49, .aload_n 0, 1), (50, .getfield 44, 3), (53, .iconst 2, 1), (54, .iload_n 1, 1), (55, .imul, 1), (56, .iconst 1, 1), (57, .iadd, 1), (58, .iaload, 1), (59, .if_icmp .eq 7, 3), (62, .iload_n 1, 1), (63, .iconst 1, 1), (64, .iadd, 1), (65, .ireturn, 1), (66, .iinc 1 1, 3), (69, .goto (-57), 3), (72, .aload_n 0, 1), (73, .getfield 47, 3), (76, .aload_n 0, 1), (77, .getfield 51, 3), (80, .if_icmp .ge 12, 3), (83, .aload_n 0, 1), (84, .getfield 47, 3), (87, .iconst 1, 1), (88, .iadd, 1), (89, .goto 4, 3), (92, .iconst 0, 1), (93, .ireturn, 1)]
set_option maxRecDepth 100000 in
theorem dt_11_judge : ∀ q ∈ tab_11_judge, decode m_11_judge.2.1 q.1 = .ok q.2 := by decide +kernel
def f_11_judge_l12 (a0 : Nat) (μ : mm) : Nat → Int32 → Option (Int32)
  | 0, _ => none
  | n + 1, v1 => if (μ a0 8) ≤ v1 then
      if (μ a0 9) ≤ (μ a0 8) then
        some 0
      else
        some ((μ a0 8) + 1)
    else
      (ld μ (rf a0 6) (2 * v1)).bind fun x1 =>
      (ld μ (rf a0 7) (2 * v1)).bind fun x3 =>
      if x1 = x3 then
        (ld μ (rf a0 6) ((2 * v1) + 1)).bind fun x5 =>
        (ld μ (rf a0 7) ((2 * v1) + 1)).bind fun x7 =>
        if x5 = x7 then
          f_11_judge_l12 a0 μ n (v1 + 1)
        else
          some (v1 + 1)
      else
        some (v1 + 1)
set_option maxRecDepth 100000 in
theorem ok_11_judge_l12 {l : Launch} {E : ce} {d : Nat} {Q : Option Value → mm → Prop} (a0 : Nat) (μ : mm) (k0 : kd a0 = 11) : ∀ (n : Nat) (v1 : Int32) (r : Int32), f_11_judge_l12 a0 μ n v1 = some r → Q (some (.int r)) μ → Rj l E d m_11_judge 12 [some (.ref a0), some (.int v1)] [] μ Q
  | 0, _, z, h, _ => by
    rw [f_11_judge_l12] at h
    cases h
  | n + 1, v1, r, h, hQ => by
    rw [f_11_judge_l12] at h
    refine R_iload_n (dd dt_11_judge 7 rfl) 1 rfl rfl ?_
    refine R_aload_n (dd dt_11_judge 8 rfl) 0 rfl rfl ?_
    refine g_11_47 rfl k0 (dd dt_11_judge 9 rfl) ?_
    refine R_cmpge (dd dt_11_judge 10 rfl) (tgt := 72) rfl (fun hc => ?_) (fun hc => ?_)
    · rw [if_pos hc] at h
      refine R_aload_n (dd dt_11_judge 47 rfl) 0 rfl rfl ?_
      refine g_11_47 rfl k0 (dd dt_11_judge 48 rfl) ?_
      refine R_aload_n (dd dt_11_judge 49 rfl) 0 rfl rfl ?_
      refine g_11_51 rfl k0 (dd dt_11_judge 50 rfl) ?_
      refine R_cmpge (dd dt_11_judge 51 rfl) (tgt := 92) rfl (fun hc => ?_) (fun hc => ?_)
      · rw [if_pos hc] at h
        refine R_iconst (v := 0) (dd dt_11_judge 57 rfl) ic_0 ?_
        obtain rfl := Option.some.inj h
        exact R_iret rfl (dd dt_11_judge 58 rfl) hQ
      · rw [if_neg hc] at h
        refine R_aload_n (dd dt_11_judge 52 rfl) 0 rfl rfl ?_
        refine g_11_47 rfl k0 (dd dt_11_judge 53 rfl) ?_
        refine R_iconst (v := 1) (dd dt_11_judge 54 rfl) ic_1 ?_
        refine R_iadd (dd dt_11_judge 55 rfl) ?_
        refine R_goto (dd dt_11_judge 56 rfl) (tgt := 93) rfl ?_
        obtain rfl := Option.some.inj h
        exact R_iret rfl (dd dt_11_judge 58 rfl) hQ
    · rw [if_neg hc] at h
      refine R_aload_n (dd dt_11_judge 11 rfl) 0 rfl rfl ?_
      refine g_11_40 rfl k0 (dd dt_11_judge 12 rfl) ?_
      refine R_iconst (v := 2) (dd dt_11_judge 13 rfl) ic_2 ?_
      refine R_iload_n (dd dt_11_judge 14 rfl) 1 rfl rfl ?_
      refine R_imul (dd dt_11_judge 15 rfl) ?_
      obtain ⟨x1, e2, h⟩ := bi_el h
      refine R_ild e2 (ty_11_6 k0) (dd dt_11_judge 16 rfl) ?_
      refine R_aload_n (dd dt_11_judge 17 rfl) 0 rfl rfl ?_
      refine g_11_44 rfl k0 (dd dt_11_judge 18 rfl) ?_
      refine R_iconst (v := 2) (dd dt_11_judge 19 rfl) ic_2 ?_
      refine R_iload_n (dd dt_11_judge 20 rfl) 1 rfl rfl ?_
      refine R_imul (dd dt_11_judge 21 rfl) ?_
      obtain ⟨x3, e4, h⟩ := bi_el h
      refine R_ild e4 (ty_11_7 k0) (dd dt_11_judge 22 rfl) ?_
      refine R_cmpne (dd dt_11_judge 23 rfl) (tgt := 62) rfl (fun hc => ?_) (fun hc => ?_)
      · rw [if_neg hc] at h
        refine R_iload_n (dd dt_11_judge 41 rfl) 1 rfl rfl ?_
        refine R_iconst (v := 1) (dd dt_11_judge 42 rfl) ic_1 ?_
        refine R_iadd (dd dt_11_judge 43 rfl) ?_
        obtain rfl := Option.some.inj h
        exact R_iret rfl (dd dt_11_judge 44 rfl) hQ
      · rw [if_pos hc] at h
        refine R_aload_n (dd dt_11_judge 24 rfl) 0 rfl rfl ?_
        refine g_11_40 rfl k0 (dd dt_11_judge 25 rfl) ?_
        refine R_iconst (v := 2) (dd dt_11_judge 26 rfl) ic_2 ?_
        refine R_iload_n (dd dt_11_judge 27 rfl) 1 rfl rfl ?_
        refine R_imul (dd dt_11_judge 28 rfl) ?_
        refine R_iconst (v := 1) (dd dt_11_judge 29 rfl) ic_1 ?_
        refine R_iadd (dd dt_11_judge 30 rfl) ?_
        obtain ⟨x5, e6, h⟩ := bi_el h
        refine R_ild e6 (ty_11_6 k0) (dd dt_11_judge 31 rfl) ?_
        refine R_aload_n (dd dt_11_judge 32 rfl) 0 rfl rfl ?_
        refine g_11_44 rfl k0 (dd dt_11_judge 33 rfl) ?_
        refine R_iconst (v := 2) (dd dt_11_judge 34 rfl) ic_2 ?_
        refine R_iload_n (dd dt_11_judge 35 rfl) 1 rfl rfl ?_
        refine R_imul (dd dt_11_judge 36 rfl) ?_
        refine R_iconst (v := 1) (dd dt_11_judge 37 rfl) ic_1 ?_
        refine R_iadd (dd dt_11_judge 38 rfl) ?_
        obtain ⟨x7, e8, h⟩ := bi_el h
        refine R_ild e8 (ty_11_7 k0) (dd dt_11_judge 39 rfl) ?_
        refine R_cmpeq (dd dt_11_judge 40 rfl) (tgt := 66) rfl (fun hc => ?_) (fun hc => ?_)
        · rw [if_pos hc] at h
          refine R_iinc (v := 1) (lv' := [some (.ref a0), some (.int (v1 + 1))]) (dd dt_11_judge 45 rfl) (by decide) rfl rfl ic_1 rfl ?_
          refine R_goto (dd dt_11_judge 46 rfl) (tgt := 12) rfl ?_
          exact R_mask [true, true] rfl (ok_11_judge_l12 a0 μ k0 n (v1 + 1) _ h hQ)
        · rw [if_neg hc] at h
          refine R_iload_n (dd dt_11_judge 41 rfl) 1 rfl rfl ?_
          refine R_iconst (v := 1) (dd dt_11_judge 42 rfl) ic_1 ?_
          refine R_iadd (dd dt_11_judge 43 rfl) ?_
          obtain rfl := Option.some.inj h
          exact R_iret rfl (dd dt_11_judge 44 rfl) hQ
def f_11_judge (a0 : Nat) (μ : mm) : Option (Int32) :=
  if (μ a0 10) = 0 then
    some (-3)
  else
    f_11_judge_l12 a0 μ FU 0
set_option maxRecDepth 100000 in
set_option maxHeartbeats 4000000 in
theorem ok_11_judge {l : Launch} {E : ce} {d : Nat}  {a0 : Nat} {μ : mm} {r : Int32} {Q : Option Value → mm → Prop} (h : f_11_judge a0 μ = some r) (k0 : kd a0 = 11) (hQ : Q (some (.int r)) μ) : Ct l E d yX11_judge m_11_judge [.ref a0] μ Q := by
  refine Ct_of (lv := [some (.ref a0), none]) (by decide) rfl (Nat.le_of_ble_eq_true rfl) rfl ?_
  unfold f_11_judge at h
  refine R_aload_n (dd dt_11_judge 0 rfl) 0 rfl rfl ?_
  refine g_11_54 rfl k0 (dd dt_11_judge 1 rfl) ?_
  refine R_ifne (dd dt_11_judge 2 rfl) (tgt := 10) rfl (fun hc => ?_) (fun hc => ?_)
  · rw [if_neg hc] at h
    refine R_iconst (v := 0) (dd dt_11_judge 5 rfl) ic_0 ?_
    refine R_istore_n (lv' := [some (.ref a0), some (.int 0)]) (dd dt_11_judge 6 rfl) 1 rfl (by decide) rfl rfl ?_
    exact R_mask [true, true] rfl (ok_11_judge_l12 a0 μ k0 FU 0 _ h hQ)
  · rw [if_pos hc] at h
    refine R_bipush (v := (-3)) (dd dt_11_judge 3 rfl) bp_m3 ?_
    obtain rfl := Option.some.inj h
    exact R_iret rfl (dd dt_11_judge 4 rfl) hQ
/-! LongStrike$Offers.addClause(I)I -/
def tab_2_addClause : List (Nat × Instr × Nat) := [(0, .aload_n 0, 1), (1, .getfield 15, 3), (4, .aload_n 0, 1), (5, .getfield 9, 3), (8, .iload_n 1, 1), (9, .iastore, 1), (10, .aload_n 0, 1), (11, .getfield 21, 3), (14, .aload_n 0, 1), (15, .getfield 9, 3), (18, .aaload, 1), (19, .iconst 0, 1), (20, .invokestatic 39, 3), (23, .aload_n 0, 1), (24, .dup, 1), (25, .getfield 9, 3), (28, .iconst 1, 1), (29, .iadd, 1), (30, .putfield 9, 3), (33, .aload_n 0, 1), (34, .getfield 9, 3), (37, .iconst 1, 1), (38, .isub, 1), (39, .ireturn, 1)]
set_option maxRecDepth 100000 in
theorem dt_2_addClause : ∀ q ∈ tab_2_addClause, decode m_2_addClause.2.1 q.1 = .ok q.2 := by decide +kernel
def f_2_addClause (a0 : Nat) (a1 : Int32) (μ : mm) : Option (Int32 × mm) :=
  (sto μ (rf a0 1) (μ a0 0) a1).bind fun μ1 =>
  (lda (rf a0 2) (μ1 a0 0)).bind fun r3 =>
  (f_J7_fill r3 0 μ1).bind fun μ6 =>
  (pf μ6 a0 0 ((μ6 a0 0) + 1)).bind fun μ7 =>
  some (((μ7 a0 0) - 1), μ7)
set_option maxRecDepth 100000 in
set_option maxHeartbeats 4000000 in
theorem ok_2_addClause {l : Launch} {E : ce} {d : Nat}  {a0 : Nat} {a1 : Int32} {μ : mm} {r : Int32 × mm} {Q : Option Value → mm → Prop} (h : f_2_addClause a0 a1 μ = some r) (k0 : kd a0 = 2) (hQ : Q (some (.int r.1)) r.2) : Ct l E (d + 1) yX2_addClause m_2_addClause [.ref a0, .int a1] μ Q := by
  refine Ct_of (lv := [some (.ref a0), some (.int a1)]) (by decide) rfl (Nat.le_of_ble_eq_true rfl) rfl ?_
  unfold f_2_addClause at h
  refine R_aload_n (dd dt_2_addClause 0 rfl) 0 rfl rfl ?_
  refine g_2_15 rfl k0 (dd dt_2_addClause 1 rfl) ?_
  refine R_aload_n (dd dt_2_addClause 2 rfl) 0 rfl rfl ?_
  refine g_2_9 rfl k0 (dd dt_2_addClause 3 rfl) ?_
  refine R_iload_n (dd dt_2_addClause 4 rfl) 1 rfl rfl ?_
  obtain ⟨μ1, e2, h⟩ := bi_el h
  refine R_isto e2 (ty_2_1 k0) (dd dt_2_addClause 5 rfl) ?_
  refine R_aload_n (dd dt_2_addClause 6 rfl) 0 rfl rfl ?_
  refine g_2_21 rfl k0 (dd dt_2_addClause 7 rfl) ?_
  refine R_aload_n (dd dt_2_addClause 8 rfl) 0 rfl rfl ?_
  refine g_2_9 rfl k0 (dd dt_2_addClause 9 rfl) ?_
  obtain ⟨r3, e4, h⟩ := bi_el h
  refine R_aald (t0 := 3) e4 (ty_2_2 k0) (by decide) (by decide) rfl rfl (dd dt_2_addClause 10 rfl) ?_
  refine R_iconst (v := 0) (dd dt_2_addClause 11 rfl) ic_0 ?_
  obtain ⟨μ6, e5, h⟩ := bi_el h
  refine c_2_39 (As := [.ref r3, .int 0]) (st1 := []) rfl (fun Q1 hq => ok_J7_fill e5 (tl_23 e4 (ty_2_2 k0)) hq) rfl rfl (Nat.le_of_ble_eq_true rfl) (dd dt_2_addClause 12 rfl) rfl ?_
  refine R_aload_n (dd dt_2_addClause 13 rfl) 0 rfl rfl ?_
  refine R_dup (dd dt_2_addClause 14 rfl) rfl ?_
  refine g_2_9 rfl k0 (dd dt_2_addClause 15 rfl) ?_
  refine R_iconst (v := 1) (dd dt_2_addClause 16 rfl) ic_1 ?_
  refine R_iadd (dd dt_2_addClause 17 rfl) ?_
  obtain ⟨μ7, e8, h⟩ := bi_el h
  refine p_2_9 rfl k0 (dd dt_2_addClause 18 rfl) e8 ?_
  refine R_aload_n (dd dt_2_addClause 19 rfl) 0 rfl rfl ?_
  refine g_2_9 rfl k0 (dd dt_2_addClause 20 rfl) ?_
  refine R_iconst (v := 1) (dd dt_2_addClause 21 rfl) ic_1 ?_
  refine R_isub (dd dt_2_addClause 22 rfl) ?_
  obtain rfl := Option.some.inj h
  exact R_iret rfl (dd dt_2_addClause 23 rfl) hQ
