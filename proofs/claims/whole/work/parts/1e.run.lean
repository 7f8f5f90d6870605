/-! LongStrike.rule(I)I -/
def tab_11_rule : List (Nat × Instr × Nat) := [(0, .iload_n 1, 1), (1, .tableswitch 51 0 2 #[27, 35, 43], 27), (28, .aload_n 0, 1), (29, .getfield 10, 3), (32, .invokevirtual 326, 3), (35, .ireturn, 1), (36, .aload_n 0, 1), (37, .getfield 10, 3), (40, .invokevirtual 216, 3), (43, .ireturn, 1), (44, .aload_n 0, 1), (45, .getfield 10, 3), (48, .invokevirtual 329, 3), (51, .ireturn, 1), (52, .iconst (-1), 1), (53, .ireturn, 1)]
set_option maxRecDepth 100000 in
theorem dt_11_rule : ∀ q ∈ tab_11_rule, decode m_11_rule.2.1 q.1 = .ok q.2 := by decide +kernel
def f_11_rule (a0 : Nat) (a1 : Int32) (μ : mm) : Option (Int32) :=
  if a1 = 0 then
    (f_9_quorum (rf a0 0) μ).bind fun x2 =>
    some x2
  else if a1 = 1 then
    (f_9_safety (rf a0 0) μ).bind fun x4 =>
    some x4
  else if a1 = 2 then
    (f_9_evictWeeks (rf a0 0) μ).bind fun x6 =>
    some x6
  else 
    some (-1)
set_option maxRecDepth 100000 in
set_option maxHeartbeats 4000000 in
theorem ok_11_rule {l : Launch} {E : ce} {d : Nat}  {a0 : Nat} {a1 : Int32} {μ : mm} {r : Int32} {Q : Option Value → mm → Prop} (h : f_11_rule a0 a1 μ = some r) (k0 : kd a0 = 11) (hQ : Q (some (.int r)) μ) : Ct l E (d + 3) yX11_rule m_11_rule [.ref a0, .int a1] μ Q := by
  refine Ct_of (lv := [some (.ref a0), some (.int a1)]) (by decide) rfl (Nat.le_of_ble_eq_true rfl) rfl ?_
  unfold f_11_rule at h
  refine R_iload_n (dd dt_11_rule 0 rfl) 1 rfl rfl ?_
  by_cases hs0 : a1 = 0
  · refine R_tabIn (off := 27) (tgt := 28) (dd dt_11_rule 1 rfl) (by rw [hs0]; decide) (by rw [hs0]; decide) (by rw [hs0]; rfl) rfl ?_
    rw [if_pos hs0] at h
    refine R_aload_n (dd dt_11_rule 2 rfl) 0 rfl rfl ?_
    refine g_11_10 rfl k0 (dd dt_11_rule 3 rfl) ?_
    obtain ⟨x2, e1, h⟩ := bi_el h
    refine c_11_326 (As := []) (st1 := [.int x2]) rfl (fun Q1 hq => ok_9_quorum e1 (ty_11_0 k0) hq) (ty_11_0 k0) rfl rfl (Nat.le_of_ble_eq_true rfl) (dd dt_11_rule 4 rfl) rfl ?_
    obtain rfl := Option.some.inj h
    exact R_iret rfl (dd dt_11_rule 5 rfl) hQ
  rw [if_neg hs0] at h
  by_cases hs1 : a1 = 1
  · refine R_tabIn (off := 35) (tgt := 36) (dd dt_11_rule 1 rfl) (by rw [hs1]; decide) (by rw [hs1]; decide) (by rw [hs1]; rfl) rfl ?_
    rw [if_pos hs1] at h
    refine R_aload_n (dd dt_11_rule 6 rfl) 0 rfl rfl ?_
    refine g_11_10 rfl k0 (dd dt_11_rule 7 rfl) ?_
    obtain ⟨x4, e3, h⟩ := bi_el h
    refine c_11_216 (As := []) (st1 := [.int x4]) rfl (fun Q1 hq => ok_9_safety e3 (ty_11_0 k0) hq) (ty_11_0 k0) rfl rfl (Nat.le_of_ble_eq_true rfl) (dd dt_11_rule 8 rfl) rfl ?_
    obtain rfl := Option.some.inj h
    exact R_iret rfl (dd dt_11_rule 9 rfl) hQ
  rw [if_neg hs1] at h
  by_cases hs2 : a1 = 2
  · refine R_tabIn (off := 43) (tgt := 44) (dd dt_11_rule 1 rfl) (by rw [hs2]; decide) (by rw [hs2]; decide) (by rw [hs2]; rfl) rfl ?_
    rw [if_pos hs2] at h
    refine R_aload_n (dd dt_11_rule 10 rfl) 0 rfl rfl ?_
    refine g_11_10 rfl k0 (dd dt_11_rule 11 rfl) ?_
    obtain ⟨x6, e5, h⟩ := bi_el h
    refine c_11_329 (As := []) (st1 := [.int x6]) rfl (fun Q1 hq => ok_9_evictWeeks e5 (ty_11_0 k0) hq) (ty_11_0 k0) rfl rfl (Nat.le_of_ble_eq_true rfl) (dd dt_11_rule 12 rfl) rfl ?_
    obtain rfl := Option.some.inj h
    exact R_iret rfl (dd dt_11_rule 13 rfl) hQ
  rw [if_neg hs2] at h
  refine R_tabOut (tgt := 52) (dd dt_11_rule 1 rfl) (by have hn0 := lv_neT hs0 (a := 0) (by decide); have hn1 := lv_neT hs1 (a := 1) (by decide); have hn2 := lv_neT hs2 (a := 2) (by decide); omega) rfl ?_
  refine R_iconst (v := (-1)) (dd dt_11_rule 14 rfl) ic_m1 ?_
  obtain rfl := Option.some.inj h
  exact R_iret rfl (dd dt_11_rule 15 rfl) hQ
/-! LongStrike.why(II)I -/
def tab_11_why : List (Nat × Instr × Nat) := [(0, .aload_n 0, 1), (1, .getfield 10, 3), (4, .iload_n 1, 1), (5, .invokevirtual 145, 3), (8, .ifCond .eq 12, 3), (11, .iload_n 2, 1), (12, .iconst 0, 1), (13, .iconst 2, 1), (14, .invokestatic 83, 3), (17, .ifCond .ne 5, 3), (20, .iconst (-1), 1), (21, .ireturn, 1), (22, .aload_n 0, 1), (23, .getfield 10, 3), (26, .getfield 135, 3), (29, .iload_n 1, 1), (30, .aaload, 1), (31, .astore_n 3, 1), (32, .iload_n 2, 1), (33, .ifCond .ne 22, 3), (36, .aload_n 0, 1), (37, .getfield 10, 3), (40, .getfield 300, 3), (43, .iconst 0, 1), (44, .aaload, 1), (45, .iconst 0, 1), (46, .aload_n 3, 1), (47, .invokevirtual 332, 3), (50, .istore 4, 2), (52, .goto 44, 3), (55, .iload_n 2, 1), (56, .iconst 1, 1), (57, .if_icmp .ne 22, 3), (60, .aload_n 0, 1), (61, .getfield 10, 3), (64, .getfield 300, 3), (67, .iconst 0, 1), (68, .aaload, 1), (69, .iconst 1, 1), (70, .aload_n 3, 1), (71, .invokevirtual 332, 3), (74, .istore 4, 2), (76, .goto 20, 3), (79, .aload_n 0, 1), (80, .getfield 10, 3), (83, .getfield 300, 3), (86, .iconst 1, 1), (87, .aaload, 1), (88, .bipush 6, 2), (90, .aload_n 3, 1), (91, .invokevirtual 332, 3), (94, .istore 4, 2), (96, .iload 4, 2), (98, .iconst (-1), 1), (99, .if_icmp .ne 8, 3), (102, .bipush (-3), 2), (104, .goto 5, 3), (107, .iload 4, 2), (109, .ireturn, 1)]
set_option maxRecDepth 100000 in
theorem dt_11_why : ∀ q ∈ tab_11_why, decode m_11_why.2.1 q.1 = .ok q.2 := by decide +kernel
def f_11_why (a0 : Nat) (a1 : Int32) (a2 : Int32) (μ : mm) : Option (Int32) :=
  (f_9_hasHousehold (rf a0 0) a1 μ).bind fun x2 =>
  if x2 = 0 then
    some (-1)
  else
    (f_11_isIn a2 0 2 μ).bind fun x4 =>
    if x4 = 0 then
      some (-1)
    else
      (lda (rf (rf a0 0) 10) a1).bind fun r5 =>
      (if a2 = 0 then
          (lda (rf (rf a0 0) 11) 0).bind fun r15 =>
          (f_5_firstHolding r15 0 r5 μ).bind fun x18 =>
          some x18
        else
          if a2 = 1 then
            (lda (rf (rf a0 0) 11) 0).bind fun r11 =>
            (f_5_firstHolding r11 1 r5 μ).bind fun x14 =>
            some x14
          else
            (lda (rf (rf a0 0) 11) 1).bind fun r7 =>
            (f_5_firstHolding r7 6 r5 μ).bind fun x10 =>
            some x10).bind fun (z19 : Int32) =>
      if z19 = (-1) then
        some (-3)
      else
        some z19
set_option maxRecDepth 100000 in
set_option maxHeartbeats 4000000 in
theorem ok_11_why {l : Launch} {E : ce} {d : Nat}  {a0 : Nat} {a1 : Int32} {a2 : Int32} {μ : mm} {r : Int32} {Q : Option Value → mm → Prop} (h : f_11_why a0 a1 a2 μ = some r) (k0 : kd a0 = 11) (hQ : Q (some (.int r)) μ) : Ct l E (d + 3) yX11_why m_11_why [.ref a0, .int a1, .int a2] μ Q := by
  refine Ct_of (lv := [some (.ref a0), some (.int a1), some (.int a2), none, none]) (by decide) rfl (Nat.le_of_ble_eq_true rfl) rfl ?_
  unfold f_11_why at h
  refine R_aload_n (dd dt_11_why 0 rfl) 0 rfl rfl ?_
  refine g_11_10 rfl k0 (dd dt_11_why 1 rfl) ?_
  refine R_iload_n (dd dt_11_why 2 rfl) 1 rfl rfl ?_
  obtain ⟨x2, e1, h⟩ := bi_el h
  refine c_11_145 (As := [.int a1]) (st1 := [.int x2]) rfl (fun Q1 hq => ok_9_hasHousehold e1 (ty_11_0 k0) hq) (ty_11_0 k0) rfl rfl (Nat.le_of_ble_eq_true rfl) (dd dt_11_why 3 rfl) rfl ?_
  refine R_ifeq (dd dt_11_why 4 rfl) (tgt := 20) rfl (fun hc => ?_) (fun hc => ?_)
  · rw [if_pos hc] at h
    refine R_iconst (v := (-1)) (dd dt_11_why 10 rfl) ic_m1 ?_
    obtain rfl := Option.some.inj h
    exact R_iret rfl (dd dt_11_why 11 rfl) hQ
  · rw [if_neg hc] at h
    refine R_iload_n (dd dt_11_why 5 rfl) 2 rfl rfl ?_
    refine R_iconst (v := 0) (dd dt_11_why 6 rfl) ic_0 ?_
    refine R_iconst (v := 2) (dd dt_11_why 7 rfl) ic_2 ?_
    obtain ⟨x4, e3, h⟩ := bi_el h
    refine c_11_83 (As := [.int a2, .int 0, .int 2]) (st1 := [.int x4]) rfl (fun Q1 hq => ok_11_isIn e3 hq) rfl rfl (Nat.le_of_ble_eq_true rfl) (dd dt_11_why 8 rfl) rfl ?_
    refine R_ifne (dd dt_11_why 9 rfl) (tgt := 22) rfl (fun hc => ?_) (fun hc => ?_)
    · rw [if_neg hc] at h
      refine R_aload_n (dd dt_11_why 12 rfl) 0 rfl rfl ?_
      refine g_11_10 rfl k0 (dd dt_11_why 13 rfl) ?_
      refine g_11_135 rfl (ty_11_0 k0) (dd dt_11_why 14 rfl) ?_
      refine R_iload_n (dd dt_11_why 15 rfl) 1 rfl rfl ?_
      obtain ⟨r5, e6, h⟩ := bi_el h
      refine R_aald (t0 := 6) e6 (ty_9_10 (ty_11_0 k0)) (by decide) (by decide) rfl rfl (dd dt_11_why 16 rfl) ?_
      refine R_astore_n (lv' := [some (.ref a0), some (.int a1), some (.int a2), some (.ref r5), none]) (dd dt_11_why 17 rfl) 3 rfl (by decide) rfl rfl ?_
      refine R_iload_n (dd dt_11_why 18 rfl) 2 rfl rfl ?_
      obtain ⟨z19, hz19, h⟩ := bi_el h
      have K19 : Rj l E (d + 3) m_11_why 96 [none, none, none, none, some (.int z19)] [] μ Q := by
        clear hz19
        refine R_iload (dd dt_11_why 52 rfl) rfl ?_
        refine R_iconst (v := (-1)) (dd dt_11_why 53 rfl) ic_m1 ?_
        refine R_cmpne (dd dt_11_why 54 rfl) (tgt := 107) rfl (fun hc => ?_) (fun hc => ?_)
        · rw [if_neg hc] at h
          refine R_iload (dd dt_11_why 57 rfl) rfl ?_
          obtain rfl := Option.some.inj h
          exact R_iret rfl (dd dt_11_why 58 rfl) hQ
        · rw [if_pos hc] at h
          refine R_bipush (v := (-3)) (dd dt_11_why 55 rfl) bp_m3 ?_
          refine R_goto (dd dt_11_why 56 rfl) (tgt := 109) rfl ?_
          obtain rfl := Option.some.inj h
          exact R_iret rfl (dd dt_11_why 58 rfl) hQ
      clear h
      have h := hz19
      clear hz19
      refine R_ifne (dd dt_11_why 19 rfl) (tgt := 55) rfl (fun hc => ?_) (fun hc => ?_)
      · rw [if_neg hc] at h
        refine R_iload_n (dd dt_11_why 30 rfl) 2 rfl rfl ?_
        refine R_iconst (v := 1) (dd dt_11_why 31 rfl) ic_1 ?_
        refine R_cmpne (dd dt_11_why 32 rfl) (tgt := 79) rfl (fun hc => ?_) (fun hc => ?_)
        · rw [if_neg hc] at h
          refine R_aload_n (dd dt_11_why 43 rfl) 0 rfl rfl ?_
          refine g_11_10 rfl k0 (dd dt_11_why 44 rfl) ?_
          refine g_11_300 rfl (ty_11_0 k0) (dd dt_11_why 45 rfl) ?_
          refine R_iconst (v := 1) (dd dt_11_why 46 rfl) ic_1 ?_
          obtain ⟨r7, e8, h⟩ := bi_el h
          refine R_aald (t0 := 7) e8 (ty_9_11 (ty_11_0 k0)) (by decide) (by decide) rfl rfl (dd dt_11_why 47 rfl) ?_
          refine R_bipush (v := 6) (dd dt_11_why 48 rfl) bp_6 ?_
          refine R_aload_n (dd dt_11_why 49 rfl) 3 rfl rfl ?_
          obtain ⟨x10, e9, h⟩ := bi_el h
          refine c_11_332 (As := [.int 6, .ref r5]) (st1 := [.int x10]) rfl (fun Q1 hq => ok_5_firstHolding e9 (tl_27 e8 (ty_9_11 (ty_11_0 k0))) (tl_26 e6 (ty_9_10 (ty_11_0 k0))) hq) (tl_27 e8 (ty_9_11 (ty_11_0 k0))) rfl rfl (Nat.le_of_ble_eq_true rfl) (dd dt_11_why 50 rfl) rfl ?_
          refine R_istore (lv' := [some (.ref a0), some (.int a1), some (.int a2), some (.ref r5), some (.int x10)]) (dd dt_11_why 51 rfl) (by decide) rfl rfl ?_
          obtain rfl := Option.some.inj h
          exact R_mask [false, false, false, false, true] rfl K19
        · rw [if_pos hc] at h
          refine R_aload_n (dd dt_11_why 33 rfl) 0 rfl rfl ?_
          refine g_11_10 rfl k0 (dd dt_11_why 34 rfl) ?_
          refine g_11_300 rfl (ty_11_0 k0) (dd dt_11_why 35 rfl) ?_
          refine R_iconst (v := 0) (dd dt_11_why 36 rfl) ic_0 ?_
          obtain ⟨r11, e12, h⟩ := bi_el h
          refine R_aald (t0 := 7) e12 (ty_9_11 (ty_11_0 k0)) (by decide) (by decide) rfl rfl (dd dt_11_why 37 rfl) ?_
          refine R_iconst (v := 1) (dd dt_11_why 38 rfl) ic_1 ?_
          refine R_aload_n (dd dt_11_why 39 rfl) 3 rfl rfl ?_
          obtain ⟨x14, e13, h⟩ := bi_el h
          refine c_11_332 (As := [.int 1, .ref r5]) (st1 := [.int x14]) rfl (fun Q1 hq => ok_5_firstHolding e13 (tl_27 e12 (ty_9_11 (ty_11_0 k0))) (tl_26 e6 (ty_9_10 (ty_11_0 k0))) hq) (tl_27 e12 (ty_9_11 (ty_11_0 k0))) rfl rfl (Nat.le_of_ble_eq_true rfl) (dd dt_11_why 40 rfl) rfl ?_
          refine R_istore (lv' := [some (.ref a0), some (.int a1), some (.int a2), some (.ref r5), some (.int x14)]) (dd dt_11_why 41 rfl) (by decide) rfl rfl ?_
          refine R_goto (dd dt_11_why 42 rfl) (tgt := 96) rfl ?_
          obtain rfl := Option.some.inj h
          exact R_mask [false, false, false, false, true] rfl K19
      · rw [if_pos hc] at h
        refine R_aload_n (dd dt_11_why 20 rfl) 0 rfl rfl ?_
        refine g_11_10 rfl k0 (dd dt_11_why 21 rfl) ?_
        refine g_11_300 rfl (ty_11_0 k0) (dd dt_11_why 22 rfl) ?_
        refine R_iconst (v := 0) (dd dt_11_why 23 rfl) ic_0 ?_
        obtain ⟨r15, e16, h⟩ := bi_el h
        refine R_aald (t0 := 7) e16 (ty_9_11 (ty_11_0 k0)) (by decide) (by decide) rfl rfl (dd dt_11_why 24 rfl) ?_
        refine R_iconst (v := 0) (dd dt_11_why 25 rfl) ic_0 ?_
        refine R_aload_n (dd dt_11_why 26 rfl) 3 rfl rfl ?_
        obtain ⟨x18, e17, h⟩ := bi_el h
        refine c_11_332 (As := [.int 0, .ref r5]) (st1 := [.int x18]) rfl (fun Q1 hq => ok_5_firstHolding e17 (tl_27 e16 (ty_9_11 (ty_11_0 k0))) (tl_26 e6 (ty_9_10 (ty_11_0 k0))) hq) (tl_27 e16 (ty_9_11 (ty_11_0 k0))) rfl rfl (Nat.le_of_ble_eq_true rfl) (dd dt_11_why 27 rfl) rfl ?_
        refine R_istore (lv' := [some (.ref a0), some (.int a1), some (.int a2), some (.ref r5), some (.int x18)]) (dd dt_11_why 28 rfl) (by decide) rfl rfl ?_
        refine R_goto (dd dt_11_why 29 rfl) (tgt := 96) rfl ?_
        obtain rfl := Option.some.inj h
        exact R_mask [false, false, false, false, true] rfl K19
    · rw [if_pos hc] at h
      refine R_iconst (v := (-1)) (dd dt_11_why 10 rfl) ic_m1 ?_
      obtain rfl := Option.some.inj h
      exact R_iret rfl (dd dt_11_why 11 rfl) hQ
/-! LongStrike$Talk.tell(III)I -/
def tab_7_tell : List (Nat × Instr × Nat) := [(0, .aload_n 0, 1), (1, .getfield 15, 3), (4, .aload_n 0, 1), (5, .getfield 9, 3), (8, .iload_n 1, 1), (9, .iastore, 1), (10, .aload_n 0, 1), (11, .getfield 19, 3), (14, .aload_n 0, 1), (15, .getfield 9, 3), (18, .iload_n 2, 1), (19, .iastore, 1), (20, .aload_n 0, 1), (21, .getfield 22, 3), (24, .aload_n 0, 1), (25, .getfield 9, 3), (28, .iload_n 3, 1), (29, .iastore, 1), (30, .aload_n 0, 1), (31, .dup, 1), (32, .getfield 9, 3), (35, .iconst 1, 1), (36, .iadd, 1), (37, .putfield 9, 3), (40, .aload_n 0, 1), (41, .getfield 9, 3), (44, .iconst 1, 1), (45, .isub, 1), (46, .ireturn, 1)]
set_option maxRecDepth 100000 in
theorem dt_7_tell : ∀ q ∈ tab_7_tell, decode m_7_tell.2.1 q.1 = .ok q.2 := by decide +kernel
def f_7_tell (a0 : Nat) (a1 : Int32) (a2 : Int32) (a3 : Int32) (μ : mm) : Option (Int32 × mm) :=
  (sto μ (rf a0 1) (μ a0 0) a1).bind fun μ1 =>
  (sto μ1 (rf a0 2) (μ1 a0 0) a2).bind fun μ3 =>
  (sto μ3 (rf a0 3) (μ3 a0 0) a3).bind fun μ5 =>
  (pf μ5 a0 0 ((μ5 a0 0) + 1)).bind fun μ7 =>
  some (((μ7 a0 0) - 1), μ7)
set_option maxRecDepth 100000 in
set_option maxHeartbeats 4000000 in
theorem ok_7_tell {l : Launch} {E : ce} {d : Nat}  {a0 : Nat} {a1 : Int32} {a2 : Int32} {a3 : Int32} {μ : mm} {r : Int32 × mm} {Q : Option Value → mm → Prop} (h : f_7_tell a0 a1 a2 a3 μ = some r) (k0 : kd a0 = 7) (hQ : Q (some (.int r.1)) r.2) : Ct l E d yX7_tell m_7_tell [.ref a0, .int a1, .int a2, .int a3] μ Q := by
  refine Ct_of (lv := [some (.ref a0), some (.int a1), some (.int a2), some (.int a3)]) (by decide) rfl (Nat.le_of_ble_eq_true rfl) rfl ?_
  unfold f_7_tell at h
  refine R_aload_n (dd dt_7_tell 0 rfl) 0 rfl rfl ?_
  refine g_7_15 rfl k0 (dd dt_7_tell 1 rfl) ?_
  refine R_aload_n (dd dt_7_tell 2 rfl) 0 rfl rfl ?_
  refine g_7_9 rfl k0 (dd dt_7_tell 3 rfl) ?_
  refine R_iload_n (dd dt_7_tell 4 rfl) 1 rfl rfl ?_
  obtain ⟨μ1, e2, h⟩ := bi_el h
  refine R_isto e2 (ty_7_1 k0) (dd dt_7_tell 5 rfl) ?_
  refine R_aload_n (dd dt_7_tell 6 rfl) 0 rfl rfl ?_
  refine g_7_19 rfl k0 (dd dt_7_tell 7 rfl) ?_
  refine R_aload_n (dd dt_7_tell 8 rfl) 0 rfl rfl ?_
  refine g_7_9 rfl k0 (dd dt_7_tell 9 rfl) ?_
  refine R_iload_n (dd dt_7_tell 10 rfl) 2 rfl rfl ?_
  obtain ⟨μ3, e4, h⟩ := bi_el h
  refine R_isto e4 (ty_7_2 k0) (dd dt_7_tell 11 rfl) ?_
  refine R_aload_n (dd dt_7_tell 12 rfl) 0 rfl rfl ?_
  refine g_7_22 rfl k0 (dd dt_7_tell 13 rfl) ?_
  refine R_aload_n (dd dt_7_tell 14 rfl) 0 rfl rfl ?_
  refine g_7_9 rfl k0 (dd dt_7_tell 15 rfl) ?_
  refine R_iload_n (dd dt_7_tell 16 rfl) 3 rfl rfl ?_
  obtain ⟨μ5, e6, h⟩ := bi_el h
  refine R_isto e6 (ty_7_3 k0) (dd dt_7_tell 17 rfl) ?_
  refine R_aload_n (dd dt_7_tell 18 rfl) 0 rfl rfl ?_
  refine R_dup (dd dt_7_tell 19 rfl) rfl ?_
  refine g_7_9 rfl k0 (dd dt_7_tell 20 rfl) ?_
  refine R_iconst (v := 1) (dd dt_7_tell 21 rfl) ic_1 ?_
  refine R_iadd (dd dt_7_tell 22 rfl) ?_
  obtain ⟨μ7, e8, h⟩ := bi_el h
  refine p_7_9 rfl k0 (dd dt_7_tell 23 rfl) e8 ?_
  refine R_aload_n (dd dt_7_tell 24 rfl) 0 rfl rfl ?_
  refine g_7_9 rfl k0 (dd dt_7_tell 25 rfl) ?_
  refine R_iconst (v := 1) (dd dt_7_tell 26 rfl) ic_1 ?_
  refine R_isub (dd dt_7_tell 27 rfl) ?_
  obtain rfl := Option.some.inj h
  exact R_iret rfl (dd dt_7_tell 28 rfl) hQ
/-! LongStrike.news(II)I -/
def tab_11_news : List (Nat × Instr × Nat) := [(0, .aload_n 0, 1), (1, .getfield 10, 3), (4, .iload_n 1, 1), (5, .invokevirtual 96, 3), (8, .ifCond .eq 14, 3), (11, .iload_n 2, 1), (12, .bipush (-20), 2), (14, .bipush 20, 2), (16, .invokestatic 83, 3), (19, .ifCond .ne 5, 3), (22, .iconst (-1), 1), (23, .ireturn, 1), (24, .aload_n 0, 1), (25, .getfield 10, 3), (28, .getfield 336, 3), (31, .getfield 340, 3), (34, .bipush 12, 2), (36, .if_icmp .lt 6, 3), (39, .bipush (-2), 2), (41, .ireturn, 1), (42, .aload_n 0, 1), (43, .getfield 10, 3), (46, .getfield 336, 3), (49, .iload_n 1, 1), (50, .iload_n 2, 1), (51, .aload_n 0, 1), (52, .getfield 10, 3), (55, .getfield 87, 3), (58, .invokevirtual 345, 3), (61, .ireturn, 1)]
set_option maxRecDepth 100000 in
theorem dt_11_news : ∀ q ∈ tab_11_news, decode m_11_news.2.1 q.1 = .ok q.2 := by decide +kernel
def f_11_news (a0 : Nat) (a1 : Int32) (a2 : Int32) (μ : mm) : Option (Int32 × mm) :=
  (f_9_hasVillage (rf a0 0) a1 μ).bind fun x2 =>
  if x2 = 0 then
    some ((-1), μ)
  else
    (f_11_isIn a2 (-20) 20 μ).bind fun x4 =>
    if x4 = 0 then
      some ((-1), μ)
    else
      if (μ (rf (rf a0 0) 13) 0) < 12 then
        (f_7_tell (rf (rf a0 0) 13) a1 a2 (μ (rf a0 0) 0) μ).bind fun z6 =>
        some (z6.1, z6.2)
      else
        some ((-2), μ)
set_option maxRecDepth 100000 in
set_option maxHeartbeats 4000000 in
theorem ok_11_news {l : Launch} {E : ce} {d : Nat}  {a0 : Nat} {a1 : Int32} {a2 : Int32} {μ : mm} {r : Int32 × mm} {Q : Option Value → mm → Prop} (h : f_11_news a0 a1 a2 μ = some r) (k0 : kd a0 = 11) (hQ : Q (some (.int r.1)) r.2) : Ct l E (d + 2) yX11_news m_11_news [.ref a0, .int a1, .int a2] μ Q := by
  refine Ct_of (lv := [some (.ref a0), some (.int a1), some (.int a2)]) (by decide) rfl (Nat.le_of_ble_eq_true rfl) rfl ?_
  unfold f_11_news at h
  refine R_aload_n (dd dt_11_news 0 rfl) 0 rfl rfl ?_
  refine g_11_10 rfl k0 (dd dt_11_news 1 rfl) ?_
  refine R_iload_n (dd dt_11_news 2 rfl) 1 rfl rfl ?_
  obtain ⟨x2, e1, h⟩ := bi_el h
  refine c_11_96 (As := [.int a1]) (st1 := [.int x2]) rfl (fun Q1 hq => ok_9_hasVillage e1 (ty_11_0 k0) hq) (ty_11_0 k0) rfl rfl (Nat.le_of_ble_eq_true rfl) (dd dt_11_news 3 rfl) rfl ?_
  refine R_ifeq (dd dt_11_news 4 rfl) (tgt := 22) rfl (fun hc => ?_) (fun hc => ?_)
  · rw [if_pos hc] at h
    refine R_iconst (v := (-1)) (dd dt_11_news 10 rfl) ic_m1 ?_
    obtain rfl := Option.some.inj h
    exact R_iret rfl (dd dt_11_news 11 rfl) hQ
  · rw [if_neg hc] at h
    refine R_iload_n (dd dt_11_news 5 rfl) 2 rfl rfl ?_
    refine R_bipush (v := (-20)) (dd dt_11_news 6 rfl) bp_m20 ?_
    refine R_bipush (v := 20) (dd dt_11_news 7 rfl) bp_20 ?_
    obtain ⟨x4, e3, h⟩ := bi_el h
    refine c_11_83 (As := [.int a2, .int (-20), .int 20]) (st1 := [.int x4]) rfl (fun Q1 hq => ok_11_isIn e3 hq) rfl rfl (Nat.le_of_ble_eq_true rfl) (dd dt_11_news 8 rfl) rfl ?_
    refine R_ifne (dd dt_11_news 9 rfl) (tgt := 24) rfl (fun hc => ?_) (fun hc => ?_)
    · rw [if_neg hc] at h
      refine R_aload_n (dd dt_11_news 12 rfl) 0 rfl rfl ?_
      refine g_11_10 rfl k0 (dd dt_11_news 13 rfl) ?_
      refine g_11_336 rfl (ty_11_0 k0) (dd dt_11_news 14 rfl) ?_
      refine g_11_340 rfl (ty_9_13 (ty_11_0 k0)) (dd dt_11_news 15 rfl) ?_
      refine R_bipush (v := 12) (dd dt_11_news 16 rfl) bp_12 ?_
      refine R_cmplt (dd dt_11_news 17 rfl) (tgt := 42) rfl (fun hc => ?_) (fun hc => ?_)
      · rw [if_pos hc] at h
        refine R_aload_n (dd dt_11_news 20 rfl) 0 rfl rfl ?_
        refine g_11_10 rfl k0 (dd dt_11_news 21 rfl) ?_
        refine g_11_336 rfl (ty_11_0 k0) (dd dt_11_news 22 rfl) ?_
        refine R_iload_n (dd dt_11_news 23 rfl) 1 rfl rfl ?_
        refine R_iload_n (dd dt_11_news 24 rfl) 2 rfl rfl ?_
        refine R_aload_n (dd dt_11_news 25 rfl) 0 rfl rfl ?_
        refine g_11_10 rfl k0 (dd dt_11_news 26 rfl) ?_
        refine g_11_87 rfl (ty_11_0 k0) (dd dt_11_news 27 rfl) ?_
        obtain ⟨z6, e5, h⟩ := bi_el h
        refine c_11_345 (As := [.int a1, .int a2, .int (μ (rf a0 0) 0)]) (st1 := [.int z6.1]) rfl (fun Q1 hq => ok_7_tell e5 (ty_9_13 (ty_11_0 k0)) hq) (ty_9_13 (ty_11_0 k0)) rfl rfl (Nat.le_of_ble_eq_true rfl) (dd dt_11_news 28 rfl) rfl ?_
        obtain rfl := Option.some.inj h
        exact R_iret rfl (dd dt_11_news 29 rfl) hQ
      · rw [if_neg hc] at h
        refine R_bipush (v := (-2)) (dd dt_11_news 18 rfl) bp_m2 ?_
        obtain rfl := Option.some.inj h
        exact R_iret rfl (dd dt_11_news 19 rfl) hQ
    · rw [if_pos hc] at h
      refine R_iconst (v := (-1)) (dd dt_11_news 10 rfl) ic_m1 ?_
      obtain rfl := Option.some.inj h
      exact R_iret rfl (dd dt_11_news 11 rfl) hQ
/-! LongStrike.hears(II)I -/
def tab_11_hears : List (Nat × Instr × Nat) := [(0, .aload_n 0, 1), (1, .getfield 10, 3), (4, .iload_n 1, 1), (5, .invokevirtual 145, 3), (8, .ifCond .eq 23, 3), (11, .iload_n 2, 1), (12, .iconst 0, 1), (13, .aload_n 0, 1), (14, .getfield 10, 3), (17, .getfield 336, 3), (20, .getfield 340, 3), (23, .iconst 1, 1), (24, .isub, 1), (25, .invokestatic 83, 3), (28, .ifCond .ne 5, 3), (31, .iconst (-1), 1), (32, .ireturn, 1), (33, .aload_n 0, 1), (34, .getfield 10, 3), (37, .getfield 336, 3), (40, .iload_n 2, 1), (41, .aload_n 0, 1), (42, .getfield 10, 3), (45, .getfield 135, 3), (48, .iload_n 1, 1), (49, .aaload, 1), (50, .getfield 148, 3), (53, .aload_n 0, 1), (54, .getfield 10, 3), (57, .getfield 100, 3), (60, .invokevirtual 349, 3), (63, .ireturn, 1)]
set_option maxRecDepth 100000 in
theorem dt_11_hears : ∀ q ∈ tab_11_hears, decode m_11_hears.2.1 q.1 = .ok q.2 := by decide +kernel
def f_11_hears (a0 : Nat) (a1 : Int32) (a2 : Int32) (μ : mm) : Option (Int32) :=
  (f_9_hasHousehold (rf a0 0) a1 μ).bind fun x2 =>
  if x2 = 0 then
    some (-1)
  else
    (f_11_isIn a2 0 ((μ (rf (rf a0 0) 13) 0) - 1) μ).bind fun x4 =>
    if x4 = 0 then
      some (-1)
    else
      (lda (rf (rf a0 0) 10) a1).bind fun r5 =>
      (f_7_dayHeard (rf (rf a0 0) 13) a2 (μ r5 0) (rf (rf a0 0) 7) μ).bind fun x8 =>
      some x8
set_option maxRecDepth 100000 in
set_option maxHeartbeats 4000000 in
theorem ok_11_hears {l : Launch} {E : ce} {d : Nat}  {a0 : Nat} {a1 : Int32} {a2 : Int32} {μ : mm} {r : Int32} {Q : Option Value → mm → Prop} (h : f_11_hears a0 a1 a2 μ = some r) (k0 : kd a0 = 11) (hQ : Q (some (.int r)) μ) : Ct l E (d + 2) yX11_hears m_11_hears [.ref a0, .int a1, .int a2] μ Q := by
  refine Ct_of (lv := [some (.ref a0), some (.int a1), some (.int a2)]) (by decide) rfl (Nat.le_of_ble_eq_true rfl) rfl ?_
  unfold f_11_hears at h
  refine R_aload_n (dd dt_11_hears 0 rfl) 0 rfl rfl ?_
  refine g_11_10 rfl k0 (dd dt_11_hears 1 rfl) ?_
  refine R_iload_n (dd dt_11_hears 2 rfl) 1 rfl rfl ?_
  obtain ⟨x2, e1, h⟩ := bi_el h
  refine c_11_145 (As := [.int a1]) (st1 := [.int x2]) rfl (fun Q1 hq => ok_9_hasHousehold e1 (ty_11_0 k0) hq) (ty_11_0 k0) rfl rfl (Nat.le_of_ble_eq_true rfl) (dd dt_11_hears 3 rfl) rfl ?_
  refine R_ifeq (dd dt_11_hears 4 rfl) (tgt := 31) rfl (fun hc => ?_) (fun hc => ?_)
  · rw [if_pos hc] at h
    refine R_iconst (v := (-1)) (dd dt_11_hears 15 rfl) ic_m1 ?_
    obtain rfl := Option.some.inj h
    exact R_iret rfl (dd dt_11_hears 16 rfl) hQ
  · rw [if_neg hc] at h
    refine R_iload_n (dd dt_11_hears 5 rfl) 2 rfl rfl ?_
    refine R_iconst (v := 0) (dd dt_11_hears 6 rfl) ic_0 ?_
    refine R_aload_n (dd dt_11_hears 7 rfl) 0 rfl rfl ?_
    refine g_11_10 rfl k0 (dd dt_11_hears 8 rfl) ?_
    refine g_11_336 rfl (ty_11_0 k0) (dd dt_11_hears 9 rfl) ?_
    refine g_11_340 rfl (ty_9_13 (ty_11_0 k0)) (dd dt_11_hears 10 rfl) ?_
    refine R_iconst (v := 1) (dd dt_11_hears 11 rfl) ic_1 ?_
    refine R_isub (dd dt_11_hears 12 rfl) ?_
    obtain ⟨x4, e3, h⟩ := bi_el h
    refine c_11_83 (As := [.int a2, .int 0, .int ((μ (rf (rf a0 0) 13) 0) - 1)]) (st1 := [.int x4]) rfl (fun Q1 hq => ok_11_isIn e3 hq) rfl rfl (Nat.le_of_ble_eq_true rfl) (dd dt_11_hears 13 rfl) rfl ?_
    refine R_ifne (dd dt_11_hears 14 rfl) (tgt := 33) rfl (fun hc => ?_) (fun hc => ?_)
    · rw [if_neg hc] at h
      refine R_aload_n (dd dt_11_hears 17 rfl) 0 rfl rfl ?_
      refine g_11_10 rfl k0 (dd dt_11_hears 18 rfl) ?_
      refine g_11_336 rfl (ty_11_0 k0) (dd dt_11_hears 19 rfl) ?_
      refine R_iload_n (dd dt_11_hears 20 rfl) 2 rfl rfl ?_
      refine R_aload_n (dd dt_11_hears 21 rfl) 0 rfl rfl ?_
      refine g_11_10 rfl k0 (dd dt_11_hears 22 rfl) ?_
      refine g_11_135 rfl (ty_11_0 k0) (dd dt_11_hears 23 rfl) ?_
      refine R_iload_n (dd dt_11_hears 24 rfl) 1 rfl rfl ?_
      obtain ⟨r5, e6, h⟩ := bi_el h
      refine R_aald (t0 := 6) e6 (ty_9_10 (ty_11_0 k0)) (by decide) (by decide) rfl rfl (dd dt_11_hears 25 rfl) ?_
      refine g_11_148 rfl (tl_26 e6 (ty_9_10 (ty_11_0 k0))) (dd dt_11_hears 26 rfl) ?_
      refine R_aload_n (dd dt_11_hears 27 rfl) 0 rfl rfl ?_
      refine g_11_10 rfl k0 (dd dt_11_hears 28 rfl) ?_
      refine g_11_100 rfl (ty_11_0 k0) (dd dt_11_hears 29 rfl) ?_
      obtain ⟨x8, e7, h⟩ := bi_el h
      refine c_11_349 (As := [.int a2, .int (μ r5 0), .ref (rf (rf a0 0) 7)]) (st1 := [.int x8]) rfl (fun Q1 hq => ok_7_dayHeard e7 (ty_9_13 (ty_11_0 k0)) (ty_9_7 (ty_11_0 k0)) hq) (ty_9_13 (ty_11_0 k0)) rfl rfl (Nat.le_of_ble_eq_true rfl) (dd dt_11_hears 30 rfl) rfl ?_
      obtain rfl := Option.some.inj h
      exact R_iret rfl (dd dt_11_hears 31 rfl) hQ
    · rw [if_pos hc] at h
      refine R_iconst (v := (-1)) (dd dt_11_hears 15 rfl) ic_m1 ?_
      obtain rfl := Option.some.inj h
      exact R_iret rfl (dd dt_11_hears 16 rfl) hQ
/-! LongStrike.press(Z)I -/
def tab_11_press : List (Nat × Instr × Nat) := [(0, .iload_n 1, 1), (1, .ifCond .eq 28, 3), (4, .aload_n 0, 1), (5, .getfield 10, 3), (8, .getfield 336, 3), (11, .aload_n 0, 1), (12, .getfield 10, 3), (15, .getfield 269, 3), (18, .putfield 353, 3), (21, .aload_n 0, 1), (22, .getfield 10, 3), (25, .getfield 269, 3), (28, .ireturn, 1), (29, .aload_n 0, 1), (30, .getfield 10, 3), (33, .getfield 336, 3), (36, .aload_n 0, 1), (37, .getfield 10, 3), (40, .getfield 250, 3), (43, .getfield 281, 3), (46, .putfield 356, 3), (49, .aload_n 0, 1), (50, .getfield 10, 3), (53, .getfield 250, 3), (56, .getfield 281, 3), (59, .ireturn, 1)]
set_option maxRecDepth 100000 in
theorem dt_11_press : ∀ q ∈ tab_11_press, decode m_11_press.2.1 q.1 = .ok q.2 := by decide +kernel
def f_11_press (a0 : Nat) (a1 : Int32) (μ : mm) : Option (Int32 × mm) :=
  if a1 = 0 then
    (pf μ (rf (rf a0 0) 13) 9 (μ (rf (rf a0 0) 12) 0)).bind fun μ1 =>
    some ((μ1 (rf (rf a0 0) 12) 0), μ1)
  else
    (pf μ (rf (rf a0 0) 13) 8 (μ (rf a0 0) 5)).bind fun μ3 =>
    some ((μ3 (rf a0 0) 5), μ3)
set_option maxRecDepth 100000 in
set_option maxHeartbeats 4000000 in
theorem ok_11_press {l : Launch} {E : ce} {d : Nat}  {a0 : Nat} {a1 : Int32} {μ : mm} {r : Int32 × mm} {Q : Option Value → mm → Prop} (h : f_11_press a0 a1 μ = some r) (k0 : kd a0 = 11) (hQ : Q (some (.int r.1)) r.2) : Ct l E d yX11_press m_11_press [.ref a0, .int a1] μ Q := by
  refine Ct_of (lv := [some (.ref a0), some (.int a1)]) (by decide) rfl (Nat.le_of_ble_eq_true rfl) rfl ?_
  unfold f_11_press at h
  refine R_iload_n (dd dt_11_press 0 rfl) 1 rfl rfl ?_
  refine R_ifeq (dd dt_11_press 1 rfl) (tgt := 29) rfl (fun hc => ?_) (fun hc => ?_)
  · rw [if_pos hc] at h
    refine R_aload_n (dd dt_11_press 13 rfl) 0 rfl rfl ?_
    refine g_11_10 rfl k0 (dd dt_11_press 14 rfl) ?_
    refine g_11_336 rfl (ty_11_0 k0) (dd dt_11_press 15 rfl) ?_
    refine R_aload_n (dd dt_11_press 16 rfl) 0 rfl rfl ?_
    refine g_11_10 rfl k0 (dd dt_11_press 17 rfl) ?_
    refine g_11_250 rfl (ty_11_0 k0) (dd dt_11_press 18 rfl) ?_
    refine g_11_281 rfl (ty_9_12 (ty_11_0 k0)) (dd dt_11_press 19 rfl) ?_
    obtain ⟨μ1, e2, h⟩ := bi_el h
    refine p_11_356 rfl (ty_9_13 (ty_11_0 k0)) (dd dt_11_press 20 rfl) e2 ?_
    refine R_aload_n (dd dt_11_press 21 rfl) 0 rfl rfl ?_
    refine g_11_10 rfl k0 (dd dt_11_press 22 rfl) ?_
    refine g_11_250 rfl (ty_11_0 k0) (dd dt_11_press 23 rfl) ?_
    refine g_11_281 rfl (ty_9_12 (ty_11_0 k0)) (dd dt_11_press 24 rfl) ?_
    obtain rfl := Option.some.inj h
    exact R_iret rfl (dd dt_11_press 25 rfl) hQ
  · rw [if_neg hc] at h
    refine R_aload_n (dd dt_11_press 2 rfl) 0 rfl rfl ?_
    refine g_11_10 rfl k0 (dd dt_11_press 3 rfl) ?_
    refine g_11_336 rfl (ty_11_0 k0) (dd dt_11_press 4 rfl) ?_
    refine R_aload_n (dd dt_11_press 5 rfl) 0 rfl rfl ?_
    refine g_11_10 rfl k0 (dd dt_11_press 6 rfl) ?_
    refine g_11_269 rfl (ty_11_0 k0) (dd dt_11_press 7 rfl) ?_
    obtain ⟨μ3, e4, h⟩ := bi_el h
    refine p_11_353 rfl (ty_9_13 (ty_11_0 k0)) (dd dt_11_press 8 rfl) e4 ?_
    refine R_aload_n (dd dt_11_press 9 rfl) 0 rfl rfl ?_
    refine g_11_10 rfl k0 (dd dt_11_press 10 rfl) ?_
    refine g_11_269 rfl (ty_11_0 k0) (dd dt_11_press 11 rfl) ?_
    obtain rfl := Option.some.inj h
    exact R_iret rfl (dd dt_11_press 12 rfl) hQ
/-! LongStrike$Talk.writePaper(II)I -/
def tab_7_writePaper : List (Nat × Instr × Nat) := [(0, .aload_n 0, 1), (1, .getfield 28, 3), (4, .aload_n 0, 1), (5, .getfield 25, 3), (8, .iload_n 1, 1), (9, .iastore, 1), (10, .aload_n 0, 1), (11, .getfield 31, 3), (14, .aload_n 0, 1), (15, .getfield 25, 3), (18, .iload_n 2, 1), (19, .iastore, 1), (20, .aload_n 0, 1), (21, .getfield 34, 3), (24, .aload_n 0, 1), (25, .getfield 25, 3), (28, .iconst 0, 1), (29, .bastore, 1), (30, .aload_n 0, 1), (31, .dup, 1), (32, .getfield 25, 3), (35, .iconst 1, 1), (36, .iadd, 1), (37, .putfield 25, 3), (40, .aload_n 0, 1), (41, .getfield 25, 3), (44, .iconst 1, 1), (45, .isub, 1), (46, .ireturn, 1)]
set_option maxRecDepth 100000 in
theorem dt_7_writePaper : ∀ q ∈ tab_7_writePaper, decode m_7_writePaper.2.1 q.1 = .ok q.2 := by decide +kernel
def f_7_writePaper (a0 : Nat) (a1 : Int32) (a2 : Int32) (μ : mm) : Option (Int32 × mm) :=
  (sto μ (rf a0 5) (μ a0 4) a1).bind fun μ1 =>
  (sto μ1 (rf a0 6) (μ1 a0 4) a2).bind fun μ3 =>
  (sto μ3 (rf a0 7) (μ3 a0 4) 0).bind fun μ5 =>
  (pf μ5 a0 4 ((μ5 a0 4) + 1)).bind fun μ7 =>
  some (((μ7 a0 4) - 1), μ7)
set_option maxRecDepth 100000 in
set_option maxHeartbeats 4000000 in
theorem ok_7_writePaper {l : Launch} {E : ce} {d : Nat}  {a0 : Nat} {a1 : Int32} {a2 : Int32} {μ : mm} {r : Int32 × mm} {Q : Option Value → mm → Prop} (h : f_7_writePaper a0 a1 a2 μ = some r) (k0 : kd a0 = 7) (hQ : Q (some (.int r.1)) r.2) : Ct l E d yX7_writePaper m_7_writePaper [.ref a0, .int a1, .int a2] μ Q := by
  refine Ct_of (lv := [some (.ref a0), some (.int a1), some (.int a2)]) (by decide) rfl (Nat.le_of_ble_eq_true rfl) rfl ?_
  unfold f_7_writePaper at h
  refine R_aload_n (dd dt_7_writePaper 0 rfl) 0 rfl rfl ?_
  refine g_7_28 rfl k0 (dd dt_7_writePaper 1 rfl) ?_
  refine R_aload_n (dd dt_7_writePaper 2 rfl) 0 rfl rfl ?_
  refine g_7_25 rfl k0 (dd dt_7_writePaper 3 rfl) ?_
  refine R_iload_n (dd dt_7_writePaper 4 rfl) 1 rfl rfl ?_
  obtain ⟨μ1, e2, h⟩ := bi_el h
  refine R_isto e2 (ty_7_5 k0) (dd dt_7_writePaper 5 rfl) ?_
  refine R_aload_n (dd dt_7_writePaper 6 rfl) 0 rfl rfl ?_
  refine g_7_31 rfl k0 (dd dt_7_writePaper 7 rfl) ?_
  refine R_aload_n (dd dt_7_writePaper 8 rfl) 0 rfl rfl ?_
  refine g_7_25 rfl k0 (dd dt_7_writePaper 9 rfl) ?_
  refine R_iload_n (dd dt_7_writePaper 10 rfl) 2 rfl rfl ?_
  obtain ⟨μ3, e4, h⟩ := bi_el h
  refine R_isto e4 (ty_7_6 k0) (dd dt_7_writePaper 11 rfl) ?_
  refine R_aload_n (dd dt_7_writePaper 12 rfl) 0 rfl rfl ?_
  refine g_7_34 rfl k0 (dd dt_7_writePaper 13 rfl) ?_
  refine R_aload_n (dd dt_7_writePaper 14 rfl) 0 rfl rfl ?_
  refine g_7_25 rfl k0 (dd dt_7_writePaper 15 rfl) ?_
  refine R_iconst (v := 0) (dd dt_7_writePaper 16 rfl) ic_0 ?_
  obtain ⟨μ5, e6, h⟩ := bi_el h
  refine R_zsto (by decide) e6 (ty_7_7 k0) (dd dt_7_writePaper 17 rfl) ?_
  refine R_aload_n (dd dt_7_writePaper 18 rfl) 0 rfl rfl ?_
  refine R_dup (dd dt_7_writePaper 19 rfl) rfl ?_
  refine g_7_25 rfl k0 (dd dt_7_writePaper 20 rfl) ?_
  refine R_iconst (v := 1) (dd dt_7_writePaper 21 rfl) ic_1 ?_
  refine R_iadd (dd dt_7_writePaper 22 rfl) ?_
  obtain ⟨μ7, e8, h⟩ := bi_el h
  refine p_7_25 rfl k0 (dd dt_7_writePaper 23 rfl) e8 ?_
  refine R_aload_n (dd dt_7_writePaper 24 rfl) 0 rfl rfl ?_
  refine g_7_25 rfl k0 (dd dt_7_writePaper 25 rfl) ?_
  refine R_iconst (v := 1) (dd dt_7_writePaper 26 rfl) ic_1 ?_
  refine R_isub (dd dt_7_writePaper 27 rfl) ?_
  obtain rfl := Option.some.inj h
  exact R_iret rfl (dd dt_7_writePaper 28 rfl) hQ
/-! LongStrike.paper(I)I -/
def tab_11_paper : List (Nat × Instr × Nat) := [(0, .aload_n 0, 1), (1, .getfield 10, 3), (4, .iload_n 1, 1), (5, .invokevirtual 145, 3), (8, .ifCond .ne 5, 3), (11, .iconst (-1), 1), (12, .ireturn, 1), (13, .aload_n 0, 1), (14, .getfield 10, 3), (17, .getfield 135, 3), (20, .iload_n 1, 1), (21, .aaload, 1), (22, .getfield 185, 3), (25, .ifCond .ne 18, 3), (28, .aload_n 0, 1), (29, .getfield 10, 3), (32, .getfield 135, 3), (35, .iload_n 1, 1), (36, .aaload, 1), (37, .getfield 178, 3), (40, .ifCond .eq 6, 3), (43, .bipush (-4), 2), (45, .ireturn, 1), (46, .aload_n 0, 1), (47, .getfield 10, 3), (50, .getfield 336, 3), (53, .getfield 359, 3), (56, .bipush 12, 2), (58, .if_icmp .lt 6, 3), (61, .bipush (-2), 2), (63, .ireturn, 1), (64, .aload_n 0, 1), (65, .getfield 10, 3), (68, .getfield 336, 3), (71, .iload_n 1, 1), (72, .aload_n 0, 1), (73, .getfield 10, 3), (76, .getfield 87, 3), (79, .invokevirtual 362, 3), (82, .ireturn, 1)]
set_option maxRecDepth 100000 in
theorem dt_11_paper : ∀ q ∈ tab_11_paper, decode m_11_paper.2.1 q.1 = .ok q.2 := by decide +kernel
def f_11_paper (a0 : Nat) (a1 : Int32) (μ : mm) : Option (Int32 × mm) :=
  (f_9_hasHousehold (rf a0 0) a1 μ).bind fun x2 =>
  if x2 = 0 then
    some ((-1), μ)
  else
    (lda (rf (rf a0 0) 10) a1).bind fun r3 =>
    if (μ r3 11) = 0 then
      (lda (rf (rf a0 0) 10) a1).bind fun r5 =>
      if (μ r5 10) = 0 then
        if (μ (rf (rf a0 0) 13) 4) < 12 then
          (f_7_writePaper (rf (rf a0 0) 13) a1 (μ (rf a0 0) 0) μ).bind fun z8 =>
          some (z8.1, z8.2)
        else
          some ((-2), μ)
      else
        some ((-4), μ)
    else
      some ((-4), μ)
set_option maxRecDepth 100000 in
set_option maxHeartbeats 4000000 in
theorem ok_11_paper {l : Launch} {E : ce} {d : Nat}  {a0 : Nat} {a1 : Int32} {μ : mm} {r : Int32 × mm} {Q : Option Value → mm → Prop} (h : f_11_paper a0 a1 μ = some r) (k0 : kd a0 = 11) (hQ : Q (some (.int r.1)) r.2) : Ct l E (d + 2) yX11_paper m_11_paper [.ref a0, .int a1] μ Q := by
  refine Ct_of (lv := [some (.ref a0), some (.int a1)]) (by decide) rfl (Nat.le_of_ble_eq_true rfl) rfl ?_
  unfold f_11_paper at h
  refine R_aload_n (dd dt_11_paper 0 rfl) 0 rfl rfl ?_
  refine g_11_10 rfl k0 (dd dt_11_paper 1 rfl) ?_
  refine R_iload_n (dd dt_11_paper 2 rfl) 1 rfl rfl ?_
  obtain ⟨x2, e1, h⟩ := bi_el h
  refine c_11_145 (As := [.int a1]) (st1 := [.int x2]) rfl (fun Q1 hq => ok_9_hasHousehold e1 (ty_11_0 k0) hq) (ty_11_0 k0) rfl rfl (Nat.le_of_ble_eq_true rfl) (dd dt_11_paper 3 rfl) rfl ?_
  refine R_ifne (dd dt_11_paper 4 rfl) (tgt := 13) rfl (fun hc => ?_) (fun hc => ?_)
  · rw [if_neg hc] at h
    refine R_aload_n (dd dt_11_paper 7 rfl) 0 rfl rfl ?_
    refine g_11_10 rfl k0 (dd dt_11_paper 8 rfl) ?_
    refine g_11_135 rfl (ty_11_0 k0) (dd dt_11_paper 9 rfl) ?_
    refine R_iload_n (dd dt_11_paper 10 rfl) 1 rfl rfl ?_
    obtain ⟨r3, e4, h⟩ := bi_el h
    refine R_aald (t0 := 6) e4 (ty_9_10 (ty_11_0 k0)) (by decide) (by decide) rfl rfl (dd dt_11_paper 11 rfl) ?_
    refine g_11_185 rfl (tl_26 e4 (ty_9_10 (ty_11_0 k0))) (dd dt_11_paper 12 rfl) ?_
    refine R_ifne (dd dt_11_paper 13 rfl) (tgt := 43) rfl (fun hc => ?_) (fun hc => ?_)
    · rw [if_neg hc] at h
      refine R_bipush (v := (-4)) (dd dt_11_paper 21 rfl) bp_m4 ?_
      obtain rfl := Option.some.inj h
      exact R_iret rfl (dd dt_11_paper 22 rfl) hQ
    · rw [if_pos hc] at h
      refine R_aload_n (dd dt_11_paper 14 rfl) 0 rfl rfl ?_
      refine g_11_10 rfl k0 (dd dt_11_paper 15 rfl) ?_
      refine g_11_135 rfl (ty_11_0 k0) (dd dt_11_paper 16 rfl) ?_
      refine R_iload_n (dd dt_11_paper 17 rfl) 1 rfl rfl ?_
      obtain ⟨r5, e6, h⟩ := bi_el h
      refine R_aald (t0 := 6) e6 (ty_9_10 (ty_11_0 k0)) (by decide) (by decide) rfl rfl (dd dt_11_paper 18 rfl) ?_
      refine g_11_178 rfl (tl_26 e6 (ty_9_10 (ty_11_0 k0))) (dd dt_11_paper 19 rfl) ?_
      refine R_ifeq (dd dt_11_paper 20 rfl) (tgt := 46) rfl (fun hc => ?_) (fun hc => ?_)
      · rw [if_pos hc] at h
        refine R_aload_n (dd dt_11_paper 23 rfl) 0 rfl rfl ?_
        refine g_11_10 rfl k0 (dd dt_11_paper 24 rfl) ?_
        refine g_11_336 rfl (ty_11_0 k0) (dd dt_11_paper 25 rfl) ?_
        refine g_11_359 rfl (ty_9_13 (ty_11_0 k0)) (dd dt_11_paper 26 rfl) ?_
        refine R_bipush (v := 12) (dd dt_11_paper 27 rfl) bp_12 ?_
        refine R_cmplt (dd dt_11_paper 28 rfl) (tgt := 64) rfl (fun hc => ?_) (fun hc => ?_)
        · rw [if_pos hc] at h
          refine R_aload_n (dd dt_11_paper 31 rfl) 0 rfl rfl ?_
          refine g_11_10 rfl k0 (dd dt_11_paper 32 rfl) ?_
          refine g_11_336 rfl (ty_11_0 k0) (dd dt_11_paper 33 rfl) ?_
          refine R_iload_n (dd dt_11_paper 34 rfl) 1 rfl rfl ?_
          refine R_aload_n (dd dt_11_paper 35 rfl) 0 rfl rfl ?_
          refine g_11_10 rfl k0 (dd dt_11_paper 36 rfl) ?_
          refine g_11_87 rfl (ty_11_0 k0) (dd dt_11_paper 37 rfl) ?_
          obtain ⟨z8, e7, h⟩ := bi_el h
          refine c_11_362 (As := [.int a1, .int (μ (rf a0 0) 0)]) (st1 := [.int z8.1]) rfl (fun Q1 hq => ok_7_writePaper e7 (ty_9_13 (ty_11_0 k0)) hq) (ty_9_13 (ty_11_0 k0)) rfl rfl (Nat.le_of_ble_eq_true rfl) (dd dt_11_paper 38 rfl) rfl ?_
          obtain rfl := Option.some.inj h
          exact R_iret rfl (dd dt_11_paper 39 rfl) hQ
        · rw [if_neg hc] at h
          refine R_bipush (v := (-2)) (dd dt_11_paper 29 rfl) bp_m2 ?_
          obtain rfl := Option.some.inj h
          exact R_iret rfl (dd dt_11_paper 30 rfl) hQ
      · rw [if_neg hc] at h
        refine R_bipush (v := (-4)) (dd dt_11_paper 21 rfl) bp_m4 ?_
        obtain rfl := Option.some.inj h
        exact R_iret rfl (dd dt_11_paper 22 rfl) hQ
  · rw [if_pos hc] at h
    refine R_iconst (v := (-1)) (dd dt_11_paper 5 rfl) ic_m1 ?_
    obtain rfl := Option.some.inj h
    exact R_iret rfl (dd dt_11_paper 6 rfl) hQ
/-! LongStrike$Household.leaveHome()V -/
def tab_1_leaveHome : List (Nat × Instr × Nat) := [(0, .aload_n 0, 1), (1, .iconst 1, 1), (2, .putfield 44, 3), (5, .aload_n 0, 1), (6, .iconst 0, 1), (7, .putfield 19, 3), (10, .return_, 1)]
set_option maxRecDepth 100000 in
theorem dt_1_leaveHome : ∀ q ∈ tab_1_leaveHome, decode m_1_leaveHome.2.1 q.1 = .ok q.2 := by decide +kernel
def f_1_leaveHome (a0 : Nat) (μ : mm) : Option (mm) :=
  (pf μ a0 11 1).bind fun μ1 =>
  (pf μ1 a0 3 0).bind fun μ3 =>
  some μ3
set_option maxRecDepth 100000 in
set_option maxHeartbeats 4000000 in
theorem ok_1_leaveHome {l : Launch} {E : ce} {d : Nat}  {a0 : Nat} {μ : mm} {r : mm} {Q : Option Value → mm → Prop} (h : f_1_leaveHome a0 μ = some r) (k0 : kd a0 = 1) (hQ : Q none r) : Ct l E d yX1_leaveHome m_1_leaveHome [.ref a0] μ Q := by
  refine Ct_of (lv := [some (.ref a0)]) (by decide) rfl (Nat.le_of_ble_eq_true rfl) rfl ?_
  unfold f_1_leaveHome at h
  refine R_aload_n (dd dt_1_leaveHome 0 rfl) 0 rfl rfl ?_
  refine R_iconst (v := 1) (dd dt_1_leaveHome 1 rfl) ic_1 ?_
  obtain ⟨μ1, e2, h⟩ := bi_el h
  refine p_1_44 rfl k0 (by decide) (dd dt_1_leaveHome 2 rfl) e2 ?_
  refine R_aload_n (dd dt_1_leaveHome 3 rfl) 0 rfl rfl ?_
  refine R_iconst (v := 0) (dd dt_1_leaveHome 4 rfl) ic_0 ?_
  obtain ⟨μ3, e4, h⟩ := bi_el h
  refine p_1_19 rfl k0 (dd dt_1_leaveHome 5 rfl) e4 ?_
  obtain rfl := Option.some.inj h
  exact R_vret rfl (dd dt_1_leaveHome 6 rfl) hQ
/-! LongStrike$Talk.findPaper(III)I -/
def tab_7_findPaper : List (Nat × Instr × Nat) := [(0, .aload_n 0, 1), (1, .getfield 31, 3), (4, .iload_n 1, 1), (5, .iaload, 1), (6, .bipush 7, 2), (8, .iload_n 3, 1), (9, .imul, 1), (10, .iadd, 1), (11, .istore 4, 2), (13, .iload_n 2, 1), (14, .iload 4, 2), (16, .if_icmp .le 10, 3), (19, .aload_n 0, 1), (20, .getfield 34, 3), (23, .iload_n 1, 1), (24, .iconst 1, 1), (25, .bastore, 1), (26, .aload_n 0, 1), (27, .getfield 34, 3), (30, .iload_n 1, 1), (31, .baload, 1), (32, .ifCond .eq 5, 3), (35, .iconst 2, 1), (36, .ireturn, 1), (37, .iload_n 2, 1), (38, .iload 4, 2), (40, .if_icmp .ne 7, 3), (43, .iconst 1, 1), (44, .goto 4, 3), (47, .iconst 0, 1), (48, .ireturn, 1)]
set_option maxRecDepth 100000 in
theorem dt_7_findPaper : ∀ q ∈ tab_7_findPaper, decode m_7_findPaper.2.1 q.1 = .ok q.2 := by decide +kernel
def f_7_findPaper (a0 : Nat) (a1 : Int32) (a2 : Int32) (a3 : Int32) (μ : mm) : Option (Int32 × mm) :=
  (ld μ (rf a0 6) a1).bind fun x1 =>
  (if a2 ≤ (x1 + (7 * a3)) then
      some μ
    else
      (sto μ (rf a0 7) a1 1).bind fun μ3 =>
      some μ3).bind fun (z5 : mm) =>
  (ld z5 (rf a0 7) a1).bind fun x6 =>
  if x6 = 0 then
    if a2 = (x1 + (7 * a3)) then
      some (1, z5)
    else
      some (0, z5)
  else
    some (2, z5)
set_option maxRecDepth 100000 in
set_option maxHeartbeats 4000000 in
theorem ok_7_findPaper {l : Launch} {E : ce} {d : Nat}  {a0 : Nat} {a1 : Int32} {a2 : Int32} {a3 : Int32} {μ : mm} {r : Int32 × mm} {Q : Option Value → mm → Prop} (h : f_7_findPaper a0 a1 a2 a3 μ = some r) (k0 : kd a0 = 7) (hQ : Q (some (.int r.1)) r.2) : Ct l E d yX7_findPaper m_7_findPaper [.ref a0, .int a1, .int a2, .int a3] μ Q := by
  refine Ct_of (lv := [some (.ref a0), some (.int a1), some (.int a2), some (.int a3), none]) (by decide) rfl (Nat.le_of_ble_eq_true rfl) rfl ?_
  unfold f_7_findPaper at h
  refine R_aload_n (dd dt_7_findPaper 0 rfl) 0 rfl rfl ?_
  refine g_7_31 rfl k0 (dd dt_7_findPaper 1 rfl) ?_
  refine R_iload_n (dd dt_7_findPaper 2 rfl) 1 rfl rfl ?_
  obtain ⟨x1, e2, h⟩ := bi_el h
  refine R_ild e2 (ty_7_6 k0) (dd dt_7_findPaper 3 rfl) ?_
  refine R_bipush (v := 7) (dd dt_7_findPaper 4 rfl) bp_7 ?_
  refine R_iload_n (dd dt_7_findPaper 5 rfl) 3 rfl rfl ?_
  refine R_imul (dd dt_7_findPaper 6 rfl) ?_
  refine R_iadd (dd dt_7_findPaper 7 rfl) ?_
  refine R_istore (lv' := [some (.ref a0), some (.int a1), some (.int a2), some (.int a3), some (.int (x1 + (7 * a3)))]) (dd dt_7_findPaper 8 rfl) (by decide) rfl rfl ?_
  refine R_iload_n (dd dt_7_findPaper 9 rfl) 2 rfl rfl ?_
  refine R_iload (dd dt_7_findPaper 10 rfl) rfl ?_
  obtain ⟨z5, hz5, h⟩ := bi_el h
  have K5 : Rj l E d m_7_findPaper 26 [some (.ref a0), some (.int a1), some (.int a2), none, some (.int (x1 + (7 * a3)))] [] z5 Q := by
    clear hz5
    refine R_aload_n (dd dt_7_findPaper 17 rfl) 0 rfl rfl ?_
    refine g_7_34 rfl k0 (dd dt_7_findPaper 18 rfl) ?_
    refine R_iload_n (dd dt_7_findPaper 19 rfl) 1 rfl rfl ?_
    obtain ⟨x6, e7, h⟩ := bi_el h
    refine R_zld e7 (ty_7_7 k0) (dd dt_7_findPaper 20 rfl) ?_
    refine R_ifeq (dd dt_7_findPaper 21 rfl) (tgt := 37) rfl (fun hc => ?_) (fun hc => ?_)
    · rw [if_pos hc] at h
      refine R_iload_n (dd dt_7_findPaper 24 rfl) 2 rfl rfl ?_
      refine R_iload (dd dt_7_findPaper 25 rfl) rfl ?_
      refine R_cmpne (dd dt_7_findPaper 26 rfl) (tgt := 47) rfl (fun hc => ?_) (fun hc => ?_)
      · rw [if_neg hc] at h
        refine R_iconst (v := 0) (dd dt_7_findPaper 29 rfl) ic_0 ?_
        obtain rfl := Option.some.inj h
        exact R_iret rfl (dd dt_7_findPaper 30 rfl) hQ
      · rw [if_pos hc] at h
        refine R_iconst (v := 1) (dd dt_7_findPaper 27 rfl) ic_1 ?_
        refine R_goto (dd dt_7_findPaper 28 rfl) (tgt := 48) rfl ?_
        obtain rfl := Option.some.inj h
        exact R_iret rfl (dd dt_7_findPaper 30 rfl) hQ
    · rw [if_neg hc] at h
      refine R_iconst (v := 2) (dd dt_7_findPaper 22 rfl) ic_2 ?_
      obtain rfl := Option.some.inj h
      exact R_iret rfl (dd dt_7_findPaper 23 rfl) hQ
  clear h
  have h := hz5
  clear hz5
  refine R_cmple (dd dt_7_findPaper 11 rfl) (tgt := 26) rfl (fun hc => ?_) (fun hc => ?_)
  · rw [if_pos hc] at h
    obtain rfl := Option.some.inj h
    exact R_mask [true, true, true, false, true] rfl K5
  · rw [if_neg hc] at h
    refine R_aload_n (dd dt_7_findPaper 12 rfl) 0 rfl rfl ?_
    refine g_7_34 rfl k0 (dd dt_7_findPaper 13 rfl) ?_
    refine R_iload_n (dd dt_7_findPaper 14 rfl) 1 rfl rfl ?_
    refine R_iconst (v := 1) (dd dt_7_findPaper 15 rfl) ic_1 ?_
    obtain ⟨μ3, e4, h⟩ := bi_el h
    refine R_zsto (by decide) e4 (ty_7_7 k0) (dd dt_7_findPaper 16 rfl) ?_
    obtain rfl := Option.some.inj h
    exact R_mask [true, true, true, false, true] rfl K5
/-! LongStrike.evict(I)I -/
def tab_11_evict : List (Nat × Instr × Nat) := [(0, .iload_n 1, 1), (1, .iconst 0, 1), (2, .aload_n 0, 1), (3, .getfield 10, 3), (6, .getfield 336, 3), (9, .getfield 359, 3), (12, .iconst 1, 1), (13, .isub, 1), (14, .invokestatic 83, 3), (17, .ifCond .ne 5, 3), (20, .iconst (-1), 1), (21, .ireturn, 1), (22, .aload_n 0, 1), (23, .getfield 10, 3), (26, .getfield 135, 3), (29, .aload_n 0, 1), (30, .getfield 10, 3), (33, .getfield 336, 3), (36, .getfield 365, 3), (39, .iload_n 1, 1), (40, .iaload, 1), (41, .aaload, 1), (42, .astore_n 2, 1), (43, .aload_n 2, 1), (44, .getfield 185, 3), (47, .ifCond .ne 10, 3), (50, .aload_n 2, 1), (51, .getfield 178, 3), (54, .ifCond .eq 6, 3), (57, .bipush (-4), 2), (59, .ireturn, 1), (60, .aload_n 0, 1), (61, .getfield 10, 3), (64, .getfield 336, 3), (67, .iload_n 1, 1), (68, .aload_n 0, 1), (69, .getfield 10, 3), (72, .getfield 87, 3), (75, .aload_n 0, 1), (76, .getfield 10, 3), (79, .invokevirtual 329, 3), (82, .invokevirtual 368, 3), (85, .istore_n 3, 1), (86, .iload_n 3, 1), (87, .iconst 1, 1), (88, .if_icmp .ne 7, 3), (91, .aload_n 2, 1), (92, .invokevirtual 371, 3), (95, .iload_n 3, 1), (96, .ireturn, 1)]
set_option maxRecDepth 100000 in
theorem dt_11_evict : ∀ q ∈ tab_11_evict, decode m_11_evict.2.1 q.1 = .ok q.2 := by decide +kernel
def f_11_evict (a0 : Nat) (a1 : Int32) (μ : mm) : Option (Int32 × mm) :=
  (f_11_isIn a1 0 ((μ (rf (rf a0 0) 13) 4) - 1) μ).bind fun x2 =>
  if x2 = 0 then
    some ((-1), μ)
  else
    (ld μ (rf (rf (rf a0 0) 13) 5) a1).bind fun x3 =>
    (lda (rf (rf a0 0) 10) x3).bind fun r5 =>
    if (μ r5 11) = 0 then
      if (μ r5 10) = 0 then
        (f_9_evictWeeks (rf a0 0) μ).bind fun x8 =>
        (f_7_findPaper (rf (rf a0 0) 13) a1 (μ (rf a0 0) 0) x8 μ).bind fun z10 =>
        if z10.1 = 1 then
          (f_1_leaveHome r5 z10.2).bind fun μ12 =>
          some (z10.1, μ12)
        else
          some (z10.1, z10.2)
      else
        some ((-4), μ)
    else
      some ((-4), μ)
set_option maxRecDepth 100000 in
set_option maxHeartbeats 4000000 in
theorem ok_11_evict {l : Launch} {E : ce} {d : Nat}  {a0 : Nat} {a1 : Int32} {μ : mm} {r : Int32 × mm} {Q : Option Value → mm → Prop} (h : f_11_evict a0 a1 μ = some r) (k0 : kd a0 = 11) (hQ : Q (some (.int r.1)) r.2) : Ct l E (d + 3) yX11_evict m_11_evict [.ref a0, .int a1] μ Q := by
  refine Ct_of (lv := [some (.ref a0), some (.int a1), none, none]) (by decide) rfl (Nat.le_of_ble_eq_true rfl) rfl ?_
  unfold f_11_evict at h
  refine R_iload_n (dd dt_11_evict 0 rfl) 1 rfl rfl ?_
  refine R_iconst (v := 0) (dd dt_11_evict 1 rfl) ic_0 ?_
  refine R_aload_n (dd dt_11_evict 2 rfl) 0 rfl rfl ?_
  refine g_11_10 rfl k0 (dd dt_11_evict 3 rfl) ?_
  refine g_11_336 rfl (ty_11_0 k0) (dd dt_11_evict 4 rfl) ?_
  refine g_11_359 rfl (ty_9_13 (ty_11_0 k0)) (dd dt_11_evict 5 rfl) ?_
  refine R_iconst (v := 1) (dd dt_11_evict 6 rfl) ic_1 ?_
  refine R_isub (dd dt_11_evict 7 rfl) ?_
  obtain ⟨x2, e1, h⟩ := bi_el h
  refine c_11_83 (As := [.int a1, .int 0, .int ((μ (rf (rf a0 0) 13) 4) - 1)]) (st1 := [.int x2]) rfl (fun Q1 hq => ok_11_isIn e1 hq) rfl rfl (Nat.le_of_ble_eq_true rfl) (dd dt_11_evict 8 rfl) rfl ?_
  refine R_ifne (dd dt_11_evict 9 rfl) (tgt := 22) rfl (fun hc => ?_) (fun hc => ?_)
  · rw [if_neg hc] at h
    refine R_aload_n (dd dt_11_evict 12 rfl) 0 rfl rfl ?_
    refine g_11_10 rfl k0 (dd dt_11_evict 13 rfl) ?_
    refine g_11_135 rfl (ty_11_0 k0) (dd dt_11_evict 14 rfl) ?_
    refine R_aload_n (dd dt_11_evict 15 rfl) 0 rfl rfl ?_
    refine g_11_10 rfl k0 (dd dt_11_evict 16 rfl) ?_
    refine g_11_336 rfl (ty_11_0 k0) (dd dt_11_evict 17 rfl) ?_
    refine g_11_365 rfl (ty_9_13 (ty_11_0 k0)) (dd dt_11_evict 18 rfl) ?_
    refine R_iload_n (dd dt_11_evict 19 rfl) 1 rfl rfl ?_
    obtain ⟨x3, e4, h⟩ := bi_el h
    refine R_ild e4 (ty_7_5 (ty_9_13 (ty_11_0 k0))) (dd dt_11_evict 20 rfl) ?_
    obtain ⟨r5, e6, h⟩ := bi_el h
    refine R_aald (t0 := 6) e6 (ty_9_10 (ty_11_0 k0)) (by decide) (by decide) rfl rfl (dd dt_11_evict 21 rfl) ?_
    refine R_astore_n (lv' := [some (.ref a0), some (.int a1), some (.ref r5), none]) (dd dt_11_evict 22 rfl) 2 rfl (by decide) rfl rfl ?_
    refine R_aload_n (dd dt_11_evict 23 rfl) 2 rfl rfl ?_
    refine g_11_185 rfl (tl_26 e6 (ty_9_10 (ty_11_0 k0))) (dd dt_11_evict 24 rfl) ?_
    refine R_ifne (dd dt_11_evict 25 rfl) (tgt := 57) rfl (fun hc => ?_) (fun hc => ?_)
    · rw [if_neg hc] at h
      refine R_bipush (v := (-4)) (dd dt_11_evict 29 rfl) bp_m4 ?_
      obtain rfl := Option.some.inj h
      exact R_iret rfl (dd dt_11_evict 30 rfl) hQ
    · rw [if_pos hc] at h
      refine R_aload_n (dd dt_11_evict 26 rfl) 2 rfl rfl ?_
      refine g_11_178 rfl (tl_26 e6 (ty_9_10 (ty_11_0 k0))) (dd dt_11_evict 27 rfl) ?_
      refine R_ifeq (dd dt_11_evict 28 rfl) (tgt := 60) rfl (fun hc => ?_) (fun hc => ?_)
      · rw [if_pos hc] at h
        refine R_aload_n (dd dt_11_evict 31 rfl) 0 rfl rfl ?_
        refine g_11_10 rfl k0 (dd dt_11_evict 32 rfl) ?_
        refine g_11_336 rfl (ty_11_0 k0) (dd dt_11_evict 33 rfl) ?_
        refine R_iload_n (dd dt_11_evict 34 rfl) 1 rfl rfl ?_
        refine R_aload_n (dd dt_11_evict 35 rfl) 0 rfl rfl ?_
        refine g_11_10 rfl k0 (dd dt_11_evict 36 rfl) ?_
        refine g_11_87 rfl (ty_11_0 k0) (dd dt_11_evict 37 rfl) ?_
        refine R_aload_n (dd dt_11_evict 38 rfl) 0 rfl rfl ?_
        refine g_11_10 rfl k0 (dd dt_11_evict 39 rfl) ?_
        obtain ⟨x8, e7, h⟩ := bi_el h
        refine c_11_329 (As := []) (st1 := [.int x8, .int (μ (rf a0 0) 0), .int a1, .ref (rf (rf a0 0) 13)]) rfl (fun Q1 hq => ok_9_evictWeeks e7 (ty_11_0 k0) hq) (ty_11_0 k0) rfl rfl (Nat.le_of_ble_eq_true rfl) (dd dt_11_evict 40 rfl) rfl ?_
        obtain ⟨z10, e9, h⟩ := bi_el h
        refine c_11_368 (As := [.int a1, .int (μ (rf a0 0) 0), .int x8]) (st1 := [.int z10.1]) rfl (fun Q1 hq => ok_7_findPaper e9 (ty_9_13 (ty_11_0 k0)) hq) (ty_9_13 (ty_11_0 k0)) rfl rfl (Nat.le_of_ble_eq_true rfl) (dd dt_11_evict 41 rfl) rfl ?_
        refine R_istore_n (lv' := [some (.ref a0), some (.int a1), some (.ref r5), some (.int z10.1)]) (dd dt_11_evict 42 rfl) 3 rfl (by decide) rfl rfl ?_
        refine R_iload_n (dd dt_11_evict 43 rfl) 3 rfl rfl ?_
        refine R_iconst (v := 1) (dd dt_11_evict 44 rfl) ic_1 ?_
        refine R_cmpne (dd dt_11_evict 45 rfl) (tgt := 95) rfl (fun hc => ?_) (fun hc => ?_)
        · rw [if_neg hc] at h
          refine R_iload_n (dd dt_11_evict 48 rfl) 3 rfl rfl ?_
          obtain rfl := Option.some.inj h
          exact R_iret rfl (dd dt_11_evict 49 rfl) hQ
        · rw [if_pos hc] at h
          refine R_aload_n (dd dt_11_evict 46 rfl) 2 rfl rfl ?_
          obtain ⟨μ12, e11, h⟩ := bi_el h
          refine c_11_371 (As := []) (st1 := []) rfl (fun Q1 hq => ok_1_leaveHome e11 (tl_26 e6 (ty_9_10 (ty_11_0 k0))) hq) (tl_26 e6 (ty_9_10 (ty_11_0 k0))) rfl rfl (Nat.le_of_ble_eq_true rfl) (dd dt_11_evict 47 rfl) rfl ?_
          refine R_iload_n (dd dt_11_evict 48 rfl) 3 rfl rfl ?_
          obtain rfl := Option.some.inj h
          exact R_iret rfl (dd dt_11_evict 49 rfl) hQ
      · rw [if_neg hc] at h
        refine R_bipush (v := (-4)) (dd dt_11_evict 29 rfl) bp_m4 ?_
        obtain rfl := Option.some.inj h
        exact R_iret rfl (dd dt_11_evict 30 rfl) hQ
  · rw [if_pos hc] at h
    refine R_iconst (v := (-1)) (dd dt_11_evict 10 rfl) ic_m1 ?_
    obtain rfl := Option.some.inj h
    exact R_iret rfl (dd dt_11_evict 11 rfl) hQ
/-! LongStrike.draws(I)I -/
def tab_11_draws : List (Nat × Instr × Nat) := [(0, .aload_n 0, 1), (1, .getfield 10, 3), (4, .iload_n 1, 1), (5, .invokevirtual 145, 3), (8, .ifCond .ne 5, 3), (11, .iconst (-1), 1), (12, .ireturn, 1), (13, .aload_n 0, 1), (14, .getfield 10, 3), (17, .invokevirtual 374, 3), (20, .pop, 1), (21, .aload_n 0, 1), (22, .getfield 10, 3), (25, .getfield 377, 3), (28, .iload_n 1, 1), (29, .iaload, 1), (30, .ireturn, 1)]
set_option maxRecDepth 100000 in
theorem dt_11_draws : ∀ q ∈ tab_11_draws, decode m_11_draws.2.1 q.1 = .ok q.2 := by decide +kernel
def f_11_draws (a0 : Nat) (a1 : Int32) (μ : mm) : Option (Int32 × mm) :=
  (f_9_hasHousehold (rf a0 0) a1 μ).bind fun x2 =>
  if x2 = 0 then
    some ((-1), μ)
  else
    (f_9_reckonShares (rf a0 0) μ).bind fun z4 =>
    (ld z4.2 (rf (rf a0 0) 16) a1).bind fun x5 =>
    some (x5, z4.2)
set_option maxRecDepth 100000 in
set_option maxHeartbeats 4000000 in
theorem ok_11_draws {l : Launch} {E : ce} {d : Nat}  {a0 : Nat} {a1 : Int32} {μ : mm} {r : Int32 × mm} {Q : Option Value → mm → Prop} (h : f_11_draws a0 a1 μ = some r) (k0 : kd a0 = 11) (hQ : Q (some (.int r.1)) r.2) : Ct l E (d + 5) yX11_draws m_11_draws [.ref a0, .int a1] μ Q := by
  refine Ct_of (lv := [some (.ref a0), some (.int a1)]) (by decide) rfl (Nat.le_of_ble_eq_true rfl) rfl ?_
  unfold f_11_draws at h
  refine R_aload_n (dd dt_11_draws 0 rfl) 0 rfl rfl ?_
  refine g_11_10 rfl k0 (dd dt_11_draws 1 rfl) ?_
  refine R_iload_n (dd dt_11_draws 2 rfl) 1 rfl rfl ?_
  obtain ⟨x2, e1, h⟩ := bi_el h
  refine c_11_145 (As := [.int a1]) (st1 := [.int x2]) rfl (fun Q1 hq => ok_9_hasHousehold e1 (ty_11_0 k0) hq) (ty_11_0 k0) rfl rfl (Nat.le_of_ble_eq_true rfl) (dd dt_11_draws 3 rfl) rfl ?_
  refine R_ifne (dd dt_11_draws 4 rfl) (tgt := 13) rfl (fun hc => ?_) (fun hc => ?_)
  · rw [if_neg hc] at h
    refine R_aload_n (dd dt_11_draws 7 rfl) 0 rfl rfl ?_
    refine g_11_10 rfl k0 (dd dt_11_draws 8 rfl) ?_
    obtain ⟨z4, e3, h⟩ := bi_el h
    refine c_11_374 (As := []) (st1 := [.int z4.1]) rfl (fun Q1 hq => ok_9_reckonShares e3 (ty_11_0 k0) hq) (ty_11_0 k0) rfl rfl (Nat.le_of_ble_eq_true rfl) (dd dt_11_draws 9 rfl) rfl ?_
    refine R_pop (dd dt_11_draws 10 rfl) rfl ?_
    refine R_aload_n (dd dt_11_draws 11 rfl) 0 rfl rfl ?_
    refine g_11_10 rfl k0 (dd dt_11_draws 12 rfl) ?_
    refine g_11_377 rfl (ty_11_0 k0) (dd dt_11_draws 13 rfl) ?_
    refine R_iload_n (dd dt_11_draws 14 rfl) 1 rfl rfl ?_
    obtain ⟨x5, e6, h⟩ := bi_el h
    refine R_ild e6 (ty_9_16 (ty_11_0 k0)) (dd dt_11_draws 15 rfl) ?_
    obtain rfl := Option.some.inj h
    exact R_iret rfl (dd dt_11_draws 16 rfl) hQ
  · rw [if_pos hc] at h
    refine R_iconst (v := (-1)) (dd dt_11_draws 5 rfl) ic_m1 ?_
    obtain rfl := Option.some.inj h
    exact R_iret rfl (dd dt_11_draws 6 rfl) hQ
/-! LongStrike$Valley.leastGift(I)I -/
def tab_9_leastGift : List (Nat × Instr × Nat) := [(0, .iconst 0, 1), (1, .istore_n 2, 1), (2, .iconst 0, 1), (3, .istore_n 3, 1), (4, .iload_n 3, 1), (5, .aload_n 0, 1), (6, .getfield 24, 3), (9, .if_icmp .ge 48, 3), (12, .aload_n 0, 1), (13, .getfield 53, 3), (16, .iload_n 3, 1), (17, .aaload, 1), (18, .getfield 167, 3), (21, .ifCond .ne 30, 3), (24, .aload_n 0, 1), (25, .aload_n 0, 1), (26, .getfield 53, 3), (29, .iload_n 3, 1), (30, .aaload, 1), (31, .invokevirtual 208, 3), (34, .iload_n 1, 1), (35, .if_icmp .gt 16, 3), (38, .iload_n 2, 1), (39, .aload_n 0, 1), (40, .aload_n 0, 1), (41, .getfield 53, 3), (44, .iload_n 3, 1), (45, .aaload, 1), (46, .invokevirtual 211, 3), (49, .iadd, 1), (50, .istore_n 2, 1), (51, .iinc 3 1, 3), (54, .goto (-50), 3), (57, .iconst 0, 1), (58, .iload_n 2, 1), (59, .aload_n 0, 1), (60, .getfield 27, 3), (63, .isub, 1), (64, .invokestatic 214, 3), (67, .ireturn, 1)]
set_option maxRecDepth 100000 in
theorem dt_9_leastGift : ∀ q ∈ tab_9_leastGift, decode m_9_leastGift.2.1 q.1 = .ok q.2 := by decide +kernel
def f_9_leastGift_l4 (a0 : Nat) (a1 : Int32) (μ : mm) : Nat → Int32 → Int32 → Option (Int32)
  | 0, _, _ => none
  | n + 1, v2, v3 => if (μ a0 4) ≤ v3 then
      some v2
    else
      (lda (rf a0 10) v3).bind fun r1 =>
      if (μ r1 10) = 0 then
        (lda (rf a0 10) v3).bind fun r3 =>
        (f_9_rankOf a0 r3 μ).bind fun x6 =>
        if a1 < x6 then
          f_9_leastGift_l4 a0 a1 μ n v2 (v3 + 1)
        else
          (lda (rf a0 10) v3).bind fun r7 =>
          (f_9_ticketOf a0 r7 μ).bind fun x10 =>
          f_9_leastGift_l4 a0 a1 μ n (v2 + x10) (v3 + 1)
      else
        f_9_leastGift_l4 a0 a1 μ n v2 (v3 + 1)
set_option maxRecDepth 100000 in
theorem ok_9_leastGift_l4 {l : Launch} {E : ce} {d : Nat} {Q : Option Value → mm → Prop} (a0 : Nat) (a1 : Int32) (μ : mm) (k0 : kd a0 = 9) : ∀ (n : Nat) (v2 : Int32) (v3 : Int32) (z : Int32), f_9_leastGift_l4 a0 a1 μ n v2 v3 = some z → Rj l E (d + 5) m_9_leastGift 57 [some (.ref a0), none, some (.int z), none] [] μ Q → Rj l E (d + 5) m_9_leastGift 4 [some (.ref a0), some (.int a1), some (.int v2), some (.int v3)] [] μ Q
  | 0, _, _, z, h, _ => by
    rw [f_9_leastGift_l4] at h
    cases h
  | n + 1, v2, v3, z, h, KX => by
    rw [f_9_leastGift_l4] at h
    refine R_iload_n (dd dt_9_leastGift 4 rfl) 3 rfl rfl ?_
    refine R_aload_n (dd dt_9_leastGift 5 rfl) 0 rfl rfl ?_
    refine g_9_24 rfl k0 (dd dt_9_leastGift 6 rfl) ?_
    refine R_cmpge (dd dt_9_leastGift 7 rfl) (tgt := 57) rfl (fun hc => ?_) (fun hc => ?_)
    · rw [if_pos hc] at h
      obtain rfl := Option.some.inj h
      exact R_mask [true, false, true, false] rfl KX
    · rw [if_neg hc] at h
      refine R_aload_n (dd dt_9_leastGift 8 rfl) 0 rfl rfl ?_
      refine g_9_53 rfl k0 (dd dt_9_leastGift 9 rfl) ?_
      refine R_iload_n (dd dt_9_leastGift 10 rfl) 3 rfl rfl ?_
      obtain ⟨r1, e2, h⟩ := bi_el h
      refine R_aald (t0 := 6) e2 (ty_9_10 k0) (by decide) (by decide) rfl rfl (dd dt_9_leastGift 11 rfl) ?_
      refine g_9_167 rfl (tl_26 e2 (ty_9_10 k0)) (dd dt_9_leastGift 12 rfl) ?_
      refine R_ifne (dd dt_9_leastGift 13 rfl) (tgt := 51) rfl (fun hc => ?_) (fun hc => ?_)
      · rw [if_neg hc] at h
        refine R_iinc (v := 1) (lv' := [some (.ref a0), some (.int a1), some (.int v2), some (.int (v3 + 1))]) (dd dt_9_leastGift 31 rfl) (by decide) rfl rfl ic_1 rfl ?_
        refine R_goto (dd dt_9_leastGift 32 rfl) (tgt := 4) rfl ?_
        exact R_mask [true, true, true, true] rfl (ok_9_leastGift_l4 a0 a1 μ k0 n v2 (v3 + 1) _ h KX)
      · rw [if_pos hc] at h
        refine R_aload_n (dd dt_9_leastGift 14 rfl) 0 rfl rfl ?_
        refine R_aload_n (dd dt_9_leastGift 15 rfl) 0 rfl rfl ?_
        refine g_9_53 rfl k0 (dd dt_9_leastGift 16 rfl) ?_
        refine R_iload_n (dd dt_9_leastGift 17 rfl) 3 rfl rfl ?_
        obtain ⟨r3, e4, h⟩ := bi_el h
        refine R_aald (t0 := 6) e4 (ty_9_10 k0) (by decide) (by decide) rfl rfl (dd dt_9_leastGift 18 rfl) ?_
        obtain ⟨x6, e5, h⟩ := bi_el h
        refine c_9_208 (As := [.ref r3]) (st1 := [.int x6]) rfl (fun Q1 hq => ok_9_rankOf e5 k0 (tl_26 e4 (ty_9_10 k0)) hq) k0 rfl rfl (Nat.le_of_ble_eq_true rfl) (dd dt_9_leastGift 19 rfl) rfl ?_
        refine R_iload_n (dd dt_9_leastGift 20 rfl) 1 rfl rfl ?_
        refine R_cmpgt (dd dt_9_leastGift 21 rfl) (tgt := 51) rfl (fun hc => ?_) (fun hc => ?_)
        · rw [if_pos hc] at h
          refine R_iinc (v := 1) (lv' := [some (.ref a0), some (.int a1), some (.int v2), some (.int (v3 + 1))]) (dd dt_9_leastGift 31 rfl) (by decide) rfl rfl ic_1 rfl ?_
          refine R_goto (dd dt_9_leastGift 32 rfl) (tgt := 4) rfl ?_
          exact R_mask [true, true, true, true] rfl (ok_9_leastGift_l4 a0 a1 μ k0 n v2 (v3 + 1) _ h KX)
        · rw [if_neg hc] at h
          refine R_iload_n (dd dt_9_leastGift 22 rfl) 2 rfl rfl ?_
          refine R_aload_n (dd dt_9_leastGift 23 rfl) 0 rfl rfl ?_
          refine R_aload_n (dd dt_9_leastGift 24 rfl) 0 rfl rfl ?_
          refine g_9_53 rfl k0 (dd dt_9_leastGift 25 rfl) ?_
          refine R_iload_n (dd dt_9_leastGift 26 rfl) 3 rfl rfl ?_
          obtain ⟨r7, e8, h⟩ := bi_el h
          refine R_aald (t0 := 6) e8 (ty_9_10 k0) (by decide) (by decide) rfl rfl (dd dt_9_leastGift 27 rfl) ?_
          obtain ⟨x10, e9, h⟩ := bi_el h
          refine c_9_211 (As := [.ref r7]) (st1 := [.int x10, .int v2]) rfl (fun Q1 hq => ok_9_ticketOf e9 k0 (tl_26 e8 (ty_9_10 k0)) hq) k0 rfl rfl (Nat.le_of_ble_eq_true rfl) (dd dt_9_leastGift 28 rfl) rfl ?_
          refine R_iadd (dd dt_9_leastGift 29 rfl) ?_
          refine R_istore_n (lv' := [some (.ref a0), some (.int a1), some (.int (v2 + x10)), some (.int v3)]) (dd dt_9_leastGift 30 rfl) 2 rfl (by decide) rfl rfl ?_
          refine R_iinc (v := 1) (lv' := [some (.ref a0), some (.int a1), some (.int (v2 + x10)), some (.int (v3 + 1))]) (dd dt_9_leastGift 31 rfl) (by decide) rfl rfl ic_1 rfl ?_
          refine R_goto (dd dt_9_leastGift 32 rfl) (tgt := 4) rfl ?_
          exact R_mask [true, true, true, true] rfl (ok_9_leastGift_l4 a0 a1 μ k0 n (v2 + x10) (v3 + 1) _ h KX)
def f_9_leastGift (a0 : Nat) (a1 : Int32) (μ : mm) : Option (Int32) :=
  (f_9_leastGift_l4 a0 a1 μ FU 0 0).bind fun z1 =>
  some (mx 0 (z1 - (μ a0 5)))
set_option maxRecDepth 100000 in
set_option maxHeartbeats 4000000 in
theorem ok_9_leastGift {l : Launch} {E : ce} {d : Nat}  {a0 : Nat} {a1 : Int32} {μ : mm} {r : Int32} {Q : Option Value → mm → Prop} (h : f_9_leastGift a0 a1 μ = some r) (k0 : kd a0 = 9) (hQ : Q (some (.int r)) μ) : Ct l E (d + 5) yX9_leastGift m_9_leastGift [.ref a0, .int a1] μ Q := by
  refine Ct_of (lv := [some (.ref a0), some (.int a1), none, none]) (by decide) rfl (Nat.le_of_ble_eq_true rfl) rfl ?_
  unfold f_9_leastGift at h
  refine R_iconst (v := 0) (dd dt_9_leastGift 0 rfl) ic_0 ?_
  refine R_istore_n (lv' := [some (.ref a0), some (.int a1), some (.int 0), none]) (dd dt_9_leastGift 1 rfl) 2 rfl (by decide) rfl rfl ?_
  refine R_iconst (v := 0) (dd dt_9_leastGift 2 rfl) ic_0 ?_
  refine R_istore_n (lv' := [some (.ref a0), some (.int a1), some (.int 0), some (.int 0)]) (dd dt_9_leastGift 3 rfl) 3 rfl (by decide) rfl rfl ?_
  obtain ⟨z1, e2, h⟩ := bi_el h
  refine R_mask [true, true, true, true] rfl (ok_9_leastGift_l4 a0 a1 μ k0 FU 0 0 _ e2 ?_)
  refine R_iconst (v := 0) (dd dt_9_leastGift 33 rfl) ic_0 ?_
  refine R_iload_n (dd dt_9_leastGift 34 rfl) 2 rfl rfl ?_
  refine R_aload_n (dd dt_9_leastGift 35 rfl) 0 rfl rfl ?_
  refine g_9_27 rfl k0 (dd dt_9_leastGift 36 rfl) ?_
  refine R_isub (dd dt_9_leastGift 37 rfl) ?_
  refine R_mmax ml_9_214 (Nat.le_of_ble_eq_true rfl) (dd dt_9_leastGift 38 rfl) ?_
  obtain rfl := Option.some.inj h
  exact R_iret rfl (dd dt_9_leastGift 39 rfl) hQ
/-! LongStrike.least(I)I -/
def tab_11_least : List (Nat × Instr × Nat) := [(0, .iload_n 1, 1), (1, .iconst 0, 1), (2, .bipush 9, 2), (4, .invokestatic 83, 3), (7, .ifCond .eq 14, 3), (10, .aload_n 0, 1), (11, .getfield 10, 3), (14, .iload_n 1, 1), (15, .invokevirtual 380, 3), (18, .goto 4, 3), (21, .iconst (-1), 1), (22, .ireturn, 1)]
set_option maxRecDepth 100000 in
theorem dt_11_least : ∀ q ∈ tab_11_least, decode m_11_least.2.1 q.1 = .ok q.2 := by decide +kernel
def f_11_least (a0 : Nat) (a1 : Int32) (μ : mm) : Option (Int32) :=
  (f_11_isIn a1 0 9 μ).bind fun x2 =>
  if x2 = 0 then
    some (-1)
  else
    (f_9_leastGift (rf a0 0) a1 μ).bind fun x4 =>
    some x4
set_option maxRecDepth 100000 in
set_option maxHeartbeats 4000000 in
theorem ok_11_least {l : Launch} {E : ce} {d : Nat}  {a0 : Nat} {a1 : Int32} {μ : mm} {r : Int32} {Q : Option Value → mm → Prop} (h : f_11_least a0 a1 μ = some r) (k0 : kd a0 = 11) (hQ : Q (some (.int r)) μ) : Ct l E (d + 6) yX11_least m_11_least [.ref a0, .int a1] μ Q := by
  refine Ct_of (lv := [some (.ref a0), some (.int a1)]) (by decide) rfl (Nat.le_of_ble_eq_true rfl) rfl ?_
  unfold f_11_least at h
  refine R_iload_n (dd dt_11_least 0 rfl) 1 rfl rfl ?_
  refine R_iconst (v := 0) (dd dt_11_least 1 rfl) ic_0 ?_
  refine R_bipush (v := 9) (dd dt_11_least 2 rfl) bp_9 ?_
  obtain ⟨x2, e1, h⟩ := bi_el h
  refine c_11_83 (As := [.int a1, .int 0, .int 9]) (st1 := [.int x2]) rfl (fun Q1 hq => ok_11_isIn e1 hq) rfl rfl (Nat.le_of_ble_eq_true rfl) (dd dt_11_least 3 rfl) rfl ?_
  refine R_ifeq (dd dt_11_least 4 rfl) (tgt := 21) rfl (fun hc => ?_) (fun hc => ?_)
  · rw [if_pos hc] at h
    refine R_iconst (v := (-1)) (dd dt_11_least 10 rfl) ic_m1 ?_
    obtain rfl := Option.some.inj h
    exact R_iret rfl (dd dt_11_least 11 rfl) hQ
  · rw [if_neg hc] at h
    refine R_aload_n (dd dt_11_least 5 rfl) 0 rfl rfl ?_
    refine g_11_10 rfl k0 (dd dt_11_least 6 rfl) ?_
    refine R_iload_n (dd dt_11_least 7 rfl) 1 rfl rfl ?_
    obtain ⟨x4, e3, h⟩ := bi_el h
    refine c_11_380 (As := [.int a1]) (st1 := [.int x4]) rfl (fun Q1 hq => ok_9_leastGift e3 (ty_11_0 k0) hq) (ty_11_0 k0) rfl rfl (Nat.le_of_ble_eq_true rfl) (dd dt_11_least 8 rfl) rfl ?_
    refine R_goto (dd dt_11_least 9 rfl) (tgt := 22) rfl ?_
    obtain rfl := Option.some.inj h
    exact R_iret rfl (dd dt_11_least 11 rfl) hQ
/-! LongStrike$Valley.backCount()I -/
def tab_9_backCount : List (Nat × Instr × Nat) := [(0, .iconst 0, 1), (1, .istore_n 1, 1), (2, .iconst 0, 1), (3, .istore_n 2, 1), (4, .iload_n 2, 1), (5, .aload_n 0, 1), (6, .getfield 24, 3), (9, .if_icmp .ge 24, 3), (12, .aload_n 0, 1), (13, .getfield 53, 3), (16, .iload_n 2, 1), (17, .aaload, 1), (18, .getfield 167, 3), (21, .ifCond .eq 6, 3), (24, .iinc 1 1, 3), (27, .iinc 2 1, 3), (30, .goto (-26), 3), (33, .iload_n 1, 1), (34, .ireturn, 1)]
set_option maxRecDepth 100000 in
theorem dt_9_backCount : ∀ q ∈ tab_9_backCount, decode m_9_backCount.2.1 q.1 = .ok q.2 := by decide +kernel
def f_9_backCount_l4 (a0 : Nat) (μ : mm) : Nat → Int32 → Int32 → Option (Int32)
  | 0, _, _ => none
  | n + 1, v1, v2 => if (μ a0 4) ≤ v2 then
      some v1
    else
      (lda (rf a0 10) v2).bind fun r1 =>
      if (μ r1 10) = 0 then
        f_9_backCount_l4 a0 μ n v1 (v2 + 1)
      else
        f_9_backCount_l4 a0 μ n (v1 + 1) (v2 + 1)
set_option maxRecDepth 100000 in
theorem ok_9_backCount_l4 {l : Launch} {E : ce} {d : Nat} {Q : Option Value → mm → Prop} (a0 : Nat) (μ : mm) (k0 : kd a0 = 9) : ∀ (n : Nat) (v1 : Int32) (v2 : Int32) (z : Int32), f_9_backCount_l4 a0 μ n v1 v2 = some z → Rj l E d m_9_backCount 33 [none, some (.int z), none] [] μ Q → Rj l E d m_9_backCount 4 [some (.ref a0), some (.int v1), some (.int v2)] [] μ Q
  | 0, _, _, z, h, _ => by
    rw [f_9_backCount_l4] at h
    cases h
  | n + 1, v1, v2, z, h, KX => by
    rw [f_9_backCount_l4] at h
    refine R_iload_n (dd dt_9_backCount 4 rfl) 2 rfl rfl ?_
    refine R_aload_n (dd dt_9_backCount 5 rfl) 0 rfl rfl ?_
    refine g_9_24 rfl k0 (dd dt_9_backCount 6 rfl) ?_
    refine R_cmpge (dd dt_9_backCount 7 rfl) (tgt := 33) rfl (fun hc => ?_) (fun hc => ?_)
    · rw [if_pos hc] at h
      obtain rfl := Option.some.inj h
      exact R_mask [false, true, false] rfl KX
    · rw [if_neg hc] at h
      refine R_aload_n (dd dt_9_backCount 8 rfl) 0 rfl rfl ?_
      refine g_9_53 rfl k0 (dd dt_9_backCount 9 rfl) ?_
      refine R_iload_n (dd dt_9_backCount 10 rfl) 2 rfl rfl ?_
      obtain ⟨r1, e2, h⟩ := bi_el h
      refine R_aald (t0 := 6) e2 (ty_9_10 k0) (by decide) (by decide) rfl rfl (dd dt_9_backCount 11 rfl) ?_
      refine g_9_167 rfl (tl_26 e2 (ty_9_10 k0)) (dd dt_9_backCount 12 rfl) ?_
      refine R_ifeq (dd dt_9_backCount 13 rfl) (tgt := 27) rfl (fun hc => ?_) (fun hc => ?_)
      · rw [if_pos hc] at h
        refine R_iinc (v := 1) (lv' := [some (.ref a0), some (.int v1), some (.int (v2 + 1))]) (dd dt_9_backCount 15 rfl) (by decide) rfl rfl ic_1 rfl ?_
        refine R_goto (dd dt_9_backCount 16 rfl) (tgt := 4) rfl ?_
        exact R_mask [true, true, true] rfl (ok_9_backCount_l4 a0 μ k0 n v1 (v2 + 1) _ h KX)
      · rw [if_neg hc] at h
        refine R_iinc (v := 1) (lv' := [some (.ref a0), some (.int (v1 + 1)), some (.int v2)]) (dd dt_9_backCount 14 rfl) (by decide) rfl rfl ic_1 rfl ?_
        refine R_iinc (v := 1) (lv' := [some (.ref a0), some (.int (v1 + 1)), some (.int (v2 + 1))]) (dd dt_9_backCount 15 rfl) (by decide) rfl rfl ic_1 rfl ?_
        refine R_goto (dd dt_9_backCount 16 rfl) (tgt := 4) rfl ?_
        exact R_mask [true, true, true] rfl (ok_9_backCount_l4 a0 μ k0 n (v1 + 1) (v2 + 1) _ h KX)
def f_9_backCount (a0 : Nat) (μ : mm) : Option (Int32) :=
  (f_9_backCount_l4 a0 μ FU 0 0).bind fun z1 =>
  some z1
set_option maxRecDepth 100000 in
set_option maxHeartbeats 4000000 in
theorem ok_9_backCount {l : Launch} {E : ce} {d : Nat}  {a0 : Nat} {μ : mm} {r : Int32} {Q : Option Value → mm → Prop} (h : f_9_backCount a0 μ = some r) (k0 : kd a0 = 9) (hQ : Q (some (.int r)) μ) : Ct l E d yX9_backCount m_9_backCount [.ref a0] μ Q := by
  refine Ct_of (lv := [some (.ref a0), none, none]) (by decide) rfl (Nat.le_of_ble_eq_true rfl) rfl ?_
  unfold f_9_backCount at h
  refine R_iconst (v := 0) (dd dt_9_backCount 0 rfl) ic_0 ?_
  refine R_istore_n (lv' := [some (.ref a0), some (.int 0), none]) (dd dt_9_backCount 1 rfl) 1 rfl (by decide) rfl rfl ?_
  refine R_iconst (v := 0) (dd dt_9_backCount 2 rfl) ic_0 ?_
  refine R_istore_n (lv' := [some (.ref a0), some (.int 0), some (.int 0)]) (dd dt_9_backCount 3 rfl) 2 rfl (by decide) rfl rfl ?_
  obtain ⟨z1, e2, h⟩ := bi_el h
  refine R_mask [true, true, true] rfl (ok_9_backCount_l4 a0 μ k0 FU 0 0 _ e2 ?_)
  refine R_iload_n (dd dt_9_backCount 17 rfl) 1 rfl rfl ?_
  obtain rfl := Option.some.inj h
  exact R_iret rfl (dd dt_9_backCount 18 rfl) hQ
/-! LongStrike$Valley.holdOut(I)I -/
def tab_9_holdOut : List (Nat × Instr × Nat) := [(0, .aload_n 0, 1), (1, .iload_n 1, 1), (2, .putfield 27, 3), (5, .iconst 0, 1), (6, .istore_n 2, 1), (7, .iload_n 2, 1), (8, .bipush 120, 2), (10, .if_icmp .ge 70, 3), (13, .iconst 2, 1), (14, .aload_n 0, 1), (15, .getfield 24, 3), (18, .aload_n 0, 1), (19, .invokevirtual 192, 3), (22, .isub, 1), (23, .imul, 1), (24, .aload_n 0, 1), (25, .getfield 24, 3), (28, .if_icmp .ge 5, 3), (31, .iload_n 2, 1), (32, .ireturn, 1), (33, .aload_n 0, 1), (34, .dup, 1), (35, .getfield 9, 3), (38, .iconst 1, 1), (39, .iadd, 1), (40, .putfield 9, 3), (43, .aload_n 0, 1), (44, .invokevirtual 177, 3), (47, .iconst 0, 1), (48, .istore_n 3, 1), (49, .iload_n 3, 1), (50, .aload_n 0, 1), (51, .getfield 24, 3), (54, .if_icmp .ge 20, 3), (57, .aload_n 0, 1), (58, .aload_n 0, 1), (59, .getfield 53, 3), (62, .iload_n 3, 1), (63, .aaload, 1), (64, .iconst 0, 1), (65, .invokevirtual 184, 3), (68, .iinc 3 1, 3), (71, .goto (-22), 3), (74, .iinc 2 1, 3), (77, .goto (-70), 3), (80, .bipush 120, 2), (82, .ireturn, 1)]
set_option maxRecDepth 100000 in
theorem dt_9_holdOut : ∀ q ∈ tab_9_holdOut, decode m_9_holdOut.2.1 q.1 = .ok q.2 := by decide +kernel
def f_9_holdOut_l49 (a0 : Nat) (a2 : Int32) : Nat → Int32 → mm → Option (mm)
  | 0, _, _ => none
  | n + 1, v3, μ => if (μ a0 4) ≤ v3 then
      some μ
    else
      (lda (rf a0 10) v3).bind fun r1 =>
      (f_9_liveOn a0 r1 0 μ).bind fun μ4 =>
      f_9_holdOut_l49 a0 a2 n (v3 + 1) μ4
set_option maxRecDepth 100000 in
theorem ok_9_holdOut_l49 {l : Launch} {E : ce} {d : Nat} {Q : Option Value → mm → Prop} (a0 : Nat) (a2 : Int32) (k0 : kd a0 = 9) : ∀ (n : Nat) (v3 : Int32) (μ : mm) (z : mm), f_9_holdOut_l49 a0 a2 n v3 μ = some z → Rj l E (d + 6) m_9_holdOut 74 [some (.ref a0), none, some (.int a2), none] [] z Q → Rj l E (d + 6) m_9_holdOut 49 [some (.ref a0), none, some (.int a2), some (.int v3)] [] μ Q
  | 0, _, _, z, h, _ => by
    rw [f_9_holdOut_l49] at h
    cases h
  | n + 1, v3, μ, z, h, KX => by
    rw [f_9_holdOut_l49] at h
    refine R_iload_n (dd dt_9_holdOut 30 rfl) 3 rfl rfl ?_
    refine R_aload_n (dd dt_9_holdOut 31 rfl) 0 rfl rfl ?_
    refine g_9_24 rfl k0 (dd dt_9_holdOut 32 rfl) ?_
    refine R_cmpge (dd dt_9_holdOut 33 rfl) (tgt := 74) rfl (fun hc => ?_) (fun hc => ?_)
    · rw [if_pos hc] at h
      obtain rfl := Option.some.inj h
      exact R_mask [true, false, true, false] rfl KX
    · rw [if_neg hc] at h
      refine R_aload_n (dd dt_9_holdOut 34 rfl) 0 rfl rfl ?_
      refine R_aload_n (dd dt_9_holdOut 35 rfl) 0 rfl rfl ?_
      refine g_9_53 rfl k0 (dd dt_9_holdOut 36 rfl) ?_
      refine R_iload_n (dd dt_9_holdOut 37 rfl) 3 rfl rfl ?_
      obtain ⟨r1, e2, h⟩ := bi_el h
      refine R_aald (t0 := 6) e2 (ty_9_10 k0) (by decide) (by decide) rfl rfl (dd dt_9_holdOut 38 rfl) ?_
      refine R_iconst (v := 0) (dd dt_9_holdOut 39 rfl) ic_0 ?_
      obtain ⟨μ4, e3, h⟩ := bi_el h
      refine c_9_184 (As := [.ref r1, .int 0]) (st1 := []) rfl (fun Q1 hq => ok_9_liveOn e3 k0 (tl_26 e2 (ty_9_10 k0)) hq) k0 rfl rfl (Nat.le_of_ble_eq_true rfl) (dd dt_9_holdOut 40 rfl) rfl ?_
      refine R_iinc (v := 1) (lv' := [some (.ref a0), none, some (.int a2), some (.int (v3 + 1))]) (dd dt_9_holdOut 41 rfl) (by decide) rfl rfl ic_1 rfl ?_
      refine R_goto (dd dt_9_holdOut 42 rfl) (tgt := 49) rfl ?_
      exact R_mask [true, false, true, true] rfl (ok_9_holdOut_l49 a0 a2 k0 n (v3 + 1) μ4 _ h KX)
def f_9_holdOut_l7 (a0 : Nat) : Nat → Int32 → mm → Option (Int32 × mm)
  | 0, _, _ => none
  | n + 1, v2, μ => if 120 ≤ v2 then
      some (120, μ)
    else
      (f_9_backCount a0 μ).bind fun x2 =>
      if (μ a0 4) ≤ (2 * ((μ a0 4) - x2)) then
        (pf μ a0 0 ((μ a0 0) + 1)).bind fun μ3 =>
        (f_9_shareIfDue a0 μ3).bind fun μ6 =>
        (f_9_holdOut_l49 a0 v2 FU 0 μ6).bind fun z7 =>
        f_9_holdOut_l7 a0 n (v2 + 1) z7
      else
        some (v2, μ)
set_option maxRecDepth 100000 in
theorem ok_9_holdOut_l7 {l : Launch} {E : ce} {d : Nat} {Q : Option Value → mm → Prop} (a0 : Nat) (k0 : kd a0 = 9) : ∀ (n : Nat) (v2 : Int32) (μ : mm) (r : Int32 × mm), f_9_holdOut_l7 a0 n v2 μ = some r → Q (some (.int r.1)) r.2 → Rj l E (d + 6) m_9_holdOut 7 [some (.ref a0), none, some (.int v2), none] [] μ Q
  | 0, _, _, z, h, _ => by
    rw [f_9_holdOut_l7] at h
    cases h
  | n + 1, v2, μ, r, h, hQ => by
    rw [f_9_holdOut_l7] at h
    refine R_iload_n (dd dt_9_holdOut 5 rfl) 2 rfl rfl ?_
    refine R_bipush (v := 120) (dd dt_9_holdOut 6 rfl) bp_120 ?_
    refine R_cmpge (dd dt_9_holdOut 7 rfl) (tgt := 80) rfl (fun hc => ?_) (fun hc => ?_)
    · rw [if_pos hc] at h
      refine R_bipush (v := 120) (dd dt_9_holdOut 45 rfl) bp_120 ?_
      obtain rfl := Option.some.inj h
      exact R_iret rfl (dd dt_9_holdOut 46 rfl) hQ
    · rw [if_neg hc] at h
      refine R_iconst (v := 2) (dd dt_9_holdOut 8 rfl) ic_2 ?_
      refine R_aload_n (dd dt_9_holdOut 9 rfl) 0 rfl rfl ?_
      refine g_9_24 rfl k0 (dd dt_9_holdOut 10 rfl) ?_
      refine R_aload_n (dd dt_9_holdOut 11 rfl) 0 rfl rfl ?_
      obtain ⟨x2, e1, h⟩ := bi_el h
      refine c_9_192 (As := []) (st1 := [.int x2, .int (μ a0 4), .int 2]) rfl (fun Q1 hq => ok_9_backCount e1 k0 hq) k0 rfl rfl (Nat.le_of_ble_eq_true rfl) (dd dt_9_holdOut 12 rfl) rfl ?_
      refine R_isub (dd dt_9_holdOut 13 rfl) ?_
      refine R_imul (dd dt_9_holdOut 14 rfl) ?_
      refine R_aload_n (dd dt_9_holdOut 15 rfl) 0 rfl rfl ?_
      refine g_9_24 rfl k0 (dd dt_9_holdOut 16 rfl) ?_
      refine R_cmpge (dd dt_9_holdOut 17 rfl) (tgt := 33) rfl (fun hc => ?_) (fun hc => ?_)
      · rw [if_pos hc] at h
        refine R_aload_n (dd dt_9_holdOut 20 rfl) 0 rfl rfl ?_
        refine R_dup (dd dt_9_holdOut 21 rfl) rfl ?_
        refine g_9_9 rfl k0 (dd dt_9_holdOut 22 rfl) ?_
        refine R_iconst (v := 1) (dd dt_9_holdOut 23 rfl) ic_1 ?_
        refine R_iadd (dd dt_9_holdOut 24 rfl) ?_
        obtain ⟨μ3, e4, h⟩ := bi_el h
        refine p_9_9 rfl k0 (dd dt_9_holdOut 25 rfl) e4 ?_
        refine R_aload_n (dd dt_9_holdOut 26 rfl) 0 rfl rfl ?_
        obtain ⟨μ6, e5, h⟩ := bi_el h
        refine c_9_177 (As := []) (st1 := []) rfl (fun Q1 hq => ok_9_shareIfDue e5 k0 hq) k0 rfl rfl (Nat.le_of_ble_eq_true rfl) (dd dt_9_holdOut 27 rfl) rfl ?_
        refine R_iconst (v := 0) (dd dt_9_holdOut 28 rfl) ic_0 ?_
        refine R_istore_n (lv' := [some (.ref a0), none, some (.int v2), some (.int 0)]) (dd dt_9_holdOut 29 rfl) 3 rfl (by decide) rfl rfl ?_
        obtain ⟨z7, e8, h⟩ := bi_el h
        refine R_mask [true, false, true, true] rfl (ok_9_holdOut_l49 a0 v2 k0 FU 0 μ6 _ e8 ?_)
        refine R_iinc (v := 1) (lv' := [some (.ref a0), none, some (.int (v2 + 1)), none]) (dd dt_9_holdOut 43 rfl) (by decide) rfl rfl ic_1 rfl ?_
        refine R_goto (dd dt_9_holdOut 44 rfl) (tgt := 7) rfl ?_
        exact R_mask [true, false, true, false] rfl (ok_9_holdOut_l7 a0 k0 n (v2 + 1) z7 _ h hQ)
      · rw [if_neg hc] at h
        refine R_iload_n (dd dt_9_holdOut 18 rfl) 2 rfl rfl ?_
        obtain rfl := Option.some.inj h
        exact R_iret rfl (dd dt_9_holdOut 19 rfl) hQ
def f_9_holdOut (a0 : Nat) (a1 : Int32) (μ : mm) : Option (Int32 × mm) :=
  (pf μ a0 5 a1).bind fun μ1 =>
  f_9_holdOut_l7 a0 FU 0 μ1
set_option maxRecDepth 100000 in
set_option maxHeartbeats 4000000 in
theorem ok_9_holdOut {l : Launch} {E : ce} {d : Nat}  {a0 : Nat} {a1 : Int32} {μ : mm} {r : Int32 × mm} {Q : Option Value → mm → Prop} (h : f_9_holdOut a0 a1 μ = some r) (k0 : kd a0 = 9) (hQ : Q (some (.int r.1)) r.2) : Ct l E (d + 6) yX9_holdOut m_9_holdOut [.ref a0, .int a1] μ Q := by
  refine Ct_of (lv := [some (.ref a0), some (.int a1), none, none]) (by decide) rfl (Nat.le_of_ble_eq_true rfl) rfl ?_
  unfold f_9_holdOut at h
  refine R_aload_n (dd dt_9_holdOut 0 rfl) 0 rfl rfl ?_
  refine R_iload_n (dd dt_9_holdOut 1 rfl) 1 rfl rfl ?_
  obtain ⟨μ1, e2, h⟩ := bi_el h
  refine p_9_27 rfl k0 (dd dt_9_holdOut 2 rfl) e2 ?_
  refine R_iconst (v := 0) (dd dt_9_holdOut 3 rfl) ic_0 ?_
  refine R_istore_n (lv' := [some (.ref a0), some (.int a1), some (.int 0), none]) (dd dt_9_holdOut 4 rfl) 2 rfl (by decide) rfl rfl ?_
  exact R_mask [true, false, true, false] rfl (ok_9_holdOut_l7 a0 k0 FU 0 μ1 _ h hQ)
/-! LongStrike$Household.takeFrom(LLongStrike$Household;)V -/
def tab_1_takeFrom : List (Nat × Instr × Nat) := [(0, .aload_n 0, 1), (1, .aload_n 1, 1), (2, .getfield 7, 3), (5, .putfield 7, 3), (8, .aload_n 0, 1), (9, .aload_n 1, 1), (10, .getfield 13, 3), (13, .putfield 13, 3), (16, .aload_n 0, 1), (17, .aload_n 1, 1), (18, .getfield 16, 3), (21, .putfield 16, 3), (24, .aload_n 0, 1), (25, .aload_n 1, 1), (26, .getfield 19, 3), (29, .putfield 19, 3), (32, .aload_n 0, 1), (33, .aload_n 1, 1), (34, .getfield 22, 3), (37, .putfield 22, 3), (40, .aload_n 0, 1), (41, .aload_n 1, 1), (42, .getfield 25, 3), (45, .putfield 25, 3), (48, .aload_n 0, 1), (49, .aload_n 1, 1), (50, .getfield 28, 3), (53, .putfield 28, 3), (56, .aload_n 0, 1), (57, .aload_n 1, 1), (58, .getfield 31, 3), (61, .putfield 31, 3), (64, .aload_n 0, 1), (65, .aload_n 1, 1), (66, .getfield 34, 3), (69, .putfield 34, 3), (72, .aload_n 0, 1), (73, .aload_n 1, 1), (74, .getfield 37, 3), (77, .putfield 37, 3), (80, .aload_n 0, 1), (81, .aload_n 1, 1), (82, .getfield 40, 3), (85, .putfield 40, 3), (88, .aload_n 0, 1), (89, .aload_n 1, 1), (90, .getfield 44, 3), (93, .putfield 44, 3), (96, .return_, 1)]
set_option maxRecDepth 100000 in
theorem dt_1_takeFrom : ∀ q ∈ tab_1_takeFrom, decode m_1_takeFrom.2.1 q.1 = .ok q.2 := by decide +kernel
def f_1_takeFrom (a0 : Nat) (a1 : Nat) (μ : mm) : Option (mm) :=
  (pf μ a0 0 (μ a1 0)).bind fun μ1 =>
  (pf μ1 a0 1 (μ1 a1 1)).bind fun μ3 =>
  (pf μ3 a0 2 (μ3 a1 2)).bind fun μ5 =>
  (pf μ5 a0 3 (μ5 a1 3)).bind fun μ7 =>
  (pf μ7 a0 4 (μ7 a1 4)).bind fun μ9 =>
  (pf μ9 a0 5 (μ9 a1 5)).bind fun μ11 =>
  (pf μ11 a0 6 (μ11 a1 6)).bind fun μ13 =>
  (pf μ13 a0 7 (μ13 a1 7)).bind fun μ15 =>
  (pf μ15 a0 8 (μ15 a1 8)).bind fun μ17 =>
  (pf μ17 a0 9 (μ17 a1 9)).bind fun μ19 =>
  (gb (μ19 a1 10)).bind fun _ =>
  (pf μ19 a0 10 (μ19 a1 10)).bind fun μ21 =>
  (gb (μ21 a1 11)).bind fun _ =>
  (pf μ21 a0 11 (μ21 a1 11)).bind fun μ24 =>
  some μ24
set_option maxRecDepth 100000 in
set_option maxHeartbeats 4000000 in
theorem ok_1_takeFrom {l : Launch} {E : ce} {d : Nat}  {a0 : Nat} {a1 : Nat} {μ : mm} {r : mm} {Q : Option Value → mm → Prop} (h : f_1_takeFrom a0 a1 μ = some r) (k0 : kd a0 = 1) (k1 : kd a1 = 1) (hQ : Q none r) : Ct l E d yX1_takeFrom m_1_takeFrom [.ref a0, .ref a1] μ Q := by
  refine Ct_of (lv := [some (.ref a0), some (.ref a1)]) (by decide) rfl (Nat.le_of_ble_eq_true rfl) rfl ?_
  unfold f_1_takeFrom at h
  refine R_aload_n (dd dt_1_takeFrom 0 rfl) 0 rfl rfl ?_
  refine R_aload_n (dd dt_1_takeFrom 1 rfl) 1 rfl rfl ?_
  refine g_1_7 rfl k1 (dd dt_1_takeFrom 2 rfl) ?_
  obtain ⟨μ1, e2, h⟩ := bi_el h
  refine p_1_7 rfl k0 (dd dt_1_takeFrom 3 rfl) e2 ?_
  refine R_aload_n (dd dt_1_takeFrom 4 rfl) 0 rfl rfl ?_
  refine R_aload_n (dd dt_1_takeFrom 5 rfl) 1 rfl rfl ?_
  refine g_1_13 rfl k1 (dd dt_1_takeFrom 6 rfl) ?_
  obtain ⟨μ3, e4, h⟩ := bi_el h
  refine p_1_13 rfl k0 (dd dt_1_takeFrom 7 rfl) e4 ?_
  refine R_aload_n (dd dt_1_takeFrom 8 rfl) 0 rfl rfl ?_
  refine R_aload_n (dd dt_1_takeFrom 9 rfl) 1 rfl rfl ?_
  refine g_1_16 rfl k1 (dd dt_1_takeFrom 10 rfl) ?_
  obtain ⟨μ5, e6, h⟩ := bi_el h
  refine p_1_16 rfl k0 (dd dt_1_takeFrom 11 rfl) e6 ?_
  refine R_aload_n (dd dt_1_takeFrom 12 rfl) 0 rfl rfl ?_
  refine R_aload_n (dd dt_1_takeFrom 13 rfl) 1 rfl rfl ?_
  refine g_1_19 rfl k1 (dd dt_1_takeFrom 14 rfl) ?_
  obtain ⟨μ7, e8, h⟩ := bi_el h
  refine p_1_19 rfl k0 (dd dt_1_takeFrom 15 rfl) e8 ?_
  refine R_aload_n (dd dt_1_takeFrom 16 rfl) 0 rfl rfl ?_
  refine R_aload_n (dd dt_1_takeFrom 17 rfl) 1 rfl rfl ?_
  refine g_1_22 rfl k1 (dd dt_1_takeFrom 18 rfl) ?_
  obtain ⟨μ9, e10, h⟩ := bi_el h
  refine p_1_22 rfl k0 (dd dt_1_takeFrom 19 rfl) e10 ?_
  refine R_aload_n (dd dt_1_takeFrom 20 rfl) 0 rfl rfl ?_
  refine R_aload_n (dd dt_1_takeFrom 21 rfl) 1 rfl rfl ?_
  refine g_1_25 rfl k1 (dd dt_1_takeFrom 22 rfl) ?_
  obtain ⟨μ11, e12, h⟩ := bi_el h
  refine p_1_25 rfl k0 (dd dt_1_takeFrom 23 rfl) e12 ?_
  refine R_aload_n (dd dt_1_takeFrom 24 rfl) 0 rfl rfl ?_
  refine R_aload_n (dd dt_1_takeFrom 25 rfl) 1 rfl rfl ?_
  refine g_1_28 rfl k1 (dd dt_1_takeFrom 26 rfl) ?_
  obtain ⟨μ13, e14, h⟩ := bi_el h
  refine p_1_28 rfl k0 (dd dt_1_takeFrom 27 rfl) e14 ?_
  refine R_aload_n (dd dt_1_takeFrom 28 rfl) 0 rfl rfl ?_
  refine R_aload_n (dd dt_1_takeFrom 29 rfl) 1 rfl rfl ?_
  refine g_1_31 rfl k1 (dd dt_1_takeFrom 30 rfl) ?_
  obtain ⟨μ15, e16, h⟩ := bi_el h
  refine p_1_31 rfl k0 (dd dt_1_takeFrom 31 rfl) e16 ?_
  refine R_aload_n (dd dt_1_takeFrom 32 rfl) 0 rfl rfl ?_
  refine R_aload_n (dd dt_1_takeFrom 33 rfl) 1 rfl rfl ?_
  refine g_1_34 rfl k1 (dd dt_1_takeFrom 34 rfl) ?_
  obtain ⟨μ17, e18, h⟩ := bi_el h
  refine p_1_34 rfl k0 (dd dt_1_takeFrom 35 rfl) e18 ?_
  refine R_aload_n (dd dt_1_takeFrom 36 rfl) 0 rfl rfl ?_
  refine R_aload_n (dd dt_1_takeFrom 37 rfl) 1 rfl rfl ?_
  refine g_1_37 rfl k1 (dd dt_1_takeFrom 38 rfl) ?_
  obtain ⟨μ19, e20, h⟩ := bi_el h
  refine p_1_37 rfl k0 (dd dt_1_takeFrom 39 rfl) e20 ?_
  refine R_aload_n (dd dt_1_takeFrom 40 rfl) 0 rfl rfl ?_
  refine R_aload_n (dd dt_1_takeFrom 41 rfl) 1 rfl rfl ?_
  refine g_1_40 rfl k1 (dd dt_1_takeFrom 42 rfl) ?_
  obtain ⟨_, q23, h⟩ := bi_el h
  obtain ⟨μ21, e22, h⟩ := bi_el h
  refine p_1_40 rfl k0 (gb_el q23).1 (dd dt_1_takeFrom 43 rfl) e22 ?_
  refine R_aload_n (dd dt_1_takeFrom 44 rfl) 0 rfl rfl ?_
  refine R_aload_n (dd dt_1_takeFrom 45 rfl) 1 rfl rfl ?_
  refine g_1_44 rfl k1 (dd dt_1_takeFrom 46 rfl) ?_
  obtain ⟨_, q26, h⟩ := bi_el h
  obtain ⟨μ24, e25, h⟩ := bi_el h
  refine p_1_44 rfl k0 (gb_el q26).1 (dd dt_1_takeFrom 47 rfl) e25 ?_
  obtain rfl := Option.some.inj h
  exact R_vret rfl (dd dt_1_takeFrom 48 rfl) hQ
/-! LongStrike$Offers.takeFrom(LLongStrike$Offers;)V -/
def tab_2_takeFrom : List (Nat × Instr × Nat) := [(0, .aload_n 0, 1), (1, .aload_n 1, 1), (2, .getfield 9, 3), (5, .putfield 9, 3), (8, .aload_n 1, 1), (9, .getfield 15, 3), (12, .iconst 0, 1), (13, .aload_n 0, 1), (14, .getfield 15, 3), (17, .iconst 0, 1), (18, .bipush 9, 2), (20, .invokestatic 33, 3), (23, .iconst 0, 1), (24, .istore_n 2, 1), (25, .iload_n 2, 1), (26, .bipush 9, 2), (28, .if_icmp .ge 27, 3), (31, .aload_n 1, 1), (32, .getfield 21, 3), (35, .iload_n 2, 1), (36, .aaload, 1), (37, .iconst 0, 1), (38, .aload_n 0, 1), (39, .getfield 21, 3), (42, .iload_n 2, 1), (43, .aaload, 1), (44, .iconst 0, 1), (45, .iconst 4, 1), (46, .invokestatic 33, 3), (49, .iinc 2 1, 3), (52, .goto (-27), 3), (55, .return_, 1)]
set_option maxRecDepth 100000 in
theorem dt_2_takeFrom : ∀ q ∈ tab_2_takeFrom, decode m_2_takeFrom.2.1 q.1 = .ok q.2 := by decide +kernel
def f_2_takeFrom_l25 (a0 : Nat) (a1 : Nat) : Nat → Int32 → mm → Option (mm)
  | 0, _, _ => none
  | n + 1, v2, μ => if 9 ≤ v2 then
      some μ
    else
      (lda (rf a1 2) v2).bind fun r1 =>
      (lda (rf a0 2) v2).bind fun r3 =>
      (cpo μ r1 0 r3 0 4).bind fun μ5 =>
      f_2_takeFrom_l25 a0 a1 n (v2 + 1) μ5
set_option maxRecDepth 100000 in
theorem ok_2_takeFrom_l25 {l : Launch} {E : ce} {d : Nat} {Q : Option Value → mm → Prop} (a0 : Nat) (a1 : Nat) (k0 : kd a0 = 2) (k1 : kd a1 = 2) : ∀ (n : Nat) (v2 : Int32) (μ : mm) (z : mm), f_2_takeFrom_l25 a0 a1 n v2 μ = some z → Rj l E d m_2_takeFrom 55 [none, none, none] [] z Q → Rj l E d m_2_takeFrom 25 [some (.ref a0), some (.ref a1), some (.int v2)] [] μ Q
  | 0, _, _, z, h, _ => by
    rw [f_2_takeFrom_l25] at h
    cases h
  | n + 1, v2, μ, z, h, KX => by
    rw [f_2_takeFrom_l25] at h
    refine R_iload_n (dd dt_2_takeFrom 14 rfl) 2 rfl rfl ?_
    refine R_bipush (v := 9) (dd dt_2_takeFrom 15 rfl) bp_9 ?_
    refine R_cmpge (dd dt_2_takeFrom 16 rfl) (tgt := 55) rfl (fun hc => ?_) (fun hc => ?_)
    · rw [if_pos hc] at h
      obtain rfl := Option.some.inj h
      exact R_mask [false, false, false] rfl KX
    · rw [if_neg hc] at h
      refine R_aload_n (dd dt_2_takeFrom 17 rfl) 1 rfl rfl ?_
      refine g_2_21 rfl k1 (dd dt_2_takeFrom 18 rfl) ?_
      refine R_iload_n (dd dt_2_takeFrom 19 rfl) 2 rfl rfl ?_
      obtain ⟨r1, e2, h⟩ := bi_el h
      refine R_aald (t0 := 3) e2 (ty_2_2 k1) (by decide) (by decide) rfl rfl (dd dt_2_takeFrom 20 rfl) ?_
      refine R_iconst (v := 0) (dd dt_2_takeFrom 21 rfl) ic_0 ?_
      refine R_aload_n (dd dt_2_takeFrom 22 rfl) 0 rfl rfl ?_
      refine g_2_21 rfl k0 (dd dt_2_takeFrom 23 rfl) ?_
      refine R_iload_n (dd dt_2_takeFrom 24 rfl) 2 rfl rfl ?_
      obtain ⟨r3, e4, h⟩ := bi_el h
      refine R_aald (t0 := 3) e4 (ty_2_2 k0) (by decide) (by decide) rfl rfl (dd dt_2_takeFrom 25 rfl) ?_
      refine R_iconst (v := 0) (dd dt_2_takeFrom 26 rfl) ic_0 ?_
      refine R_iconst (v := 4) (dd dt_2_takeFrom 27 rfl) ic_4 ?_
      obtain ⟨μ5, e6, h⟩ := bi_el h
      refine R_copy e6 (tl_23 e2 (ty_2_2 k1)) (tl_23 e4 (ty_2_2 k0)) (Nat.le_of_ble_eq_true rfl) ml_2_33 ac_n ac_s ac_i (dd dt_2_takeFrom 28 rfl) ?_
      refine R_iinc (v := 1) (lv' := [some (.ref a0), some (.ref a1), some (.int (v2 + 1))]) (dd dt_2_takeFrom 29 rfl) (by decide) rfl rfl ic_1 rfl ?_
      refine R_goto (dd dt_2_takeFrom 30 rfl) (tgt := 25) rfl ?_
      exact R_mask [true, true, true] rfl (ok_2_takeFrom_l25 a0 a1 k0 k1 n (v2 + 1) μ5 _ h KX)
def f_2_takeFrom (a0 : Nat) (a1 : Nat) (μ : mm) : Option (mm) :=
  (pf μ a0 0 (μ a1 0)).bind fun μ1 =>
  (cpo μ1 (rf a1 1) 0 (rf a0 1) 0 9).bind fun μ3 =>
  (f_2_takeFrom_l25 a0 a1 FU 0 μ3).bind fun z5 =>
  some z5
set_option maxRecDepth 100000 in
set_option maxHeartbeats 4000000 in
theorem ok_2_takeFrom {l : Launch} {E : ce} {d : Nat}  {a0 : Nat} {a1 : Nat} {μ : mm} {r : mm} {Q : Option Value → mm → Prop} (h : f_2_takeFrom a0 a1 μ = some r) (k0 : kd a0 = 2) (k1 : kd a1 = 2) (hQ : Q none r) : Ct l E d yX2_takeFrom m_2_takeFrom [.ref a0, .ref a1] μ Q := by
  refine Ct_of (lv := [some (.ref a0), some (.ref a1), none]) (by decide) rfl (Nat.le_of_ble_eq_true rfl) rfl ?_
  unfold f_2_takeFrom at h
  refine R_aload_n (dd dt_2_takeFrom 0 rfl) 0 rfl rfl ?_
  refine R_aload_n (dd dt_2_takeFrom 1 rfl) 1 rfl rfl ?_
  refine g_2_9 rfl k1 (dd dt_2_takeFrom 2 rfl) ?_
  obtain ⟨μ1, e2, h⟩ := bi_el h
  refine p_2_9 rfl k0 (dd dt_2_takeFrom 3 rfl) e2 ?_
  refine R_aload_n (dd dt_2_takeFrom 4 rfl) 1 rfl rfl ?_
  refine g_2_15 rfl k1 (dd dt_2_takeFrom 5 rfl) ?_
  refine R_iconst (v := 0) (dd dt_2_takeFrom 6 rfl) ic_0 ?_
  refine R_aload_n (dd dt_2_takeFrom 7 rfl) 0 rfl rfl ?_
  refine g_2_15 rfl k0 (dd dt_2_takeFrom 8 rfl) ?_
  refine R_iconst (v := 0) (dd dt_2_takeFrom 9 rfl) ic_0 ?_
  refine R_bipush (v := 9) (dd dt_2_takeFrom 10 rfl) bp_9 ?_
  obtain ⟨μ3, e4, h⟩ := bi_el h
  refine R_copy e4 (ty_2_1 k1) (ty_2_1 k0) (Nat.le_of_ble_eq_true rfl) ml_2_33 ac_n ac_s ac_i (dd dt_2_takeFrom 11 rfl) ?_
  refine R_iconst (v := 0) (dd dt_2_takeFrom 12 rfl) ic_0 ?_
  refine R_istore_n (lv' := [some (.ref a0), some (.ref a1), some (.int 0)]) (dd dt_2_takeFrom 13 rfl) 2 rfl (by decide) rfl rfl ?_
  obtain ⟨z5, e6, h⟩ := bi_el h
  refine R_mask [true, true, true] rfl (ok_2_takeFrom_l25 a0 a1 k0 k1 FU 0 μ3 _ e6 ?_)
  obtain rfl := Option.some.inj h
  exact R_vret rfl (dd dt_2_takeFrom 31 rfl) hQ
/-! LongStrike$Pickets.takeFrom(LLongStrike$Pickets;)V -/
def tab_3_takeFrom : List (Nat × Instr × Nat) := [(0, .aload_n 0, 1), (1, .aload_n 1, 1), (2, .getfield 9, 3), (5, .putfield 9, 3), (8, .aload_n 0, 1), (9, .aload_n 1, 1), (10, .getfield 15, 3), (13, .putfield 15, 3), (16, .aload_n 0, 1), (17, .aload_n 1, 1), (18, .getfield 18, 3), (21, .putfield 18, 3), (24, .aload_n 1, 1), (25, .getfield 21, 3), (28, .iconst 0, 1), (29, .aload_n 0, 1), (30, .getfield 21, 3), (33, .iconst 0, 1), (34, .iconst 4, 1), (35, .invokestatic 36, 3), (38, .aload_n 1, 1), (39, .getfield 25, 3), (42, .iconst 0, 1), (43, .aload_n 0, 1), (44, .getfield 25, 3), (47, .iconst 0, 1), (48, .bipush 8, 2), (50, .invokestatic 36, 3), (53, .return_, 1)]
set_option maxRecDepth 100000 in
theorem dt_3_takeFrom : ∀ q ∈ tab_3_takeFrom, decode m_3_takeFrom.2.1 q.1 = .ok q.2 := by decide +kernel
def f_3_takeFrom (a0 : Nat) (a1 : Nat) (μ : mm) : Option (mm) :=
  (pf μ a0 0 (μ a1 0)).bind fun μ1 =>
  (pf μ1 a0 1 (μ1 a1 1)).bind fun μ3 =>
  (pf μ3 a0 2 (μ3 a1 2)).bind fun μ5 =>
  (cpo μ5 (rf a1 3) 0 (rf a0 3) 0 4).bind fun μ7 =>
  (cpo μ7 (rf a1 4) 0 (rf a0 4) 0 8).bind fun μ9 =>
  some μ9
set_option maxRecDepth 100000 in
set_option maxHeartbeats 4000000 in
theorem ok_3_takeFrom {l : Launch} {E : ce} {d : Nat}  {a0 : Nat} {a1 : Nat} {μ : mm} {r : mm} {Q : Option Value → mm → Prop} (h : f_3_takeFrom a0 a1 μ = some r) (k0 : kd a0 = 3) (k1 : kd a1 = 3) (hQ : Q none r) : Ct l E d yX3_takeFrom m_3_takeFrom [.ref a0, .ref a1] μ Q := by
  refine Ct_of (lv := [some (.ref a0), some (.ref a1)]) (by decide) rfl (Nat.le_of_ble_eq_true rfl) rfl ?_
  unfold f_3_takeFrom at h
  refine R_aload_n (dd dt_3_takeFrom 0 rfl) 0 rfl rfl ?_
  refine R_aload_n (dd dt_3_takeFrom 1 rfl) 1 rfl rfl ?_
  refine g_3_9 rfl k1 (dd dt_3_takeFrom 2 rfl) ?_
  obtain ⟨μ1, e2, h⟩ := bi_el h
  refine p_3_9 rfl k0 (dd dt_3_takeFrom 3 rfl) e2 ?_
  refine R_aload_n (dd dt_3_takeFrom 4 rfl) 0 rfl rfl ?_
  refine R_aload_n (dd dt_3_takeFrom 5 rfl) 1 rfl rfl ?_
  refine g_3_15 rfl k1 (dd dt_3_takeFrom 6 rfl) ?_
  obtain ⟨μ3, e4, h⟩ := bi_el h
  refine p_3_15 rfl k0 (dd dt_3_takeFrom 7 rfl) e4 ?_
  refine R_aload_n (dd dt_3_takeFrom 8 rfl) 0 rfl rfl ?_
  refine R_aload_n (dd dt_3_takeFrom 9 rfl) 1 rfl rfl ?_
  refine g_3_18 rfl k1 (dd dt_3_takeFrom 10 rfl) ?_
  obtain ⟨μ5, e6, h⟩ := bi_el h
  refine p_3_18 rfl k0 (dd dt_3_takeFrom 11 rfl) e6 ?_
  refine R_aload_n (dd dt_3_takeFrom 12 rfl) 1 rfl rfl ?_
  refine g_3_21 rfl k1 (dd dt_3_takeFrom 13 rfl) ?_
  refine R_iconst (v := 0) (dd dt_3_takeFrom 14 rfl) ic_0 ?_
  refine R_aload_n (dd dt_3_takeFrom 15 rfl) 0 rfl rfl ?_
  refine g_3_21 rfl k0 (dd dt_3_takeFrom 16 rfl) ?_
  refine R_iconst (v := 0) (dd dt_3_takeFrom 17 rfl) ic_0 ?_
  refine R_iconst (v := 4) (dd dt_3_takeFrom 18 rfl) ic_4 ?_
  obtain ⟨μ7, e8, h⟩ := bi_el h
  refine R_copy e8 (ty_3_3 k1) (ty_3_3 k0) (Nat.le_of_ble_eq_true rfl) ml_3_36 ac_n ac_s ac_i (dd dt_3_takeFrom 19 rfl) ?_
  refine R_aload_n (dd dt_3_takeFrom 20 rfl) 1 rfl rfl ?_
  refine g_3_25 rfl k1 (dd dt_3_takeFrom 21 rfl) ?_
  refine R_iconst (v := 0) (dd dt_3_takeFrom 22 rfl) ic_0 ?_
  refine R_aload_n (dd dt_3_takeFrom 23 rfl) 0 rfl rfl ?_
  refine g_3_25 rfl k0 (dd dt_3_takeFrom 24 rfl) ?_
  refine R_iconst (v := 0) (dd dt_3_takeFrom 25 rfl) ic_0 ?_
  refine R_bipush (v := 8) (dd dt_3_takeFrom 26 rfl) bp_8 ?_
  obtain ⟨μ9, e10, h⟩ := bi_el h
  refine R_copy e10 (ty_3_4 k1) (ty_3_4 k0) (Nat.le_of_ble_eq_true rfl) ml_3_36 ac_n ac_s ac_i (dd dt_3_takeFrom 27 rfl) ?_
  obtain rfl := Option.some.inj h
  exact R_vret rfl (dd dt_3_takeFrom 28 rfl) hQ
/-! LongStrike$Pit.takeFrom(LLongStrike$Pit;)V -/
def tab_4_takeFrom : List (Nat × Instr × Nat) := [(0, .aload_n 0, 1), (1, .aload_n 1, 1), (2, .getfield 7, 3), (5, .putfield 7, 3), (8, .aload_n 0, 1), (9, .aload_n 1, 1), (10, .getfield 13, 3), (13, .putfield 13, 3), (16, .aload_n 0, 1), (17, .aload_n 1, 1), (18, .getfield 16, 3), (21, .putfield 16, 3), (24, .aload_n 0, 1), (25, .aload_n 1, 1), (26, .getfield 19, 3), (29, .putfield 19, 3), (32, .aload_n 0, 1), (33, .aload_n 1, 1), (34, .getfield 22, 3), (37, .putfield 22, 3), (40, .aload_n 0, 1), (41, .aload_n 1, 1), (42, .getfield 25, 3), (45, .putfield 25, 3), (48, .aload_n 0, 1), (49, .aload_n 1, 1), (50, .getfield 28, 3), (53, .putfield 28, 3), (56, .return_, 1)]
set_option maxRecDepth 100000 in
theorem dt_4_takeFrom : ∀ q ∈ tab_4_takeFrom, decode m_4_takeFrom.2.1 q.1 = .ok q.2 := by decide +kernel
def f_4_takeFrom (a0 : Nat) (a1 : Nat) (μ : mm) : Option (mm) :=
  (pf μ a0 0 (μ a1 0)).bind fun μ1 =>
  (pf μ1 a0 1 (μ1 a1 1)).bind fun μ3 =>
  (pf μ3 a0 2 (μ3 a1 2)).bind fun μ5 =>
  (pf μ5 a0 3 (μ5 a1 3)).bind fun μ7 =>
  (pf μ7 a0 4 (μ7 a1 4)).bind fun μ9 =>
  (pf μ9 a0 5 (μ9 a1 5)).bind fun μ11 =>
  (pf μ11 a0 6 (μ11 a1 6)).bind fun μ13 =>
  some μ13
set_option maxRecDepth 100000 in
set_option maxHeartbeats 4000000 in
theorem ok_4_takeFrom {l : Launch} {E : ce} {d : Nat}  {a0 : Nat} {a1 : Nat} {μ : mm} {r : mm} {Q : Option Value → mm → Prop} (h : f_4_takeFrom a0 a1 μ = some r) (k0 : kd a0 = 4) (k1 : kd a1 = 4) (hQ : Q none r) : Ct l E d yX4_takeFrom m_4_takeFrom [.ref a0, .ref a1] μ Q := by
  refine Ct_of (lv := [some (.ref a0), some (.ref a1)]) (by decide) rfl (Nat.le_of_ble_eq_true rfl) rfl ?_
  unfold f_4_takeFrom at h
  refine R_aload_n (dd dt_4_takeFrom 0 rfl) 0 rfl rfl ?_
  refine R_aload_n (dd dt_4_takeFrom 1 rfl) 1 rfl rfl ?_
  refine g_4_7 rfl k1 (dd dt_4_takeFrom 2 rfl) ?_
  obtain ⟨μ1, e2, h⟩ := bi_el h
  refine p_4_7 rfl k0 (dd dt_4_takeFrom 3 rfl) e2 ?_
  refine R_aload_n (dd dt_4_takeFrom 4 rfl) 0 rfl rfl ?_
  refine R_aload_n (dd dt_4_takeFrom 5 rfl) 1 rfl rfl ?_
  refine g_4_13 rfl k1 (dd dt_4_takeFrom 6 rfl) ?_
  obtain ⟨μ3, e4, h⟩ := bi_el h
  refine p_4_13 rfl k0 (dd dt_4_takeFrom 7 rfl) e4 ?_
  refine R_aload_n (dd dt_4_takeFrom 8 rfl) 0 rfl rfl ?_
  refine R_aload_n (dd dt_4_takeFrom 9 rfl) 1 rfl rfl ?_
  refine g_4_16 rfl k1 (dd dt_4_takeFrom 10 rfl) ?_
  obtain ⟨μ5, e6, h⟩ := bi_el h
  refine p_4_16 rfl k0 (dd dt_4_takeFrom 11 rfl) e6 ?_
  refine R_aload_n (dd dt_4_takeFrom 12 rfl) 0 rfl rfl ?_
  refine R_aload_n (dd dt_4_takeFrom 13 rfl) 1 rfl rfl ?_
  refine g_4_19 rfl k1 (dd dt_4_takeFrom 14 rfl) ?_
  obtain ⟨μ7, e8, h⟩ := bi_el h
  refine p_4_19 rfl k0 (dd dt_4_takeFrom 15 rfl) e8 ?_
  refine R_aload_n (dd dt_4_takeFrom 16 rfl) 0 rfl rfl ?_
  refine R_aload_n (dd dt_4_takeFrom 17 rfl) 1 rfl rfl ?_
  refine g_4_22 rfl k1 (dd dt_4_takeFrom 18 rfl) ?_
  obtain ⟨μ9, e10, h⟩ := bi_el h
  refine p_4_22 rfl k0 (dd dt_4_takeFrom 19 rfl) e10 ?_
  refine R_aload_n (dd dt_4_takeFrom 20 rfl) 0 rfl rfl ?_
  refine R_aload_n (dd dt_4_takeFrom 21 rfl) 1 rfl rfl ?_
  refine g_4_25 rfl k1 (dd dt_4_takeFrom 22 rfl) ?_
  obtain ⟨μ11, e12, h⟩ := bi_el h
  refine p_4_25 rfl k0 (dd dt_4_takeFrom 23 rfl) e12 ?_
  refine R_aload_n (dd dt_4_takeFrom 24 rfl) 0 rfl rfl ?_
  refine R_aload_n (dd dt_4_takeFrom 25 rfl) 1 rfl rfl ?_
  refine g_4_28 rfl k1 (dd dt_4_takeFrom 26 rfl) ?_
  obtain ⟨μ13, e14, h⟩ := bi_el h
  refine p_4_28 rfl k0 (dd dt_4_takeFrom 27 rfl) e14 ?_
  obtain rfl := Option.some.inj h
  exact R_vret rfl (dd dt_4_takeFrom 28 rfl) hQ
/-! LongStrike$Shop.takeFrom(LLongStrike$Shop;)V -/
def tab_6_takeFrom : List (Nat × Instr × Nat) := [(0, .aload_n 0, 1), (1, .aload_n 1, 1), (2, .getfield 7, 3), (5, .putfield 7, 3), (8, .aload_n 0, 1), (9, .aload_n 1, 1), (10, .getfield 13, 3), (13, .putfield 13, 3), (16, .aload_n 0, 1), (17, .aload_n 1, 1), (18, .getfield 16, 3), (21, .putfield 16, 3), (24, .return_, 1)]
set_option maxRecDepth 100000 in
theorem dt_6_takeFrom : ∀ q ∈ tab_6_takeFrom, decode m_6_takeFrom.2.1 q.1 = .ok q.2 := by decide +kernel
def f_6_takeFrom (a0 : Nat) (a1 : Nat) (μ : mm) : Option (mm) :=
  (pf μ a0 0 (μ a1 0)).bind fun μ1 =>
  (pf μ1 a0 1 (μ1 a1 1)).bind fun μ3 =>
  (pf μ3 a0 2 (μ3 a1 2)).bind fun μ5 =>
  some μ5
set_option maxRecDepth 100000 in
set_option maxHeartbeats 4000000 in
theorem ok_6_takeFrom {l : Launch} {E : ce} {d : Nat}  {a0 : Nat} {a1 : Nat} {μ : mm} {r : mm} {Q : Option Value → mm → Prop} (h : f_6_takeFrom a0 a1 μ = some r) (k0 : kd a0 = 6) (k1 : kd a1 = 6) (hQ : Q none r) : Ct l E d yX6_takeFrom m_6_takeFrom [.ref a0, .ref a1] μ Q := by
  refine Ct_of (lv := [some (.ref a0), some (.ref a1)]) (by decide) rfl (Nat.le_of_ble_eq_true rfl) rfl ?_
  unfold f_6_takeFrom at h
  refine R_aload_n (dd dt_6_takeFrom 0 rfl) 0 rfl rfl ?_
  refine R_aload_n (dd dt_6_takeFrom 1 rfl) 1 rfl rfl ?_
  refine g_6_7 rfl k1 (dd dt_6_takeFrom 2 rfl) ?_
  obtain ⟨μ1, e2, h⟩ := bi_el h
  refine p_6_7 rfl k0 (dd dt_6_takeFrom 3 rfl) e2 ?_
  refine R_aload_n (dd dt_6_takeFrom 4 rfl) 0 rfl rfl ?_
  refine R_aload_n (dd dt_6_takeFrom 5 rfl) 1 rfl rfl ?_
  refine g_6_13 rfl k1 (dd dt_6_takeFrom 6 rfl) ?_
  obtain ⟨μ3, e4, h⟩ := bi_el h
  refine p_6_13 rfl k0 (dd dt_6_takeFrom 7 rfl) e4 ?_
  refine R_aload_n (dd dt_6_takeFrom 8 rfl) 0 rfl rfl ?_
  refine R_aload_n (dd dt_6_takeFrom 9 rfl) 1 rfl rfl ?_
  refine g_6_16 rfl k1 (dd dt_6_takeFrom 10 rfl) ?_
  obtain ⟨μ5, e6, h⟩ := bi_el h
  refine p_6_16 rfl k0 (dd dt_6_takeFrom 11 rfl) e6 ?_
  obtain rfl := Option.some.inj h
  exact R_vret rfl (dd dt_6_takeFrom 12 rfl) hQ
/-! LongStrike$Talk.takeFrom(LLongStrike$Talk;)V -/
def tab_7_takeFrom : List (Nat × Instr × Nat) := [(0, .aload_n 0, 1), (1, .aload_n 1, 1), (2, .getfield 9, 3), (5, .putfield 9, 3), (8, .aload_n 1, 1), (9, .getfield 15, 3), (12, .iconst 0, 1), (13, .aload_n 0, 1), (14, .getfield 15, 3), (17, .iconst 0, 1), (18, .bipush 12, 2), (20, .invokestatic 44, 3), (23, .aload_n 1, 1), (24, .getfield 19, 3), (27, .iconst 0, 1), (28, .aload_n 0, 1), (29, .getfield 19, 3), (32, .iconst 0, 1), (33, .bipush 12, 2), (35, .invokestatic 44, 3), (38, .aload_n 1, 1), (39, .getfield 22, 3), (42, .iconst 0, 1), (43, .aload_n 0, 1), (44, .getfield 22, 3), (47, .iconst 0, 1), (48, .bipush 12, 2), (50, .invokestatic 44, 3), (53, .aload_n 0, 1), (54, .aload_n 1, 1), (55, .getfield 25, 3), (58, .putfield 25, 3), (61, .aload_n 1, 1), (62, .getfield 28, 3), (65, .iconst 0, 1), (66, .aload_n 0, 1), (67, .getfield 28, 3), (70, .iconst 0, 1), (71, .bipush 12, 2), (73, .invokestatic 44, 3), (76, .aload_n 1, 1), (77, .getfield 31, 3), (80, .iconst 0, 1), (81, .aload_n 0, 1), (82, .getfield 31, 3), (85, .iconst 0, 1), (86, .bipush 12, 2), (88, .invokestatic 44, 3), (91, .aload_n 1, 1), (92, .getfield 34, 3), (95, .iconst 0, 1), (96, .aload_n 0, 1), (97, .getfield 34, 3), (100, .iconst 0, 1), (101, .bipush 12, 2), (103, .invokestatic 44, 3), (106, .aload_n 0, 1), (107, .aload_n 1, 1), (108, .getfield 38, 3), (111, .putfield 38, 3), (114, .aload_n 0, 1), (115, .aload_n 1, 1), (116, .getfield 41, 3), (119, .putfield 41, 3), (122, .return_, 1)]
set_option maxRecDepth 100000 in
theorem dt_7_takeFrom : ∀ q ∈ tab_7_takeFrom, decode m_7_takeFrom.2.1 q.1 = .ok q.2 := by decide +kernel
def f_7_takeFrom (a0 : Nat) (a1 : Nat) (μ : mm) : Option (mm) :=
  (pf μ a0 0 (μ a1 0)).bind fun μ1 =>
  (cpo μ1 (rf a1 1) 0 (rf a0 1) 0 12).bind fun μ3 =>
  (cpo μ3 (rf a1 2) 0 (rf a0 2) 0 12).bind fun μ5 =>
  (cpo μ5 (rf a1 3) 0 (rf a0 3) 0 12).bind fun μ7 =>
  (pf μ7 a0 4 (μ7 a1 4)).bind fun μ9 =>
  (cpo μ9 (rf a1 5) 0 (rf a0 5) 0 12).bind fun μ11 =>
  (cpo μ11 (rf a1 6) 0 (rf a0 6) 0 12).bind fun μ13 =>
  (cpz μ13 (rf a1 7) 0 (rf a0 7) 0 12).bind fun μ15 =>
  (pf μ15 a0 8 (μ15 a1 8)).bind fun μ17 =>
  (pf μ17 a0 9 (μ17 a1 9)).bind fun μ19 =>
  some μ19
set_option maxRecDepth 100000 in
set_option maxHeartbeats 4000000 in
theorem ok_7_takeFrom {l : Launch} {E : ce} {d : Nat}  {a0 : Nat} {a1 : Nat} {μ : mm} {r : mm} {Q : Option Value → mm → Prop} (h : f_7_takeFrom a0 a1 μ = some r) (k0 : kd a0 = 7) (k1 : kd a1 = 7) (hQ : Q none r) : Ct l E d yX7_takeFrom m_7_takeFrom [.ref a0, .ref a1] μ Q := by
  refine Ct_of (lv := [some (.ref a0), some (.ref a1)]) (by decide) rfl (Nat.le_of_ble_eq_true rfl) rfl ?_
  unfold f_7_takeFrom at h
  refine R_aload_n (dd dt_7_takeFrom 0 rfl) 0 rfl rfl ?_
  refine R_aload_n (dd dt_7_takeFrom 1 rfl) 1 rfl rfl ?_
  refine g_7_9 rfl k1 (dd dt_7_takeFrom 2 rfl) ?_
  obtain ⟨μ1, e2, h⟩ := bi_el h
  refine p_7_9 rfl k0 (dd dt_7_takeFrom 3 rfl) e2 ?_
  refine R_aload_n (dd dt_7_takeFrom 4 rfl) 1 rfl rfl ?_
  refine g_7_15 rfl k1 (dd dt_7_takeFrom 5 rfl) ?_
  refine R_iconst (v := 0) (dd dt_7_takeFrom 6 rfl) ic_0 ?_
  refine R_aload_n (dd dt_7_takeFrom 7 rfl) 0 rfl rfl ?_
  refine g_7_15 rfl k0 (dd dt_7_takeFrom 8 rfl) ?_
  refine R_iconst (v := 0) (dd dt_7_takeFrom 9 rfl) ic_0 ?_
  refine R_bipush (v := 12) (dd dt_7_takeFrom 10 rfl) bp_12 ?_
  obtain ⟨μ3, e4, h⟩ := bi_el h
  refine R_copy e4 (ty_7_1 k1) (ty_7_1 k0) (Nat.le_of_ble_eq_true rfl) ml_7_44 ac_n ac_s ac_i (dd dt_7_takeFrom 11 rfl) ?_
  refine R_aload_n (dd dt_7_takeFrom 12 rfl) 1 rfl rfl ?_
  refine g_7_19 rfl k1 (dd dt_7_takeFrom 13 rfl) ?_
  refine R_iconst (v := 0) (dd dt_7_takeFrom 14 rfl) ic_0 ?_
  refine R_aload_n (dd dt_7_takeFrom 15 rfl) 0 rfl rfl ?_
  refine g_7_19 rfl k0 (dd dt_7_takeFrom 16 rfl) ?_
  refine R_iconst (v := 0) (dd dt_7_takeFrom 17 rfl) ic_0 ?_
  refine R_bipush (v := 12) (dd dt_7_takeFrom 18 rfl) bp_12 ?_
  obtain ⟨μ5, e6, h⟩ := bi_el h
  refine R_copy e6 (ty_7_2 k1) (ty_7_2 k0) (Nat.le_of_ble_eq_true rfl) ml_7_44 ac_n ac_s ac_i (dd dt_7_takeFrom 19 rfl) ?_
  refine R_aload_n (dd dt_7_takeFrom 20 rfl) 1 rfl rfl ?_
  refine g_7_22 rfl k1 (dd dt_7_takeFrom 21 rfl) ?_
  refine R_iconst (v := 0) (dd dt_7_takeFrom 22 rfl) ic_0 ?_
  refine R_aload_n (dd dt_7_takeFrom 23 rfl) 0 rfl rfl ?_
  refine g_7_22 rfl k0 (dd dt_7_takeFrom 24 rfl) ?_
  refine R_iconst (v := 0) (dd dt_7_takeFrom 25 rfl) ic_0 ?_
  refine R_bipush (v := 12) (dd dt_7_takeFrom 26 rfl) bp_12 ?_
  obtain ⟨μ7, e8, h⟩ := bi_el h
  refine R_copy e8 (ty_7_3 k1) (ty_7_3 k0) (Nat.le_of_ble_eq_true rfl) ml_7_44 ac_n ac_s ac_i (dd dt_7_takeFrom 27 rfl) ?_
  refine R_aload_n (dd dt_7_takeFrom 28 rfl) 0 rfl rfl ?_
  refine R_aload_n (dd dt_7_takeFrom 29 rfl) 1 rfl rfl ?_
  refine g_7_25 rfl k1 (dd dt_7_takeFrom 30 rfl) ?_
  obtain ⟨μ9, e10, h⟩ := bi_el h
  refine p_7_25 rfl k0 (dd dt_7_takeFrom 31 rfl) e10 ?_
  refine R_aload_n (dd dt_7_takeFrom 32 rfl) 1 rfl rfl ?_
  refine g_7_28 rfl k1 (dd dt_7_takeFrom 33 rfl) ?_
  refine R_iconst (v := 0) (dd dt_7_takeFrom 34 rfl) ic_0 ?_
  refine R_aload_n (dd dt_7_takeFrom 35 rfl) 0 rfl rfl ?_
  refine g_7_28 rfl k0 (dd dt_7_takeFrom 36 rfl) ?_
  refine R_iconst (v := 0) (dd dt_7_takeFrom 37 rfl) ic_0 ?_
  refine R_bipush (v := 12) (dd dt_7_takeFrom 38 rfl) bp_12 ?_
  obtain ⟨μ11, e12, h⟩ := bi_el h
  refine R_copy e12 (ty_7_5 k1) (ty_7_5 k0) (Nat.le_of_ble_eq_true rfl) ml_7_44 ac_n ac_s ac_i (dd dt_7_takeFrom 39 rfl) ?_
  refine R_aload_n (dd dt_7_takeFrom 40 rfl) 1 rfl rfl ?_
  refine g_7_31 rfl k1 (dd dt_7_takeFrom 41 rfl) ?_
  refine R_iconst (v := 0) (dd dt_7_takeFrom 42 rfl) ic_0 ?_
  refine R_aload_n (dd dt_7_takeFrom 43 rfl) 0 rfl rfl ?_
  refine g_7_31 rfl k0 (dd dt_7_takeFrom 44 rfl) ?_
  refine R_iconst (v := 0) (dd dt_7_takeFrom 45 rfl) ic_0 ?_
  refine R_bipush (v := 12) (dd dt_7_takeFrom 46 rfl) bp_12 ?_
  obtain ⟨μ13, e14, h⟩ := bi_el h
  refine R_copy e14 (ty_7_6 k1) (ty_7_6 k0) (Nat.le_of_ble_eq_true rfl) ml_7_44 ac_n ac_s ac_i (dd dt_7_takeFrom 47 rfl) ?_
  refine R_aload_n (dd dt_7_takeFrom 48 rfl) 1 rfl rfl ?_
  refine g_7_34 rfl k1 (dd dt_7_takeFrom 49 rfl) ?_
  refine R_iconst (v := 0) (dd dt_7_takeFrom 50 rfl) ic_0 ?_
  refine R_aload_n (dd dt_7_takeFrom 51 rfl) 0 rfl rfl ?_
  refine g_7_34 rfl k0 (dd dt_7_takeFrom 52 rfl) ?_
  refine R_iconst (v := 0) (dd dt_7_takeFrom 53 rfl) ic_0 ?_
  refine R_bipush (v := 12) (dd dt_7_takeFrom 54 rfl) bp_12 ?_
  obtain ⟨μ15, e16, h⟩ := bi_el h
  refine R_copz e16 (ty_7_7 k1) (ty_7_7 k0) (Nat.le_of_ble_eq_true rfl) ml_7_44 ac_n ac_s ac_i (dd dt_7_takeFrom 55 rfl) ?_
  refine R_aload_n (dd dt_7_takeFrom 56 rfl) 0 rfl rfl ?_
  refine R_aload_n (dd dt_7_takeFrom 57 rfl) 1 rfl rfl ?_
  refine g_7_38 rfl k1 (dd dt_7_takeFrom 58 rfl) ?_
  obtain ⟨μ17, e18, h⟩ := bi_el h
  refine p_7_38 rfl k0 (dd dt_7_takeFrom 59 rfl) e18 ?_
  refine R_aload_n (dd dt_7_takeFrom 60 rfl) 0 rfl rfl ?_
  refine R_aload_n (dd dt_7_takeFrom 61 rfl) 1 rfl rfl ?_
  refine g_7_41 rfl k1 (dd dt_7_takeFrom 62 rfl) ?_
  obtain ⟨μ19, e20, h⟩ := bi_el h
  refine p_7_41 rfl k0 (dd dt_7_takeFrom 63 rfl) e20 ?_
  obtain rfl := Option.some.inj h
  exact R_vret rfl (dd dt_7_takeFrom 64 rfl) hQ
/-! LongStrike$Works.takeFrom(LLongStrike$Works;)V -/
def tab_10_takeFrom : List (Nat × Instr × Nat) := [(0, .aload_n 0, 1), (1, .aload_n 1, 1), (2, .getfield 9, 3), (5, .putfield 9, 3), (8, .aload_n 0, 1), (9, .aload_n 1, 1), (10, .getfield 15, 3), (13, .putfield 15, 3), (16, .aload_n 0, 1), (17, .aload_n 1, 1), (18, .getfield 18, 3), (21, .putfield 18, 3), (24, .aload_n 1, 1), (25, .getfield 21, 3), (28, .iconst 0, 1), (29, .aload_n 0, 1), (30, .getfield 21, 3), (33, .iconst 0, 1), (34, .bipush 6, 2), (36, .invokestatic 28, 3), (39, .aload_n 1, 1), (40, .getfield 25, 3), (43, .iconst 0, 1), (44, .aload_n 0, 1), (45, .getfield 25, 3), (48, .iconst 0, 1), (49, .bipush 6, 2), (51, .invokestatic 28, 3), (54, .return_, 1)]
set_option maxRecDepth 100000 in
theorem dt_10_takeFrom : ∀ q ∈ tab_10_takeFrom, decode m_10_takeFrom.2.1 q.1 = .ok q.2 := by decide +kernel
def f_10_takeFrom (a0 : Nat) (a1 : Nat) (μ : mm) : Option (mm) :=
  (pf μ a0 0 (μ a1 0)).bind fun μ1 =>
  (pf μ1 a0 1 (μ1 a1 1)).bind fun μ3 =>
  (pf μ3 a0 2 (μ3 a1 2)).bind fun μ5 =>
  (cpo μ5 (rf a1 3) 0 (rf a0 3) 0 6).bind fun μ7 =>
  (cpo μ7 (rf a1 4) 0 (rf a0 4) 0 6).bind fun μ9 =>
  some μ9
set_option maxRecDepth 100000 in
set_option maxHeartbeats 4000000 in
theorem ok_10_takeFrom {l : Launch} {E : ce} {d : Nat}  {a0 : Nat} {a1 : Nat} {μ : mm} {r : mm} {Q : Option Value → mm → Prop} (h : f_10_takeFrom a0 a1 μ = some r) (k0 : kd a0 = 10) (k1 : kd a1 = 10) (hQ : Q none r) : Ct l E d yX10_takeFrom m_10_takeFrom [.ref a0, .ref a1] μ Q := by
  refine Ct_of (lv := [some (.ref a0), some (.ref a1)]) (by decide) rfl (Nat.le_of_ble_eq_true rfl) rfl ?_
  unfold f_10_takeFrom at h
  refine R_aload_n (dd dt_10_takeFrom 0 rfl) 0 rfl rfl ?_
  refine R_aload_n (dd dt_10_takeFrom 1 rfl) 1 rfl rfl ?_
  refine g_10_9 rfl k1 (dd dt_10_takeFrom 2 rfl) ?_
  obtain ⟨μ1, e2, h⟩ := bi_el h
  refine p_10_9 rfl k0 (dd dt_10_takeFrom 3 rfl) e2 ?_
  refine R_aload_n (dd dt_10_takeFrom 4 rfl) 0 rfl rfl ?_
  refine R_aload_n (dd dt_10_takeFrom 5 rfl) 1 rfl rfl ?_
  refine g_10_15 rfl k1 (dd dt_10_takeFrom 6 rfl) ?_
  obtain ⟨μ3, e4, h⟩ := bi_el h
  refine p_10_15 rfl k0 (dd dt_10_takeFrom 7 rfl) e4 ?_
  refine R_aload_n (dd dt_10_takeFrom 8 rfl) 0 rfl rfl ?_
  refine R_aload_n (dd dt_10_takeFrom 9 rfl) 1 rfl rfl ?_
  refine g_10_18 rfl k1 (dd dt_10_takeFrom 10 rfl) ?_
  obtain ⟨μ5, e6, h⟩ := bi_el h
  refine p_10_18 rfl k0 (dd dt_10_takeFrom 11 rfl) e6 ?_
  refine R_aload_n (dd dt_10_takeFrom 12 rfl) 1 rfl rfl ?_
  refine g_10_21 rfl k1 (dd dt_10_takeFrom 13 rfl) ?_
  refine R_iconst (v := 0) (dd dt_10_takeFrom 14 rfl) ic_0 ?_
  refine R_aload_n (dd dt_10_takeFrom 15 rfl) 0 rfl rfl ?_
  refine g_10_21 rfl k0 (dd dt_10_takeFrom 16 rfl) ?_
  refine R_iconst (v := 0) (dd dt_10_takeFrom 17 rfl) ic_0 ?_
  refine R_bipush (v := 6) (dd dt_10_takeFrom 18 rfl) bp_6 ?_
  obtain ⟨μ7, e8, h⟩ := bi_el h
  refine R_copy e8 (ty_10_3 k1) (ty_10_3 k0) (Nat.le_of_ble_eq_true rfl) ml_10_28 ac_n ac_s ac_i (dd dt_10_takeFrom 19 rfl) ?_
  refine R_aload_n (dd dt_10_takeFrom 20 rfl) 1 rfl rfl ?_
  refine g_10_25 rfl k1 (dd dt_10_takeFrom 21 rfl) ?_
  refine R_iconst (v := 0) (dd dt_10_takeFrom 22 rfl) ic_0 ?_
  refine R_aload_n (dd dt_10_takeFrom 23 rfl) 0 rfl rfl ?_
  refine g_10_25 rfl k0 (dd dt_10_takeFrom 24 rfl) ?_
  refine R_iconst (v := 0) (dd dt_10_takeFrom 25 rfl) ic_0 ?_
  refine R_bipush (v := 6) (dd dt_10_takeFrom 26 rfl) bp_6 ?_
  obtain ⟨μ9, e10, h⟩ := bi_el h
  refine R_copy e10 (ty_10_4 k1) (ty_10_4 k0) (Nat.le_of_ble_eq_true rfl) ml_10_28 ac_n ac_s ac_i (dd dt_10_takeFrom 27 rfl) ?_
  obtain rfl := Option.some.inj h
  exact R_vret rfl (dd dt_10_takeFrom 28 rfl) hQ
