/-! LongStrike.clause(I)I -/
def tab_11_clause : List (Nat × Instr × Nat) := [(0, .iload_n 1, 1), (1, .iconst 0, 1), (2, .bipush 99, 2), (4, .invokestatic 83, 3), (7, .ifCond .ne 5, 3), (10, .iconst (-1), 1), (11, .ireturn, 1), (12, .aload_n 0, 1), (13, .getfield 10, 3), (16, .getfield 428, 3), (19, .getfield 432, 3), (22, .bipush 9, 2), (24, .if_icmp .ge 17, 3), (27, .aload_n 0, 1), (28, .getfield 10, 3), (31, .getfield 428, 3), (34, .iload_n 1, 1), (35, .invokevirtual 435, 3), (38, .goto 5, 3), (41, .bipush (-2), 2), (43, .ireturn, 1)]
set_option maxRecDepth 100000 in
theorem dt_11_clause : ∀ q ∈ tab_11_clause, decode m_11_clause.2.1 q.1 = .ok q.2 := by decide +kernel
def f_11_clause (a0 : Nat) (a1 : Int32) (μ : mm) : Option (Int32 × mm) :=
  (f_11_isIn a1 0 99 μ).bind fun x2 =>
  if x2 = 0 then
    some ((-1), μ)
  else
    if 9 ≤ (μ (rf (rf a0 0) 15) 0) then
      some ((-2), μ)
    else
      (f_2_addClause (rf (rf a0 0) 15) a1 μ).bind fun z4 =>
      some (z4.1, z4.2)
set_option maxRecDepth 100000 in
set_option maxHeartbeats 4000000 in
theorem ok_11_clause {l : Launch} {E : ce} {d : Nat}  {a0 : Nat} {a1 : Int32} {μ : mm} {r : Int32 × mm} {Q : Option Value → mm → Prop} (h : f_11_clause a0 a1 μ = some r) (k0 : kd a0 = 11) (hQ : Q (some (.int r.1)) r.2) : Ct l E (d + 2) yX11_clause m_11_clause [.ref a0, .int a1] μ Q := by
  refine Ct_of (lv := [some (.ref a0), some (.int a1)]) (by decide) rfl (Nat.le_of_ble_eq_true rfl) rfl ?_
  unfold f_11_clause at h
  refine R_iload_n (dd dt_11_clause 0 rfl) 1 rfl rfl ?_
  refine R_iconst (v := 0) (dd dt_11_clause 1 rfl) ic_0 ?_
  refine R_bipush (v := 99) (dd dt_11_clause 2 rfl) bp_99 ?_
  obtain ⟨x2, e1, h⟩ := bi_el h
  refine c_11_83 (As := [.int a1, .int 0, .int 99]) (st1 := [.int x2]) rfl (fun Q1 hq => ok_11_isIn e1 hq) rfl rfl (Nat.le_of_ble_eq_true rfl) (dd dt_11_clause 3 rfl) rfl ?_
  refine R_ifne (dd dt_11_clause 4 rfl) (tgt := 12) rfl (fun hc => ?_) (fun hc => ?_)
  · rw [if_neg hc] at h
    refine R_aload_n (dd dt_11_clause 7 rfl) 0 rfl rfl ?_
    refine g_11_10 rfl k0 (dd dt_11_clause 8 rfl) ?_
    refine g_11_428 rfl (ty_11_0 k0) (dd dt_11_clause 9 rfl) ?_
    refine g_11_432 rfl (ty_9_15 (ty_11_0 k0)) (dd dt_11_clause 10 rfl) ?_
    refine R_bipush (v := 9) (dd dt_11_clause 11 rfl) bp_9 ?_
    refine R_cmpge (dd dt_11_clause 12 rfl) (tgt := 41) rfl (fun hc => ?_) (fun hc => ?_)
    · rw [if_pos hc] at h
      refine R_bipush (v := (-2)) (dd dt_11_clause 19 rfl) bp_m2 ?_
      obtain rfl := Option.some.inj h
      exact R_iret rfl (dd dt_11_clause 20 rfl) hQ
    · rw [if_neg hc] at h
      refine R_aload_n (dd dt_11_clause 13 rfl) 0 rfl rfl ?_
      refine g_11_10 rfl k0 (dd dt_11_clause 14 rfl) ?_
      refine g_11_428 rfl (ty_11_0 k0) (dd dt_11_clause 15 rfl) ?_
      refine R_iload_n (dd dt_11_clause 16 rfl) 1 rfl rfl ?_
      obtain ⟨z4, e3, h⟩ := bi_el h
      refine c_11_435 (As := [.int a1]) (st1 := [.int z4.1]) rfl (fun Q1 hq => ok_2_addClause e3 (ty_9_15 (ty_11_0 k0)) hq) (ty_9_15 (ty_11_0 k0)) rfl rfl (Nat.le_of_ble_eq_true rfl) (dd dt_11_clause 17 rfl) rfl ?_
      refine R_goto (dd dt_11_clause 18 rfl) (tgt := 43) rfl ?_
      obtain rfl := Option.some.inj h
      exact R_iret rfl (dd dt_11_clause 20 rfl) hQ
  · rw [if_pos hc] at h
    refine R_iconst (v := (-1)) (dd dt_11_clause 5 rfl) ic_m1 ?_
    obtain rfl := Option.some.inj h
    exact R_iret rfl (dd dt_11_clause 6 rfl) hQ
/-! LongStrike.worth(III)I -/
def tab_11_worth : List (Nat × Instr × Nat) := [(0, .iload_n 1, 1), (1, .iconst 0, 1), (2, .aload_n 0, 1), (3, .getfield 10, 3), (6, .getfield 428, 3), (9, .getfield 432, 3), (12, .iconst 1, 1), (13, .isub, 1), (14, .invokestatic 83, 3), (17, .ifCond .eq 24, 3), (20, .aload_n 0, 1), (21, .getfield 10, 3), (24, .iload_n 2, 1), (25, .invokevirtual 129, 3), (28, .ifCond .eq 13, 3), (31, .iload_n 3, 1), (32, .iconst 0, 1), (33, .bipush 99, 2), (35, .invokestatic 83, 3), (38, .ifCond .ne 5, 3), (41, .iconst (-1), 1), (42, .ireturn, 1), (43, .aload_n 0, 1), (44, .getfield 10, 3), (47, .getfield 428, 3), (50, .getfield 438, 3), (53, .iload_n 1, 1), (54, .aaload, 1), (55, .iload_n 2, 1), (56, .iaload, 1), (57, .istore 4, 2), (59, .aload_n 0, 1), (60, .getfield 10, 3), (63, .getfield 428, 3), (66, .getfield 438, 3), (69, .iload_n 1, 1), (70, .aaload, 1), (71, .iload_n 2, 1), (72, .iload_n 3, 1), (73, .iastore, 1), (74, .iload 4, 2), (76, .ireturn, 1)]
set_option maxRecDepth 100000 in
theorem dt_11_worth : ∀ q ∈ tab_11_worth, decode m_11_worth.2.1 q.1 = .ok q.2 := by decide +kernel
def f_11_worth (a0 : Nat) (a1 : Int32) (a2 : Int32) (a3 : Int32) (μ : mm) : Option (Int32 × mm) :=
  (f_11_isIn a1 0 ((μ (rf (rf a0 0) 15) 0) - 1) μ).bind fun x2 =>
  if x2 = 0 then
    some ((-1), μ)
  else
    (f_9_hasPit (rf a0 0) a2 μ).bind fun x4 =>
    if x4 = 0 then
      some ((-1), μ)
    else
      (f_11_isIn a3 0 99 μ).bind fun x6 =>
      if x6 = 0 then
        some ((-1), μ)
      else
        (lda (rf (rf (rf a0 0) 15) 2) a1).bind fun r7 =>
        (ld μ r7 a2).bind fun x9 =>
        (lda (rf (rf (rf a0 0) 15) 2) a1).bind fun r11 =>
        (sto μ r11 a2 a3).bind fun μ13 =>
        some (x9, μ13)
set_option maxRecDepth 100000 in
set_option maxHeartbeats 4000000 in
theorem ok_11_worth {l : Launch} {E : ce} {d : Nat}  {a0 : Nat} {a1 : Int32} {a2 : Int32} {a3 : Int32} {μ : mm} {r : Int32 × mm} {Q : Option Value → mm → Prop} (h : f_11_worth a0 a1 a2 a3 μ = some r) (k0 : kd a0 = 11) (hQ : Q (some (.int r.1)) r.2) : Ct l E (d + 2) yX11_worth m_11_worth [.ref a0, .int a1, .int a2, .int a3] μ Q := by
  refine Ct_of (lv := [some (.ref a0), some (.int a1), some (.int a2), some (.int a3), none]) (by decide) rfl (Nat.le_of_ble_eq_true rfl) rfl ?_
  unfold f_11_worth at h
  refine R_iload_n (dd dt_11_worth 0 rfl) 1 rfl rfl ?_
  refine R_iconst (v := 0) (dd dt_11_worth 1 rfl) ic_0 ?_
  refine R_aload_n (dd dt_11_worth 2 rfl) 0 rfl rfl ?_
  refine g_11_10 rfl k0 (dd dt_11_worth 3 rfl) ?_
  refine g_11_428 rfl (ty_11_0 k0) (dd dt_11_worth 4 rfl) ?_
  refine g_11_432 rfl (ty_9_15 (ty_11_0 k0)) (dd dt_11_worth 5 rfl) ?_
  refine R_iconst (v := 1) (dd dt_11_worth 6 rfl) ic_1 ?_
  refine R_isub (dd dt_11_worth 7 rfl) ?_
  obtain ⟨x2, e1, h⟩ := bi_el h
  refine c_11_83 (As := [.int a1, .int 0, .int ((μ (rf (rf a0 0) 15) 0) - 1)]) (st1 := [.int x2]) rfl (fun Q1 hq => ok_11_isIn e1 hq) rfl rfl (Nat.le_of_ble_eq_true rfl) (dd dt_11_worth 8 rfl) rfl ?_
  refine R_ifeq (dd dt_11_worth 9 rfl) (tgt := 41) rfl (fun hc => ?_) (fun hc => ?_)
  · rw [if_pos hc] at h
    refine R_iconst (v := (-1)) (dd dt_11_worth 20 rfl) ic_m1 ?_
    obtain rfl := Option.some.inj h
    exact R_iret rfl (dd dt_11_worth 21 rfl) hQ
  · rw [if_neg hc] at h
    refine R_aload_n (dd dt_11_worth 10 rfl) 0 rfl rfl ?_
    refine g_11_10 rfl k0 (dd dt_11_worth 11 rfl) ?_
    refine R_iload_n (dd dt_11_worth 12 rfl) 2 rfl rfl ?_
    obtain ⟨x4, e3, h⟩ := bi_el h
    refine c_11_129 (As := [.int a2]) (st1 := [.int x4]) rfl (fun Q1 hq => ok_9_hasPit e3 (ty_11_0 k0) hq) (ty_11_0 k0) rfl rfl (Nat.le_of_ble_eq_true rfl) (dd dt_11_worth 13 rfl) rfl ?_
    refine R_ifeq (dd dt_11_worth 14 rfl) (tgt := 41) rfl (fun hc => ?_) (fun hc => ?_)
    · rw [if_pos hc] at h
      refine R_iconst (v := (-1)) (dd dt_11_worth 20 rfl) ic_m1 ?_
      obtain rfl := Option.some.inj h
      exact R_iret rfl (dd dt_11_worth 21 rfl) hQ
    · rw [if_neg hc] at h
      refine R_iload_n (dd dt_11_worth 15 rfl) 3 rfl rfl ?_
      refine R_iconst (v := 0) (dd dt_11_worth 16 rfl) ic_0 ?_
      refine R_bipush (v := 99) (dd dt_11_worth 17 rfl) bp_99 ?_
      obtain ⟨x6, e5, h⟩ := bi_el h
      refine c_11_83 (As := [.int a3, .int 0, .int 99]) (st1 := [.int x6]) rfl (fun Q1 hq => ok_11_isIn e5 hq) rfl rfl (Nat.le_of_ble_eq_true rfl) (dd dt_11_worth 18 rfl) rfl ?_
      refine R_ifne (dd dt_11_worth 19 rfl) (tgt := 43) rfl (fun hc => ?_) (fun hc => ?_)
      · rw [if_neg hc] at h
        refine R_aload_n (dd dt_11_worth 22 rfl) 0 rfl rfl ?_
        refine g_11_10 rfl k0 (dd dt_11_worth 23 rfl) ?_
        refine g_11_428 rfl (ty_11_0 k0) (dd dt_11_worth 24 rfl) ?_
        refine g_11_438 rfl (ty_9_15 (ty_11_0 k0)) (dd dt_11_worth 25 rfl) ?_
        refine R_iload_n (dd dt_11_worth 26 rfl) 1 rfl rfl ?_
        obtain ⟨r7, e8, h⟩ := bi_el h
        refine R_aald (t0 := 3) e8 (ty_2_2 (ty_9_15 (ty_11_0 k0))) (by decide) (by decide) rfl rfl (dd dt_11_worth 27 rfl) ?_
        refine R_iload_n (dd dt_11_worth 28 rfl) 2 rfl rfl ?_
        obtain ⟨x9, e10, h⟩ := bi_el h
        refine R_ild e10 (tl_23 e8 (ty_2_2 (ty_9_15 (ty_11_0 k0)))) (dd dt_11_worth 29 rfl) ?_
        refine R_istore (lv' := [some (.ref a0), some (.int a1), some (.int a2), some (.int a3), some (.int x9)]) (dd dt_11_worth 30 rfl) (by decide) rfl rfl ?_
        refine R_aload_n (dd dt_11_worth 31 rfl) 0 rfl rfl ?_
        refine g_11_10 rfl k0 (dd dt_11_worth 32 rfl) ?_
        refine g_11_428 rfl (ty_11_0 k0) (dd dt_11_worth 33 rfl) ?_
        refine g_11_438 rfl (ty_9_15 (ty_11_0 k0)) (dd dt_11_worth 34 rfl) ?_
        refine R_iload_n (dd dt_11_worth 35 rfl) 1 rfl rfl ?_
        obtain ⟨r11, e12, h⟩ := bi_el h
        refine R_aald (t0 := 3) e12 (ty_2_2 (ty_9_15 (ty_11_0 k0))) (by decide) (by decide) rfl rfl (dd dt_11_worth 36 rfl) ?_
        refine R_iload_n (dd dt_11_worth 37 rfl) 2 rfl rfl ?_
        refine R_iload_n (dd dt_11_worth 38 rfl) 3 rfl rfl ?_
        obtain ⟨μ13, e14, h⟩ := bi_el h
        refine R_isto e14 (tl_23 e12 (ty_2_2 (ty_9_15 (ty_11_0 k0)))) (dd dt_11_worth 39 rfl) ?_
        refine R_iload (dd dt_11_worth 40 rfl) rfl ?_
        obtain rfl := Option.some.inj h
        exact R_iret rfl (dd dt_11_worth 41 rfl) hQ
      · rw [if_pos hc] at h
        refine R_iconst (v := (-1)) (dd dt_11_worth 20 rfl) ic_m1 ?_
        obtain rfl := Option.some.inj h
        exact R_iret rfl (dd dt_11_worth 21 rfl) hQ
/-! LongStrike$Offers.callVoters(LLongStrike$Valley;)V -/
def tab_2_callVoters : List (Nat × Instr × Nat) := [(0, .aload_n 0, 1), (1, .iconst 0, 1), (2, .putfield 24, 3), (5, .aload_n 0, 1), (6, .iconst 0, 1), (7, .putfield 27, 3), (10, .aload_n 0, 1), (11, .getfield 30, 3), (14, .iconst 0, 1), (15, .invokestatic 39, 3), (18, .iconst 0, 1), (19, .istore_n 2, 1), (20, .iload_n 2, 1), (21, .aload_n 1, 1), (22, .getfield 45, 3), (25, .if_icmp .ge 91, 3), (28, .aload_n 1, 1), (29, .getfield 50, 3), (32, .iload_n 2, 1), (33, .aaload, 1), (34, .astore_n 3, 1), (35, .aload_n 3, 1), (36, .getfield 54, 3), (39, .ifCond .ne 71, 3), (42, .aload_n 1, 1), (43, .aload_n 3, 1), (44, .invokevirtual 60, 3), (47, .ifCond .ne 6, 3), (50, .goto 60, 3), (53, .aload_n 3, 1), (54, .getfield 64, 3), (57, .bipush 10, 2), (59, .if_icmp .ge 16, 3), (62, .aload_n 0, 1), (63, .dup, 1), (64, .getfield 24, 3), (67, .iconst 1, 1), (68, .iadd, 1), (69, .putfield 24, 3), (72, .goto 38, 3), (75, .aload_n 3, 1), (76, .getfield 64, 3), (79, .bipush 90, 2), (81, .if_icmp .le 16, 3), (84, .aload_n 0, 1), (85, .dup, 1), (86, .getfield 27, 3), (89, .iconst 1, 1), (90, .iadd, 1), (91, .putfield 27, 3), (94, .goto 16, 3), (97, .aload_n 0, 1), (98, .getfield 30, 3), (101, .aload_n 3, 1), (102, .getfield 67, 3), (105, .dup2, 1), (106, .iaload, 1), (107, .iconst 1, 1), (108, .iadd, 1), (109, .iastore, 1), (110, .iinc 2 1, 3), (113, .goto (-93), 3), (116, .return_, 1)]
set_option maxRecDepth 100000 in
theorem dt_2_callVoters : ∀ q ∈ tab_2_callVoters, decode m_2_callVoters.2.1 q.1 = .ok q.2 := by decide +kernel
def f_2_callVoters_l20 (a0 : Nat) (a1 : Nat) : Nat → Int32 → mm → Option (mm)
  | 0, _, _ => none
  | n + 1, v2, μ => if (μ a1 4) ≤ v2 then
      some μ
    else
      (lda (rf a1 10) v2).bind fun r1 =>
      if (μ r1 10) = 0 then
        (f_9_mayVote a1 r1 μ).bind fun x4 =>
        if x4 = 0 then
          f_2_callVoters_l20 a0 a1 n (v2 + 1) μ
        else
          if 10 ≤ (μ r1 5) then
            if (μ r1 5) ≤ 90 then
              (ld μ (rf a0 5) (μ r1 1)).bind fun x5 =>
              (sto μ (rf a0 5) (μ r1 1) (x5 + 1)).bind fun μ7 =>
              f_2_callVoters_l20 a0 a1 n (v2 + 1) μ7
            else
              (pf μ a0 4 ((μ a0 4) + 1)).bind fun μ9 =>
              f_2_callVoters_l20 a0 a1 n (v2 + 1) μ9
          else
            (pf μ a0 3 ((μ a0 3) + 1)).bind fun μ11 =>
            f_2_callVoters_l20 a0 a1 n (v2 + 1) μ11
      else
        f_2_callVoters_l20 a0 a1 n (v2 + 1) μ
set_option maxRecDepth 100000 in
theorem ok_2_callVoters_l20 {l : Launch} {E : ce} {d : Nat} {Q : Option Value → mm → Prop} (a0 : Nat) (a1 : Nat) (k0 : kd a0 = 2) (k1 : kd a1 = 9) : ∀ (n : Nat) (v2 : Int32) (μ : mm) (z : mm), f_2_callVoters_l20 a0 a1 n v2 μ = some z → Rj l E (d + 4) m_2_callVoters 116 [none, none, none, none] [] z Q → Rj l E (d + 4) m_2_callVoters 20 [some (.ref a0), some (.ref a1), some (.int v2), none] [] μ Q
  | 0, _, _, z, h, _ => by
    rw [f_2_callVoters_l20] at h
    cases h
  | n + 1, v2, μ, z, h, KX => by
    rw [f_2_callVoters_l20] at h
    refine R_iload_n (dd dt_2_callVoters 12 rfl) 2 rfl rfl ?_
    refine R_aload_n (dd dt_2_callVoters 13 rfl) 1 rfl rfl ?_
    refine g_2_45 rfl k1 (dd dt_2_callVoters 14 rfl) ?_
    refine R_cmpge (dd dt_2_callVoters 15 rfl) (tgt := 116) rfl (fun hc => ?_) (fun hc => ?_)
    · rw [if_pos hc] at h
      obtain rfl := Option.some.inj h
      exact R_mask [false, false, false, false] rfl KX
    · rw [if_neg hc] at h
      refine R_aload_n (dd dt_2_callVoters 16 rfl) 1 rfl rfl ?_
      refine g_2_50 rfl k1 (dd dt_2_callVoters 17 rfl) ?_
      refine R_iload_n (dd dt_2_callVoters 18 rfl) 2 rfl rfl ?_
      obtain ⟨r1, e2, h⟩ := bi_el h
      refine R_aald (t0 := 6) e2 (ty_9_10 k1) (by decide) (by decide) rfl rfl (dd dt_2_callVoters 19 rfl) ?_
      refine R_astore_n (lv' := [some (.ref a0), some (.ref a1), some (.int v2), some (.ref r1)]) (dd dt_2_callVoters 20 rfl) 3 rfl (by decide) rfl rfl ?_
      refine R_aload_n (dd dt_2_callVoters 21 rfl) 3 rfl rfl ?_
      refine g_2_54 rfl (tl_26 e2 (ty_9_10 k1)) (dd dt_2_callVoters 22 rfl) ?_
      refine R_ifne (dd dt_2_callVoters 23 rfl) (tgt := 110) rfl (fun hc => ?_) (fun hc => ?_)
      · rw [if_neg hc] at h
        refine R_iinc (v := 1) (lv' := [some (.ref a0), some (.ref a1), some (.int (v2 + 1)), some (.ref r1)]) (dd dt_2_callVoters 60 rfl) (by decide) rfl rfl ic_1 rfl ?_
        refine R_goto (dd dt_2_callVoters 61 rfl) (tgt := 20) rfl ?_
        exact R_mask [true, true, true, false] rfl (ok_2_callVoters_l20 a0 a1 k0 k1 n (v2 + 1) μ _ h KX)
      · rw [if_pos hc] at h
        refine R_aload_n (dd dt_2_callVoters 24 rfl) 1 rfl rfl ?_
        refine R_aload_n (dd dt_2_callVoters 25 rfl) 3 rfl rfl ?_
        obtain ⟨x4, e3, h⟩ := bi_el h
        refine c_2_60 (As := [.ref r1]) (st1 := [.int x4]) rfl (fun Q1 hq => ok_9_mayVote e3 k1 (tl_26 e2 (ty_9_10 k1)) hq) k1 rfl rfl (Nat.le_of_ble_eq_true rfl) (dd dt_2_callVoters 26 rfl) rfl ?_
        refine R_ifne (dd dt_2_callVoters 27 rfl) (tgt := 53) rfl (fun hc => ?_) (fun hc => ?_)
        · rw [if_neg hc] at h
          refine R_aload_n (dd dt_2_callVoters 29 rfl) 3 rfl rfl ?_
          refine g_2_64 rfl (tl_26 e2 (ty_9_10 k1)) (dd dt_2_callVoters 30 rfl) ?_
          refine R_bipush (v := 10) (dd dt_2_callVoters 31 rfl) bp_10 ?_
          refine R_cmpge (dd dt_2_callVoters 32 rfl) (tgt := 75) rfl (fun hc => ?_) (fun hc => ?_)
          · rw [if_pos hc] at h
            refine R_aload_n (dd dt_2_callVoters 40 rfl) 3 rfl rfl ?_
            refine g_2_64 rfl (tl_26 e2 (ty_9_10 k1)) (dd dt_2_callVoters 41 rfl) ?_
            refine R_bipush (v := 90) (dd dt_2_callVoters 42 rfl) bp_90 ?_
            refine R_cmple (dd dt_2_callVoters 43 rfl) (tgt := 97) rfl (fun hc => ?_) (fun hc => ?_)
            · rw [if_pos hc] at h
              refine R_aload_n (dd dt_2_callVoters 51 rfl) 0 rfl rfl ?_
              refine g_2_30 rfl k0 (dd dt_2_callVoters 52 rfl) ?_
              refine R_aload_n (dd dt_2_callVoters 53 rfl) 3 rfl rfl ?_
              refine g_2_67 rfl (tl_26 e2 (ty_9_10 k1)) (dd dt_2_callVoters 54 rfl) ?_
              refine R_dup2 (dd dt_2_callVoters 55 rfl) rfl rfl ?_
              obtain ⟨x5, e6, h⟩ := bi_el h
              refine R_ild e6 (ty_2_5 k0) (dd dt_2_callVoters 56 rfl) ?_
              refine R_iconst (v := 1) (dd dt_2_callVoters 57 rfl) ic_1 ?_
              refine R_iadd (dd dt_2_callVoters 58 rfl) ?_
              obtain ⟨μ7, e8, h⟩ := bi_el h
              refine R_isto e8 (ty_2_5 k0) (dd dt_2_callVoters 59 rfl) ?_
              refine R_iinc (v := 1) (lv' := [some (.ref a0), some (.ref a1), some (.int (v2 + 1)), some (.ref r1)]) (dd dt_2_callVoters 60 rfl) (by decide) rfl rfl ic_1 rfl ?_
              refine R_goto (dd dt_2_callVoters 61 rfl) (tgt := 20) rfl ?_
              exact R_mask [true, true, true, false] rfl (ok_2_callVoters_l20 a0 a1 k0 k1 n (v2 + 1) μ7 _ h KX)
            · rw [if_neg hc] at h
              refine R_aload_n (dd dt_2_callVoters 44 rfl) 0 rfl rfl ?_
              refine R_dup (dd dt_2_callVoters 45 rfl) rfl ?_
              refine g_2_27 rfl k0 (dd dt_2_callVoters 46 rfl) ?_
              refine R_iconst (v := 1) (dd dt_2_callVoters 47 rfl) ic_1 ?_
              refine R_iadd (dd dt_2_callVoters 48 rfl) ?_
              obtain ⟨μ9, e10, h⟩ := bi_el h
              refine p_2_27 rfl k0 (dd dt_2_callVoters 49 rfl) e10 ?_
              refine R_goto (dd dt_2_callVoters 50 rfl) (tgt := 110) rfl ?_
              refine R_iinc (v := 1) (lv' := [some (.ref a0), some (.ref a1), some (.int (v2 + 1)), some (.ref r1)]) (dd dt_2_callVoters 60 rfl) (by decide) rfl rfl ic_1 rfl ?_
              refine R_goto (dd dt_2_callVoters 61 rfl) (tgt := 20) rfl ?_
              exact R_mask [true, true, true, false] rfl (ok_2_callVoters_l20 a0 a1 k0 k1 n (v2 + 1) μ9 _ h KX)
          · rw [if_neg hc] at h
            refine R_aload_n (dd dt_2_callVoters 33 rfl) 0 rfl rfl ?_
            refine R_dup (dd dt_2_callVoters 34 rfl) rfl ?_
            refine g_2_24 rfl k0 (dd dt_2_callVoters 35 rfl) ?_
            refine R_iconst (v := 1) (dd dt_2_callVoters 36 rfl) ic_1 ?_
            refine R_iadd (dd dt_2_callVoters 37 rfl) ?_
            obtain ⟨μ11, e12, h⟩ := bi_el h
            refine p_2_24 rfl k0 (dd dt_2_callVoters 38 rfl) e12 ?_
            refine R_goto (dd dt_2_callVoters 39 rfl) (tgt := 110) rfl ?_
            refine R_iinc (v := 1) (lv' := [some (.ref a0), some (.ref a1), some (.int (v2 + 1)), some (.ref r1)]) (dd dt_2_callVoters 60 rfl) (by decide) rfl rfl ic_1 rfl ?_
            refine R_goto (dd dt_2_callVoters 61 rfl) (tgt := 20) rfl ?_
            exact R_mask [true, true, true, false] rfl (ok_2_callVoters_l20 a0 a1 k0 k1 n (v2 + 1) μ11 _ h KX)
        · rw [if_pos hc] at h
          refine R_goto (dd dt_2_callVoters 28 rfl) (tgt := 110) rfl ?_
          refine R_iinc (v := 1) (lv' := [some (.ref a0), some (.ref a1), some (.int (v2 + 1)), some (.ref r1)]) (dd dt_2_callVoters 60 rfl) (by decide) rfl rfl ic_1 rfl ?_
          refine R_goto (dd dt_2_callVoters 61 rfl) (tgt := 20) rfl ?_
          exact R_mask [true, true, true, false] rfl (ok_2_callVoters_l20 a0 a1 k0 k1 n (v2 + 1) μ _ h KX)
def f_2_callVoters (a0 : Nat) (a1 : Nat) (μ : mm) : Option (mm) :=
  (pf μ a0 3 0).bind fun μ1 =>
  (pf μ1 a0 4 0).bind fun μ3 =>
  (f_J7_fill (rf a0 5) 0 μ3).bind fun μ6 =>
  (f_2_callVoters_l20 a0 a1 FU 0 μ6).bind fun z7 =>
  some z7
set_option maxRecDepth 100000 in
set_option maxHeartbeats 4000000 in
theorem ok_2_callVoters {l : Launch} {E : ce} {d : Nat}  {a0 : Nat} {a1 : Nat} {μ : mm} {r : mm} {Q : Option Value → mm → Prop} (h : f_2_callVoters a0 a1 μ = some r) (k0 : kd a0 = 2) (k1 : kd a1 = 9) (hQ : Q none r) : Ct l E (d + 4) yX2_callVoters m_2_callVoters [.ref a0, .ref a1] μ Q := by
  refine Ct_of (lv := [some (.ref a0), some (.ref a1), none, none]) (by decide) rfl (Nat.le_of_ble_eq_true rfl) rfl ?_
  unfold f_2_callVoters at h
  refine R_aload_n (dd dt_2_callVoters 0 rfl) 0 rfl rfl ?_
  refine R_iconst (v := 0) (dd dt_2_callVoters 1 rfl) ic_0 ?_
  obtain ⟨μ1, e2, h⟩ := bi_el h
  refine p_2_24 rfl k0 (dd dt_2_callVoters 2 rfl) e2 ?_
  refine R_aload_n (dd dt_2_callVoters 3 rfl) 0 rfl rfl ?_
  refine R_iconst (v := 0) (dd dt_2_callVoters 4 rfl) ic_0 ?_
  obtain ⟨μ3, e4, h⟩ := bi_el h
  refine p_2_27 rfl k0 (dd dt_2_callVoters 5 rfl) e4 ?_
  refine R_aload_n (dd dt_2_callVoters 6 rfl) 0 rfl rfl ?_
  refine g_2_30 rfl k0 (dd dt_2_callVoters 7 rfl) ?_
  refine R_iconst (v := 0) (dd dt_2_callVoters 8 rfl) ic_0 ?_
  obtain ⟨μ6, e5, h⟩ := bi_el h
  refine c_2_39 (As := [.ref (rf a0 5), .int 0]) (st1 := []) rfl (fun Q1 hq => ok_J7_fill e5 (ty_2_5 k0) hq) rfl rfl (Nat.le_of_ble_eq_true rfl) (dd dt_2_callVoters 9 rfl) rfl ?_
  refine R_iconst (v := 0) (dd dt_2_callVoters 10 rfl) ic_0 ?_
  refine R_istore_n (lv' := [some (.ref a0), some (.ref a1), some (.int 0), none]) (dd dt_2_callVoters 11 rfl) 2 rfl (by decide) rfl rfl ?_
  obtain ⟨z7, e8, h⟩ := bi_el h
  refine R_mask [true, true, true, false] rfl (ok_2_callVoters_l20 a0 a1 k0 k1 FU 0 μ6 _ e8 ?_)
  obtain rfl := Option.some.inj h
  exact R_vret rfl (dd dt_2_callVoters 62 rfl) hQ
/-! LongStrike$Offers.contentPits(ILLongStrike$Valley;)I -/
def tab_2_contentPits : List (Nat × Instr × Nat) := [(0, .iconst 0, 1), (1, .istore_n 3, 1), (2, .iconst 0, 1), (3, .istore 4, 2), (5, .iload 4, 2), (7, .aload_n 2, 1), (8, .getfield 70, 3), (11, .if_icmp .ge 76, 3), (14, .iconst 0, 1), (15, .istore 5, 2), (17, .iconst 0, 1), (18, .istore 6, 2), (20, .iload 6, 2), (22, .aload_n 0, 1), (23, .getfield 9, 3), (26, .if_icmp .ge 33, 3), (29, .iload_n 1, 1), (30, .iconst 1, 1), (31, .iload 6, 2), (33, .ishl, 1), (34, .iand, 1), (35, .ifCond .eq 18, 3), (38, .iload 5, 2), (40, .aload_n 0, 1), (41, .getfield 21, 3), (44, .iload 6, 2), (46, .aaload, 1), (47, .iload 4, 2), (49, .iaload, 1), (50, .iadd, 1), (51, .istore 5, 2), (53, .iinc 6 1, 3), (56, .goto (-36), 3), (59, .iload 5, 2), (61, .aload_n 2, 1), (62, .getfield 73, 3), (65, .iload 4, 2), (67, .aaload, 1), (68, .getfield 77, 3), (71, .if_icmp .lt 10, 3), (74, .iload_n 3, 1), (75, .iconst 1, 1), (76, .iload 4, 2), (78, .ishl, 1), (79, .ior, 1), (80, .istore_n 3, 1), (81, .iinc 4 1, 3), (84, .goto (-79), 3), (87, .iload_n 3, 1), (88, .ireturn, 1)]
set_option maxRecDepth 100000 in
theorem dt_2_contentPits : ∀ q ∈ tab_2_contentPits, decode m_2_contentPits.2.1 q.1 = .ok q.2 := by decide +kernel
def f_2_contentPits_l20 (a0 : Nat) (a1 : Int32) (a2 : Nat) (a3 : Int32) (a4 : Int32) (μ : mm) : Nat → Int32 → Int32 → Option (Int32)
  | 0, _, _ => none
  | n + 1, v5, v6 => if (μ a0 0) ≤ v6 then
      some v5
    else
      if (a1 &&& (1 <<< (v6 &&& 31))) = 0 then
        f_2_contentPits_l20 a0 a1 a2 a3 a4 μ n v5 (v6 + 1)
      else
        (lda (rf a0 2) v6).bind fun r1 =>
        (ld μ r1 a4).bind fun x3 =>
        f_2_contentPits_l20 a0 a1 a2 a3 a4 μ n (v5 + x3) (v6 + 1)
set_option maxRecDepth 100000 in
theorem ok_2_contentPits_l20 {l : Launch} {E : ce} {d : Nat} {Q : Option Value → mm → Prop} (a0 : Nat) (a1 : Int32) (a2 : Nat) (a3 : Int32) (a4 : Int32) (μ : mm) (k0 : kd a0 = 2) (k2 : kd a2 = 9) : ∀ (n : Nat) (v5 : Int32) (v6 : Int32) (z : Int32), f_2_contentPits_l20 a0 a1 a2 a3 a4 μ n v5 v6 = some z → Rj l E d m_2_contentPits 59 [some (.ref a0), some (.int a1), some (.ref a2), some (.int a3), some (.int a4), some (.int z), none] [] μ Q → Rj l E d m_2_contentPits 20 [some (.ref a0), some (.int a1), some (.ref a2), some (.int a3), some (.int a4), some (.int v5), some (.int v6)] [] μ Q
  | 0, _, _, z, h, _ => by
    rw [f_2_contentPits_l20] at h
    cases h
  | n + 1, v5, v6, z, h, KX => by
    rw [f_2_contentPits_l20] at h
    refine R_iload (dd dt_2_contentPits 12 rfl) rfl ?_
    refine R_aload_n (dd dt_2_contentPits 13 rfl) 0 rfl rfl ?_
    refine g_2_9 rfl k0 (dd dt_2_contentPits 14 rfl) ?_
    refine R_cmpge (dd dt_2_contentPits 15 rfl) (tgt := 59) rfl (fun hc => ?_) (fun hc => ?_)
    · rw [if_pos hc] at h
      obtain rfl := Option.some.inj h
      exact R_mask [true, true, true, true, true, true, false] rfl KX
    · rw [if_neg hc] at h
      refine R_iload_n (dd dt_2_contentPits 16 rfl) 1 rfl rfl ?_
      refine R_iconst (v := 1) (dd dt_2_contentPits 17 rfl) ic_1 ?_
      refine R_iload (dd dt_2_contentPits 18 rfl) rfl ?_
      refine R_ishl (dd dt_2_contentPits 19 rfl) ?_
      refine R_iand (dd dt_2_contentPits 20 rfl) ?_
      refine R_ifeq (dd dt_2_contentPits 21 rfl) (tgt := 53) rfl (fun hc => ?_) (fun hc => ?_)
      · rw [if_pos hc] at h
        refine R_iinc (v := 1) (lv' := [some (.ref a0), some (.int a1), some (.ref a2), some (.int a3), some (.int a4), some (.int v5), some (.int (v6 + 1))]) (dd dt_2_contentPits 31 rfl) (by decide) rfl rfl ic_1 rfl ?_
        refine R_goto (dd dt_2_contentPits 32 rfl) (tgt := 20) rfl ?_
        exact R_mask [true, true, true, true, true, true, true] rfl (ok_2_contentPits_l20 a0 a1 a2 a3 a4 μ k0 k2 n v5 (v6 + 1) _ h KX)
      · rw [if_neg hc] at h
        refine R_iload (dd dt_2_contentPits 22 rfl) rfl ?_
        refine R_aload_n (dd dt_2_contentPits 23 rfl) 0 rfl rfl ?_
        refine g_2_21 rfl k0 (dd dt_2_contentPits 24 rfl) ?_
        refine R_iload (dd dt_2_contentPits 25 rfl) rfl ?_
        obtain ⟨r1, e2, h⟩ := bi_el h
        refine R_aald (t0 := 3) e2 (ty_2_2 k0) (by decide) (by decide) rfl rfl (dd dt_2_contentPits 26 rfl) ?_
        refine R_iload (dd dt_2_contentPits 27 rfl) rfl ?_
        obtain ⟨x3, e4, h⟩ := bi_el h
        refine R_ild e4 (tl_23 e2 (ty_2_2 k0)) (dd dt_2_contentPits 28 rfl) ?_
        refine R_iadd (dd dt_2_contentPits 29 rfl) ?_
        refine R_istore (lv' := [some (.ref a0), some (.int a1), some (.ref a2), some (.int a3), some (.int a4), some (.int (v5 + x3)), some (.int v6)]) (dd dt_2_contentPits 30 rfl) (by decide) rfl rfl ?_
        refine R_iinc (v := 1) (lv' := [some (.ref a0), some (.int a1), some (.ref a2), some (.int a3), some (.int a4), some (.int (v5 + x3)), some (.int (v6 + 1))]) (dd dt_2_contentPits 31 rfl) (by decide) rfl rfl ic_1 rfl ?_
        refine R_goto (dd dt_2_contentPits 32 rfl) (tgt := 20) rfl ?_
        exact R_mask [true, true, true, true, true, true, true] rfl (ok_2_contentPits_l20 a0 a1 a2 a3 a4 μ k0 k2 n (v5 + x3) (v6 + 1) _ h KX)
def f_2_contentPits_l5 (a0 : Nat) (a1 : Int32) (a2 : Nat) (μ : mm) : Nat → Int32 → Int32 → Option (Int32)
  | 0, _, _ => none
  | n + 1, v3, v4 => if (μ a2 2) ≤ v4 then
      some v3
    else
      (f_2_contentPits_l20 a0 a1 a2 v3 v4 μ FU 0 0).bind fun z1 =>
      (lda (rf a2 8) v4).bind fun r3 =>
      if z1 < (μ r3 6) then
        f_2_contentPits_l5 a0 a1 a2 μ n v3 (v4 + 1)
      else
        f_2_contentPits_l5 a0 a1 a2 μ n (v3 ||| (1 <<< (v4 &&& 31))) (v4 + 1)
set_option maxRecDepth 100000 in
theorem ok_2_contentPits_l5 {l : Launch} {E : ce} {d : Nat} {Q : Option Value → mm → Prop} (a0 : Nat) (a1 : Int32) (a2 : Nat) (μ : mm) (k0 : kd a0 = 2) (k2 : kd a2 = 9) : ∀ (n : Nat) (v3 : Int32) (v4 : Int32) (z : Int32), f_2_contentPits_l5 a0 a1 a2 μ n v3 v4 = some z → Rj l E d m_2_contentPits 87 [none, none, none, some (.int z), none, none, none] [] μ Q → Rj l E d m_2_contentPits 5 [some (.ref a0), some (.int a1), some (.ref a2), some (.int v3), some (.int v4), none, none] [] μ Q
  | 0, _, _, z, h, _ => by
    rw [f_2_contentPits_l5] at h
    cases h
  | n + 1, v3, v4, z, h, KX => by
    rw [f_2_contentPits_l5] at h
    refine R_iload (dd dt_2_contentPits 4 rfl) rfl ?_
    refine R_aload_n (dd dt_2_contentPits 5 rfl) 2 rfl rfl ?_
    refine g_2_70 rfl k2 (dd dt_2_contentPits 6 rfl) ?_
    refine R_cmpge (dd dt_2_contentPits 7 rfl) (tgt := 87) rfl (fun hc => ?_) (fun hc => ?_)
    · rw [if_pos hc] at h
      obtain rfl := Option.some.inj h
      exact R_mask [false, false, false, true, false, false, false] rfl KX
    · rw [if_neg hc] at h
      refine R_iconst (v := 0) (dd dt_2_contentPits 8 rfl) ic_0 ?_
      refine R_istore (lv' := [some (.ref a0), some (.int a1), some (.ref a2), some (.int v3), some (.int v4), some (.int 0), none]) (dd dt_2_contentPits 9 rfl) (by decide) rfl rfl ?_
      refine R_iconst (v := 0) (dd dt_2_contentPits 10 rfl) ic_0 ?_
      refine R_istore (lv' := [some (.ref a0), some (.int a1), some (.ref a2), some (.int v3), some (.int v4), some (.int 0), some (.int 0)]) (dd dt_2_contentPits 11 rfl) (by decide) rfl rfl ?_
      obtain ⟨z1, e2, h⟩ := bi_el h
      refine R_mask [true, true, true, true, true, true, true] rfl (ok_2_contentPits_l20 a0 a1 a2 v3 v4 μ k0 k2 FU 0 0 _ e2 ?_)
      refine R_iload (dd dt_2_contentPits 33 rfl) rfl ?_
      refine R_aload_n (dd dt_2_contentPits 34 rfl) 2 rfl rfl ?_
      refine g_2_73 rfl k2 (dd dt_2_contentPits 35 rfl) ?_
      refine R_iload (dd dt_2_contentPits 36 rfl) rfl ?_
      obtain ⟨r3, e4, h⟩ := bi_el h
      refine R_aald (t0 := 4) e4 (ty_9_8 k2) (by decide) (by decide) rfl rfl (dd dt_2_contentPits 37 rfl) ?_
      refine g_2_77 rfl (tl_24 e4 (ty_9_8 k2)) (dd dt_2_contentPits 38 rfl) ?_
      refine R_cmplt (dd dt_2_contentPits 39 rfl) (tgt := 81) rfl (fun hc => ?_) (fun hc => ?_)
      · rw [if_pos hc] at h
        refine R_iinc (v := 1) (lv' := [some (.ref a0), some (.int a1), some (.ref a2), some (.int v3), some (.int (v4 + 1)), some (.int z1), none]) (dd dt_2_contentPits 46 rfl) (by decide) rfl rfl ic_1 rfl ?_
        refine R_goto (dd dt_2_contentPits 47 rfl) (tgt := 5) rfl ?_
        exact R_mask [true, true, true, true, true, false, false] rfl (ok_2_contentPits_l5 a0 a1 a2 μ k0 k2 n v3 (v4 + 1) _ h KX)
      · rw [if_neg hc] at h
        refine R_iload_n (dd dt_2_contentPits 40 rfl) 3 rfl rfl ?_
        refine R_iconst (v := 1) (dd dt_2_contentPits 41 rfl) ic_1 ?_
        refine R_iload (dd dt_2_contentPits 42 rfl) rfl ?_
        refine R_ishl (dd dt_2_contentPits 43 rfl) ?_
        refine R_ior (dd dt_2_contentPits 44 rfl) ?_
        refine R_istore_n (lv' := [some (.ref a0), some (.int a1), some (.ref a2), some (.int (v3 ||| (1 <<< (v4 &&& 31)))), some (.int v4), some (.int z1), none]) (dd dt_2_contentPits 45 rfl) 3 rfl (by decide) rfl rfl ?_
        refine R_iinc (v := 1) (lv' := [some (.ref a0), some (.int a1), some (.ref a2), some (.int (v3 ||| (1 <<< (v4 &&& 31)))), some (.int (v4 + 1)), some (.int z1), none]) (dd dt_2_contentPits 46 rfl) (by decide) rfl rfl ic_1 rfl ?_
        refine R_goto (dd dt_2_contentPits 47 rfl) (tgt := 5) rfl ?_
        exact R_mask [true, true, true, true, true, false, false] rfl (ok_2_contentPits_l5 a0 a1 a2 μ k0 k2 n (v3 ||| (1 <<< (v4 &&& 31))) (v4 + 1) _ h KX)
def f_2_contentPits (a0 : Nat) (a1 : Int32) (a2 : Nat) (μ : mm) : Option (Int32) :=
  (f_2_contentPits_l5 a0 a1 a2 μ FU 0 0).bind fun z1 =>
  some z1
set_option maxRecDepth 100000 in
set_option maxHeartbeats 4000000 in
theorem ok_2_contentPits {l : Launch} {E : ce} {d : Nat}  {a0 : Nat} {a1 : Int32} {a2 : Nat} {μ : mm} {r : Int32} {Q : Option Value → mm → Prop} (h : f_2_contentPits a0 a1 a2 μ = some r) (k0 : kd a0 = 2) (k2 : kd a2 = 9) (hQ : Q (some (.int r)) μ) : Ct l E d yX2_contentPits m_2_contentPits [.ref a0, .int a1, .ref a2] μ Q := by
  refine Ct_of (lv := [some (.ref a0), some (.int a1), some (.ref a2), none, none, none, none]) (by decide) rfl (Nat.le_of_ble_eq_true rfl) rfl ?_
  unfold f_2_contentPits at h
  refine R_iconst (v := 0) (dd dt_2_contentPits 0 rfl) ic_0 ?_
  refine R_istore_n (lv' := [some (.ref a0), some (.int a1), some (.ref a2), some (.int 0), none, none, none]) (dd dt_2_contentPits 1 rfl) 3 rfl (by decide) rfl rfl ?_
  refine R_iconst (v := 0) (dd dt_2_contentPits 2 rfl) ic_0 ?_
  refine R_istore (lv' := [some (.ref a0), some (.int a1), some (.ref a2), some (.int 0), some (.int 0), none, none]) (dd dt_2_contentPits 3 rfl) (by decide) rfl rfl ?_
  obtain ⟨z1, e2, h⟩ := bi_el h
  refine R_mask [true, true, true, true, true, false, false] rfl (ok_2_contentPits_l5 a0 a1 a2 μ k0 k2 FU 0 0 _ e2 ?_)
  refine R_iload_n (dd dt_2_contentPits 48 rfl) 3 rfl rfl ?_
  obtain rfl := Option.some.inj h
  exact R_iret rfl (dd dt_2_contentPits 49 rfl) hQ
/-! LongStrike$Offers.costOf(I)I -/
def tab_2_costOf : List (Nat × Instr × Nat) := [(0, .iconst 0, 1), (1, .istore_n 2, 1), (2, .iconst 0, 1), (3, .istore_n 3, 1), (4, .iload_n 3, 1), (5, .aload_n 0, 1), (6, .getfield 9, 3), (9, .if_icmp .ge 26, 3), (12, .iload_n 1, 1), (13, .iconst 1, 1), (14, .iload_n 3, 1), (15, .ishl, 1), (16, .iand, 1), (17, .ifCond .eq 12, 3), (20, .iload_n 2, 1), (21, .aload_n 0, 1), (22, .getfield 15, 3), (25, .iload_n 3, 1), (26, .iaload, 1), (27, .iadd, 1), (28, .istore_n 2, 1), (29, .iinc 3 1, 3), (32, .goto (-28), 3), (35, .iload_n 2, 1), (36, .ireturn, 1)]
set_option maxRecDepth 100000 in
theorem dt_2_costOf : ∀ q ∈ tab_2_costOf, decode m_2_costOf.2.1 q.1 = .ok q.2 := by decide +kernel
def f_2_costOf_l4 (a0 : Nat) (a1 : Int32) (μ : mm) : Nat → Int32 → Int32 → Option (Int32)
  | 0, _, _ => none
  | n + 1, v2, v3 => if (μ a0 0) ≤ v3 then
      some v2
    else
      if (a1 &&& (1 <<< (v3 &&& 31))) = 0 then
        f_2_costOf_l4 a0 a1 μ n v2 (v3 + 1)
      else
        (ld μ (rf a0 1) v3).bind fun x1 =>
        f_2_costOf_l4 a0 a1 μ n (v2 + x1) (v3 + 1)
set_option maxRecDepth 100000 in
theorem ok_2_costOf_l4 {l : Launch} {E : ce} {d : Nat} {Q : Option Value → mm → Prop} (a0 : Nat) (a1 : Int32) (μ : mm) (k0 : kd a0 = 2) : ∀ (n : Nat) (v2 : Int32) (v3 : Int32) (z : Int32), f_2_costOf_l4 a0 a1 μ n v2 v3 = some z → Rj l E d m_2_costOf 35 [none, none, some (.int z), none] [] μ Q → Rj l E d m_2_costOf 4 [some (.ref a0), some (.int a1), some (.int v2), some (.int v3)] [] μ Q
  | 0, _, _, z, h, _ => by
    rw [f_2_costOf_l4] at h
    cases h
  | n + 1, v2, v3, z, h, KX => by
    rw [f_2_costOf_l4] at h
    refine R_iload_n (dd dt_2_costOf 4 rfl) 3 rfl rfl ?_
    refine R_aload_n (dd dt_2_costOf 5 rfl) 0 rfl rfl ?_
    refine g_2_9 rfl k0 (dd dt_2_costOf 6 rfl) ?_
    refine R_cmpge (dd dt_2_costOf 7 rfl) (tgt := 35) rfl (fun hc => ?_) (fun hc => ?_)
    · rw [if_pos hc] at h
      obtain rfl := Option.some.inj h
      exact R_mask [false, false, true, false] rfl KX
    · rw [if_neg hc] at h
      refine R_iload_n (dd dt_2_costOf 8 rfl) 1 rfl rfl ?_
      refine R_iconst (v := 1) (dd dt_2_costOf 9 rfl) ic_1 ?_
      refine R_iload_n (dd dt_2_costOf 10 rfl) 3 rfl rfl ?_
      refine R_ishl (dd dt_2_costOf 11 rfl) ?_
      refine R_iand (dd dt_2_costOf 12 rfl) ?_
      refine R_ifeq (dd dt_2_costOf 13 rfl) (tgt := 29) rfl (fun hc => ?_) (fun hc => ?_)
      · rw [if_pos hc] at h
        refine R_iinc (v := 1) (lv' := [some (.ref a0), some (.int a1), some (.int v2), some (.int (v3 + 1))]) (dd dt_2_costOf 21 rfl) (by decide) rfl rfl ic_1 rfl ?_
        refine R_goto (dd dt_2_costOf 22 rfl) (tgt := 4) rfl ?_
        exact R_mask [true, true, true, true] rfl (ok_2_costOf_l4 a0 a1 μ k0 n v2 (v3 + 1) _ h KX)
      · rw [if_neg hc] at h
        refine R_iload_n (dd dt_2_costOf 14 rfl) 2 rfl rfl ?_
        refine R_aload_n (dd dt_2_costOf 15 rfl) 0 rfl rfl ?_
        refine g_2_15 rfl k0 (dd dt_2_costOf 16 rfl) ?_
        refine R_iload_n (dd dt_2_costOf 17 rfl) 3 rfl rfl ?_
        obtain ⟨x1, e2, h⟩ := bi_el h
        refine R_ild e2 (ty_2_1 k0) (dd dt_2_costOf 18 rfl) ?_
        refine R_iadd (dd dt_2_costOf 19 rfl) ?_
        refine R_istore_n (lv' := [some (.ref a0), some (.int a1), some (.int (v2 + x1)), some (.int v3)]) (dd dt_2_costOf 20 rfl) 2 rfl (by decide) rfl rfl ?_
        refine R_iinc (v := 1) (lv' := [some (.ref a0), some (.int a1), some (.int (v2 + x1)), some (.int (v3 + 1))]) (dd dt_2_costOf 21 rfl) (by decide) rfl rfl ic_1 rfl ?_
        refine R_goto (dd dt_2_costOf 22 rfl) (tgt := 4) rfl ?_
        exact R_mask [true, true, true, true] rfl (ok_2_costOf_l4 a0 a1 μ k0 n (v2 + x1) (v3 + 1) _ h KX)
def f_2_costOf (a0 : Nat) (a1 : Int32) (μ : mm) : Option (Int32) :=
  (f_2_costOf_l4 a0 a1 μ FU 0 0).bind fun z1 =>
  some z1
set_option maxRecDepth 100000 in
set_option maxHeartbeats 4000000 in
theorem ok_2_costOf {l : Launch} {E : ce} {d : Nat}  {a0 : Nat} {a1 : Int32} {μ : mm} {r : Int32} {Q : Option Value → mm → Prop} (h : f_2_costOf a0 a1 μ = some r) (k0 : kd a0 = 2) (hQ : Q (some (.int r)) μ) : Ct l E d yX2_costOf m_2_costOf [.ref a0, .int a1] μ Q := by
  refine Ct_of (lv := [some (.ref a0), some (.int a1), none, none]) (by decide) rfl (Nat.le_of_ble_eq_true rfl) rfl ?_
  unfold f_2_costOf at h
  refine R_iconst (v := 0) (dd dt_2_costOf 0 rfl) ic_0 ?_
  refine R_istore_n (lv' := [some (.ref a0), some (.int a1), some (.int 0), none]) (dd dt_2_costOf 1 rfl) 2 rfl (by decide) rfl rfl ?_
  refine R_iconst (v := 0) (dd dt_2_costOf 2 rfl) ic_0 ?_
  refine R_istore_n (lv' := [some (.ref a0), some (.int a1), some (.int 0), some (.int 0)]) (dd dt_2_costOf 3 rfl) 3 rfl (by decide) rfl rfl ?_
  obtain ⟨z1, e2, h⟩ := bi_el h
  refine R_mask [true, true, true, true] rfl (ok_2_costOf_l4 a0 a1 μ k0 FU 0 0 _ e2 ?_)
  refine R_iload_n (dd dt_2_costOf 23 rfl) 2 rfl rfl ?_
  obtain rfl := Option.some.inj h
  exact R_iret rfl (dd dt_2_costOf 24 rfl) hQ
/-! LongStrike$Offers.votes()I -/
def tab_2_votes : List (Nat × Instr × Nat) := [(0, .aload_n 0, 1), (1, .getfield 24, 3), (4, .aload_n 0, 1), (5, .getfield 27, 3), (8, .iadd, 1), (9, .istore_n 1, 1), (10, .iconst 0, 1), (11, .istore_n 2, 1), (12, .iload_n 2, 1), (13, .iconst 4, 1), (14, .if_icmp .ge 18, 3), (17, .iload_n 1, 1), (18, .aload_n 0, 1), (19, .getfield 30, 3), (22, .iload_n 2, 1), (23, .iaload, 1), (24, .iadd, 1), (25, .istore_n 1, 1), (26, .iinc 2 1, 3), (29, .goto (-17), 3), (32, .iload_n 1, 1), (33, .ireturn, 1)]
set_option maxRecDepth 100000 in
theorem dt_2_votes : ∀ q ∈ tab_2_votes, decode m_2_votes.2.1 q.1 = .ok q.2 := by decide +kernel
def f_2_votes_l12 (a0 : Nat) (μ : mm) : Nat → Int32 → Int32 → Option (Int32)
  | 0, _, _ => none
  | n + 1, v1, v2 => if 4 ≤ v2 then
      some v1
    else
      (ld μ (rf a0 5) v2).bind fun x1 =>
      f_2_votes_l12 a0 μ n (v1 + x1) (v2 + 1)
set_option maxRecDepth 100000 in
theorem ok_2_votes_l12 {l : Launch} {E : ce} {d : Nat} {Q : Option Value → mm → Prop} (a0 : Nat) (μ : mm) (k0 : kd a0 = 2) : ∀ (n : Nat) (v1 : Int32) (v2 : Int32) (z : Int32), f_2_votes_l12 a0 μ n v1 v2 = some z → Rj l E d m_2_votes 32 [none, some (.int z), none] [] μ Q → Rj l E d m_2_votes 12 [some (.ref a0), some (.int v1), some (.int v2)] [] μ Q
  | 0, _, _, z, h, _ => by
    rw [f_2_votes_l12] at h
    cases h
  | n + 1, v1, v2, z, h, KX => by
    rw [f_2_votes_l12] at h
    refine R_iload_n (dd dt_2_votes 8 rfl) 2 rfl rfl ?_
    refine R_iconst (v := 4) (dd dt_2_votes 9 rfl) ic_4 ?_
    refine R_cmpge (dd dt_2_votes 10 rfl) (tgt := 32) rfl (fun hc => ?_) (fun hc => ?_)
    · rw [if_pos hc] at h
      obtain rfl := Option.some.inj h
      exact R_mask [false, true, false] rfl KX
    · rw [if_neg hc] at h
      refine R_iload_n (dd dt_2_votes 11 rfl) 1 rfl rfl ?_
      refine R_aload_n (dd dt_2_votes 12 rfl) 0 rfl rfl ?_
      refine g_2_30 rfl k0 (dd dt_2_votes 13 rfl) ?_
      refine R_iload_n (dd dt_2_votes 14 rfl) 2 rfl rfl ?_
      obtain ⟨x1, e2, h⟩ := bi_el h
      refine R_ild e2 (ty_2_5 k0) (dd dt_2_votes 15 rfl) ?_
      refine R_iadd (dd dt_2_votes 16 rfl) ?_
      refine R_istore_n (lv' := [some (.ref a0), some (.int (v1 + x1)), some (.int v2)]) (dd dt_2_votes 17 rfl) 1 rfl (by decide) rfl rfl ?_
      refine R_iinc (v := 1) (lv' := [some (.ref a0), some (.int (v1 + x1)), some (.int (v2 + 1))]) (dd dt_2_votes 18 rfl) (by decide) rfl rfl ic_1 rfl ?_
      refine R_goto (dd dt_2_votes 19 rfl) (tgt := 12) rfl ?_
      exact R_mask [true, true, true] rfl (ok_2_votes_l12 a0 μ k0 n (v1 + x1) (v2 + 1) _ h KX)
def f_2_votes (a0 : Nat) (μ : mm) : Option (Int32) :=
  (f_2_votes_l12 a0 μ FU ((μ a0 3) + (μ a0 4)) 0).bind fun z1 =>
  some z1
set_option maxRecDepth 100000 in
set_option maxHeartbeats 4000000 in
theorem ok_2_votes {l : Launch} {E : ce} {d : Nat}  {a0 : Nat} {μ : mm} {r : Int32} {Q : Option Value → mm → Prop} (h : f_2_votes a0 μ = some r) (k0 : kd a0 = 2) (hQ : Q (some (.int r)) μ) : Ct l E d yX2_votes m_2_votes [.ref a0] μ Q := by
  refine Ct_of (lv := [some (.ref a0), none, none]) (by decide) rfl (Nat.le_of_ble_eq_true rfl) rfl ?_
  unfold f_2_votes at h
  refine R_aload_n (dd dt_2_votes 0 rfl) 0 rfl rfl ?_
  refine g_2_24 rfl k0 (dd dt_2_votes 1 rfl) ?_
  refine R_aload_n (dd dt_2_votes 2 rfl) 0 rfl rfl ?_
  refine g_2_27 rfl k0 (dd dt_2_votes 3 rfl) ?_
  refine R_iadd (dd dt_2_votes 4 rfl) ?_
  refine R_istore_n (lv' := [some (.ref a0), some (.int ((μ a0 3) + (μ a0 4))), none]) (dd dt_2_votes 5 rfl) 1 rfl (by decide) rfl rfl ?_
  refine R_iconst (v := 0) (dd dt_2_votes 6 rfl) ic_0 ?_
  refine R_istore_n (lv' := [some (.ref a0), some (.int ((μ a0 3) + (μ a0 4))), some (.int 0)]) (dd dt_2_votes 7 rfl) 2 rfl (by decide) rfl rfl ?_
  obtain ⟨z1, e2, h⟩ := bi_el h
  refine R_mask [true, true, true] rfl (ok_2_votes_l12 a0 μ k0 FU ((μ a0 3) + (μ a0 4)) 0 _ e2 ?_)
  refine R_iload_n (dd dt_2_votes 20 rfl) 1 rfl rfl ?_
  obtain rfl := Option.some.inj h
  exact R_iret rfl (dd dt_2_votes 21 rfl) hQ
/-! LongStrike$Offers.yesOf(I)I -/
def tab_2_yesOf : List (Nat × Instr × Nat) := [(0, .aload_n 0, 1), (1, .getfield 24, 3), (4, .istore_n 2, 1), (5, .iconst 0, 1), (6, .istore_n 3, 1), (7, .iload_n 3, 1), (8, .iconst 4, 1), (9, .if_icmp .ge 26, 3), (12, .iload_n 1, 1), (13, .iconst 1, 1), (14, .iload_n 3, 1), (15, .ishl, 1), (16, .iand, 1), (17, .ifCond .eq 12, 3), (20, .iload_n 2, 1), (21, .aload_n 0, 1), (22, .getfield 30, 3), (25, .iload_n 3, 1), (26, .iaload, 1), (27, .iadd, 1), (28, .istore_n 2, 1), (29, .iinc 3 1, 3), (32, .goto (-25), 3), (35, .iload_n 2, 1), (36, .ireturn, 1)]
set_option maxRecDepth 100000 in
theorem dt_2_yesOf : ∀ q ∈ tab_2_yesOf, decode m_2_yesOf.2.1 q.1 = .ok q.2 := by decide +kernel
def f_2_yesOf_l7 (a0 : Nat) (a1 : Int32) (μ : mm) : Nat → Int32 → Int32 → Option (Int32)
  | 0, _, _ => none
  | n + 1, v2, v3 => if 4 ≤ v3 then
      some v2
    else
      if (a1 &&& (1 <<< (v3 &&& 31))) = 0 then
        f_2_yesOf_l7 a0 a1 μ n v2 (v3 + 1)
      else
        (ld μ (rf a0 5) v3).bind fun x1 =>
        f_2_yesOf_l7 a0 a1 μ n (v2 + x1) (v3 + 1)
set_option maxRecDepth 100000 in
theorem ok_2_yesOf_l7 {l : Launch} {E : ce} {d : Nat} {Q : Option Value → mm → Prop} (a0 : Nat) (a1 : Int32) (μ : mm) (k0 : kd a0 = 2) : ∀ (n : Nat) (v2 : Int32) (v3 : Int32) (z : Int32), f_2_yesOf_l7 a0 a1 μ n v2 v3 = some z → Rj l E d m_2_yesOf 35 [none, none, some (.int z), none] [] μ Q → Rj l E d m_2_yesOf 7 [some (.ref a0), some (.int a1), some (.int v2), some (.int v3)] [] μ Q
  | 0, _, _, z, h, _ => by
    rw [f_2_yesOf_l7] at h
    cases h
  | n + 1, v2, v3, z, h, KX => by
    rw [f_2_yesOf_l7] at h
    refine R_iload_n (dd dt_2_yesOf 5 rfl) 3 rfl rfl ?_
    refine R_iconst (v := 4) (dd dt_2_yesOf 6 rfl) ic_4 ?_
    refine R_cmpge (dd dt_2_yesOf 7 rfl) (tgt := 35) rfl (fun hc => ?_) (fun hc => ?_)
    · rw [if_pos hc] at h
      obtain rfl := Option.some.inj h
      exact R_mask [false, false, true, false] rfl KX
    · rw [if_neg hc] at h
      refine R_iload_n (dd dt_2_yesOf 8 rfl) 1 rfl rfl ?_
      refine R_iconst (v := 1) (dd dt_2_yesOf 9 rfl) ic_1 ?_
      refine R_iload_n (dd dt_2_yesOf 10 rfl) 3 rfl rfl ?_
      refine R_ishl (dd dt_2_yesOf 11 rfl) ?_
      refine R_iand (dd dt_2_yesOf 12 rfl) ?_
      refine R_ifeq (dd dt_2_yesOf 13 rfl) (tgt := 29) rfl (fun hc => ?_) (fun hc => ?_)
      · rw [if_pos hc] at h
        refine R_iinc (v := 1) (lv' := [some (.ref a0), some (.int a1), some (.int v2), some (.int (v3 + 1))]) (dd dt_2_yesOf 21 rfl) (by decide) rfl rfl ic_1 rfl ?_
        refine R_goto (dd dt_2_yesOf 22 rfl) (tgt := 7) rfl ?_
        exact R_mask [true, true, true, true] rfl (ok_2_yesOf_l7 a0 a1 μ k0 n v2 (v3 + 1) _ h KX)
      · rw [if_neg hc] at h
        refine R_iload_n (dd dt_2_yesOf 14 rfl) 2 rfl rfl ?_
        refine R_aload_n (dd dt_2_yesOf 15 rfl) 0 rfl rfl ?_
        refine g_2_30 rfl k0 (dd dt_2_yesOf 16 rfl) ?_
        refine R_iload_n (dd dt_2_yesOf 17 rfl) 3 rfl rfl ?_
        obtain ⟨x1, e2, h⟩ := bi_el h
        refine R_ild e2 (ty_2_5 k0) (dd dt_2_yesOf 18 rfl) ?_
        refine R_iadd (dd dt_2_yesOf 19 rfl) ?_
        refine R_istore_n (lv' := [some (.ref a0), some (.int a1), some (.int (v2 + x1)), some (.int v3)]) (dd dt_2_yesOf 20 rfl) 2 rfl (by decide) rfl rfl ?_
        refine R_iinc (v := 1) (lv' := [some (.ref a0), some (.int a1), some (.int (v2 + x1)), some (.int (v3 + 1))]) (dd dt_2_yesOf 21 rfl) (by decide) rfl rfl ic_1 rfl ?_
        refine R_goto (dd dt_2_yesOf 22 rfl) (tgt := 7) rfl ?_
        exact R_mask [true, true, true, true] rfl (ok_2_yesOf_l7 a0 a1 μ k0 n (v2 + x1) (v3 + 1) _ h KX)
def f_2_yesOf (a0 : Nat) (a1 : Int32) (μ : mm) : Option (Int32) :=
  (f_2_yesOf_l7 a0 a1 μ FU (μ a0 3) 0).bind fun z1 =>
  some z1
set_option maxRecDepth 100000 in
set_option maxHeartbeats 4000000 in
theorem ok_2_yesOf {l : Launch} {E : ce} {d : Nat}  {a0 : Nat} {a1 : Int32} {μ : mm} {r : Int32} {Q : Option Value → mm → Prop} (h : f_2_yesOf a0 a1 μ = some r) (k0 : kd a0 = 2) (hQ : Q (some (.int r)) μ) : Ct l E d yX2_yesOf m_2_yesOf [.ref a0, .int a1] μ Q := by
  refine Ct_of (lv := [some (.ref a0), some (.int a1), none, none]) (by decide) rfl (Nat.le_of_ble_eq_true rfl) rfl ?_
  unfold f_2_yesOf at h
  refine R_aload_n (dd dt_2_yesOf 0 rfl) 0 rfl rfl ?_
  refine g_2_24 rfl k0 (dd dt_2_yesOf 1 rfl) ?_
  refine R_istore_n (lv' := [some (.ref a0), some (.int a1), some (.int (μ a0 3)), none]) (dd dt_2_yesOf 2 rfl) 2 rfl (by decide) rfl rfl ?_
  refine R_iconst (v := 0) (dd dt_2_yesOf 3 rfl) ic_0 ?_
  refine R_istore_n (lv' := [some (.ref a0), some (.int a1), some (.int (μ a0 3)), some (.int 0)]) (dd dt_2_yesOf 4 rfl) 3 rfl (by decide) rfl rfl ?_
  obtain ⟨z1, e2, h⟩ := bi_el h
  refine R_mask [true, true, true, true] rfl (ok_2_yesOf_l7 a0 a1 μ k0 FU (μ a0 3) 0 _ e2 ?_)
  refine R_iload_n (dd dt_2_yesOf 23 rfl) 2 rfl rfl ?_
  obtain rfl := Option.some.inj h
  exact R_iret rfl (dd dt_2_yesOf 24 rfl) hQ
/-! LongStrike$Offers.isCarried(ILLongStrike$Valley;)Z -/
def tab_2_isCarried : List (Nat × Instr × Nat) := [(0, .aload_n 0, 1), (1, .invokevirtual 82, 3), (4, .istore_n 3, 1), (5, .aload_n 0, 1), (6, .iload_n 1, 1), (7, .invokevirtual 86, 3), (10, .istore 4, 2), (12, .iload_n 3, 1), (13, .bipush 100, 2), (15, .imul, 1), (16, .aload_n 2, 1), (17, .invokevirtual 90, 3), (20, .aload_n 2, 1), (21, .getfield 45, 3), (24, .imul, 1), (25, .if_icmp .lt 16, 3), (28, .iload 4, 2), (30, .iload_n 3, 1), (31, .iload 4, 2), (33, .isub, 1), (34, .if_icmp .le 7, 3), (37, .iconst 1, 1), (38, .goto 4, 3), (41, .iconst 0, 1), (42, .ireturn, 1)]
set_option maxRecDepth 100000 in
theorem dt_2_isCarried : ∀ q ∈ tab_2_isCarried, decode m_2_isCarried.2.1 q.1 = .ok q.2 := by decide +kernel
def f_2_isCarried (a0 : Nat) (a1 : Int32) (a2 : Nat) (μ : mm) : Option (Int32) :=
  (f_2_votes a0 μ).bind fun x2 =>
  (f_2_yesOf a0 a1 μ).bind fun x4 =>
  (f_9_quorum a2 μ).bind fun x6 =>
  if (x2 * 100) < (x6 * (μ a2 4)) then
    some 0
  else
    if x4 ≤ (x2 - x4) then
      some 0
    else
      some 1
set_option maxRecDepth 100000 in
set_option maxHeartbeats 4000000 in
theorem ok_2_isCarried {l : Launch} {E : ce} {d : Nat}  {a0 : Nat} {a1 : Int32} {a2 : Nat} {μ : mm} {r : Int32} {Q : Option Value → mm → Prop} (h : f_2_isCarried a0 a1 a2 μ = some r) (k0 : kd a0 = 2) (k2 : kd a2 = 9) (hQ : Q (some (.int r)) μ) : Ct l E (d + 3) yX2_isCarried m_2_isCarried [.ref a0, .int a1, .ref a2] μ Q := by
  refine Ct_of (lv := [some (.ref a0), some (.int a1), some (.ref a2), none, none]) (by decide) rfl (Nat.le_of_ble_eq_true rfl) rfl ?_
  unfold f_2_isCarried at h
  refine R_aload_n (dd dt_2_isCarried 0 rfl) 0 rfl rfl ?_
  obtain ⟨x2, e1, h⟩ := bi_el h
  refine c_2_82 (As := []) (st1 := [.int x2]) rfl (fun Q1 hq => ok_2_votes e1 k0 hq) k0 rfl rfl (Nat.le_of_ble_eq_true rfl) (dd dt_2_isCarried 1 rfl) rfl ?_
  refine R_istore_n (lv' := [some (.ref a0), some (.int a1), some (.ref a2), some (.int x2), none]) (dd dt_2_isCarried 2 rfl) 3 rfl (by decide) rfl rfl ?_
  refine R_aload_n (dd dt_2_isCarried 3 rfl) 0 rfl rfl ?_
  refine R_iload_n (dd dt_2_isCarried 4 rfl) 1 rfl rfl ?_
  obtain ⟨x4, e3, h⟩ := bi_el h
  refine c_2_86 (As := [.int a1]) (st1 := [.int x4]) rfl (fun Q1 hq => ok_2_yesOf e3 k0 hq) k0 rfl rfl (Nat.le_of_ble_eq_true rfl) (dd dt_2_isCarried 5 rfl) rfl ?_
  refine R_istore (lv' := [some (.ref a0), some (.int a1), some (.ref a2), some (.int x2), some (.int x4)]) (dd dt_2_isCarried 6 rfl) (by decide) rfl rfl ?_
  refine R_iload_n (dd dt_2_isCarried 7 rfl) 3 rfl rfl ?_
  refine R_bipush (v := 100) (dd dt_2_isCarried 8 rfl) bp_100 ?_
  refine R_imul (dd dt_2_isCarried 9 rfl) ?_
  refine R_aload_n (dd dt_2_isCarried 10 rfl) 2 rfl rfl ?_
  obtain ⟨x6, e5, h⟩ := bi_el h
  refine c_2_90 (As := []) (st1 := [.int x6, .int (x2 * 100)]) rfl (fun Q1 hq => ok_9_quorum e5 k2 hq) k2 rfl rfl (Nat.le_of_ble_eq_true rfl) (dd dt_2_isCarried 11 rfl) rfl ?_
  refine R_aload_n (dd dt_2_isCarried 12 rfl) 2 rfl rfl ?_
  refine g_2_45 rfl k2 (dd dt_2_isCarried 13 rfl) ?_
  refine R_imul (dd dt_2_isCarried 14 rfl) ?_
  refine R_cmplt (dd dt_2_isCarried 15 rfl) (tgt := 41) rfl (fun hc => ?_) (fun hc => ?_)
  · rw [if_pos hc] at h
    refine R_iconst (v := 0) (dd dt_2_isCarried 23 rfl) ic_0 ?_
    obtain rfl := Option.some.inj h
    exact R_zret rfl (by decide) (dd dt_2_isCarried 24 rfl) hQ
  · rw [if_neg hc] at h
    refine R_iload (dd dt_2_isCarried 16 rfl) rfl ?_
    refine R_iload_n (dd dt_2_isCarried 17 rfl) 3 rfl rfl ?_
    refine R_iload (dd dt_2_isCarried 18 rfl) rfl ?_
    refine R_isub (dd dt_2_isCarried 19 rfl) ?_
    refine R_cmple (dd dt_2_isCarried 20 rfl) (tgt := 41) rfl (fun hc => ?_) (fun hc => ?_)
    · rw [if_pos hc] at h
      refine R_iconst (v := 0) (dd dt_2_isCarried 23 rfl) ic_0 ?_
      obtain rfl := Option.some.inj h
      exact R_zret rfl (by decide) (dd dt_2_isCarried 24 rfl) hQ
    · rw [if_neg hc] at h
      refine R_iconst (v := 1) (dd dt_2_isCarried 21 rfl) ic_1 ?_
      refine R_goto (dd dt_2_isCarried 22 rfl) (tgt := 42) rfl ?_
      obtain rfl := Option.some.inj h
      exact R_zret rfl (by decide) (dd dt_2_isCarried 24 rfl) hQ
/-! LongStrike$Offers.setCount()I -/
def tab_2_setCount : List (Nat × Instr × Nat) := [(0, .iconst 1, 1), (1, .aload_n 0, 1), (2, .getfield 9, 3), (5, .ishl, 1), (6, .ireturn, 1)]
set_option maxRecDepth 100000 in
theorem dt_2_setCount : ∀ q ∈ tab_2_setCount, decode m_2_setCount.2.1 q.1 = .ok q.2 := by decide +kernel
def f_2_setCount (a0 : Nat) (μ : mm) : Option (Int32) :=
  some (1 <<< ((μ a0 0) &&& 31))
set_option maxRecDepth 100000 in
set_option maxHeartbeats 4000000 in
theorem ok_2_setCount {l : Launch} {E : ce} {d : Nat}  {a0 : Nat} {μ : mm} {r : Int32} {Q : Option Value → mm → Prop} (h : f_2_setCount a0 μ = some r) (k0 : kd a0 = 2) (hQ : Q (some (.int r)) μ) : Ct l E d yX2_setCount m_2_setCount [.ref a0] μ Q := by
  refine Ct_of (lv := [some (.ref a0)]) (by decide) rfl (Nat.le_of_ble_eq_true rfl) rfl ?_
  unfold f_2_setCount at h
  refine R_iconst (v := 1) (dd dt_2_setCount 0 rfl) ic_1 ?_
  refine R_aload_n (dd dt_2_setCount 1 rfl) 0 rfl rfl ?_
  refine g_2_9 rfl k0 (dd dt_2_setCount 2 rfl) ?_
  refine R_ishl (dd dt_2_setCount 3 rfl) ?_
  obtain rfl := Option.some.inj h
  exact R_iret rfl (dd dt_2_setCount 4 rfl) hQ
/-! LongStrike.ballot(II)I -/
def tab_11_ballot : List (Nat × Instr × Nat) := [(0, .aload_n 0, 1), (1, .getfield 10, 3), (4, .getfield 428, 3), (7, .astore_n 3, 1), (8, .iload_n 1, 1), (9, .iconst 0, 1), (10, .aload_n 3, 1), (11, .invokevirtual 441, 3), (14, .iconst 1, 1), (15, .isub, 1), (16, .invokestatic 83, 3), (19, .ifCond .eq 12, 3), (22, .iload_n 2, 1), (23, .iconst 0, 1), (24, .iconst 4, 1), (25, .invokestatic 83, 3), (28, .ifCond .ne 5, 3), (31, .iconst (-1), 1), (32, .ireturn, 1), (33, .aload_n 3, 1), (34, .aload_n 0, 1), (35, .getfield 10, 3), (38, .invokevirtual 444, 3), (41, .aload_n 3, 1), (42, .iload_n 1, 1), (43, .aload_n 0, 1), (44, .getfield 10, 3), (47, .invokevirtual 447, 3), (50, .istore 4, 2), (52, .iload_n 2, 1), (53, .tableswitch 67 0 3 #[31, 38, 50, 64], 31), (84, .aload_n 3, 1), (85, .iload 4, 2), (87, .invokevirtual 451, 3), (90, .ireturn, 1), (91, .aload_n 3, 1), (92, .invokevirtual 454, 3), (95, .aload_n 3, 1), (96, .iload 4, 2), (98, .invokevirtual 451, 3), (101, .isub, 1), (102, .ireturn, 1), (103, .aload_n 3, 1), (104, .iload 4, 2), (106, .aload_n 0, 1), (107, .getfield 10, 3), (110, .invokevirtual 457, 3), (113, .invokestatic 181, 3), (116, .ireturn, 1), (117, .iload 4, 2), (119, .ireturn, 1), (120, .aload_n 3, 1), (121, .iload_n 1, 1), (122, .invokevirtual 461, 3), (125, .ireturn, 1)]
set_option maxRecDepth 100000 in
theorem dt_11_ballot : ∀ q ∈ tab_11_ballot, decode m_11_ballot.2.1 q.1 = .ok q.2 := by decide +kernel
def f_11_ballot (a0 : Nat) (a1 : Int32) (a2 : Int32) (μ : mm) : Option (Int32 × mm) :=
  (f_2_setCount (rf (rf a0 0) 15) μ).bind fun x2 =>
  (f_11_isIn a1 0 (x2 - 1) μ).bind fun x4 =>
  if x4 = 0 then
    some ((-1), μ)
  else
    (f_11_isIn a2 0 4 μ).bind fun x6 =>
    if x6 = 0 then
      some ((-1), μ)
    else
      (f_2_callVoters (rf (rf a0 0) 15) (rf a0 0) μ).bind fun μ8 =>
      (f_2_contentPits (rf (rf a0 0) 15) a1 (rf a0 0) μ8).bind fun x10 =>
      if a2 = 0 then
        (f_2_yesOf (rf (rf a0 0) 15) x10 μ8).bind fun x12 =>
        some (x12, μ8)
      else if a2 = 1 then
        (f_2_votes (rf (rf a0 0) 15) μ8).bind fun x14 =>
        (f_2_yesOf (rf (rf a0 0) 15) x10 μ8).bind fun x16 =>
        some ((x14 - x16), μ8)
      else if a2 = 2 then
        (f_2_isCarried (rf (rf a0 0) 15) x10 (rf a0 0) μ8).bind fun x18 =>
        (f_11_asBit x18 μ8).bind fun x20 =>
        some (x20, μ8)
      else if a2 = 3 then
        some (x10, μ8)
      else 
        (f_2_costOf (rf (rf a0 0) 15) a1 μ8).bind fun x22 =>
        some (x22, μ8)
set_option maxRecDepth 100000 in
set_option maxHeartbeats 4000000 in
theorem ok_11_ballot {l : Launch} {E : ce} {d : Nat}  {a0 : Nat} {a1 : Int32} {a2 : Int32} {μ : mm} {r : Int32 × mm} {Q : Option Value → mm → Prop} (h : f_11_ballot a0 a1 a2 μ = some r) (k0 : kd a0 = 11) (hQ : Q (some (.int r.1)) r.2) : Ct l E (d + 5) yX11_ballot m_11_ballot [.ref a0, .int a1, .int a2] μ Q := by
  refine Ct_of (lv := [some (.ref a0), some (.int a1), some (.int a2), none, none]) (by decide) rfl (Nat.le_of_ble_eq_true rfl) rfl ?_
  unfold f_11_ballot at h
  refine R_aload_n (dd dt_11_ballot 0 rfl) 0 rfl rfl ?_
  refine g_11_10 rfl k0 (dd dt_11_ballot 1 rfl) ?_
  refine g_11_428 rfl (ty_11_0 k0) (dd dt_11_ballot 2 rfl) ?_
  refine R_astore_n (lv' := [some (.ref a0), some (.int a1), some (.int a2), some (.ref (rf (rf a0 0) 15)), none]) (dd dt_11_ballot 3 rfl) 3 rfl (by decide) rfl rfl ?_
  refine R_iload_n (dd dt_11_ballot 4 rfl) 1 rfl rfl ?_
  refine R_iconst (v := 0) (dd dt_11_ballot 5 rfl) ic_0 ?_
  refine R_aload_n (dd dt_11_ballot 6 rfl) 3 rfl rfl ?_
  obtain ⟨x2, e1, h⟩ := bi_el h
  refine c_11_441 (As := []) (st1 := [.int x2, .int 0, .int a1]) rfl (fun Q1 hq => ok_2_setCount e1 (ty_9_15 (ty_11_0 k0)) hq) (ty_9_15 (ty_11_0 k0)) rfl rfl (Nat.le_of_ble_eq_true rfl) (dd dt_11_ballot 7 rfl) rfl ?_
  refine R_iconst (v := 1) (dd dt_11_ballot 8 rfl) ic_1 ?_
  refine R_isub (dd dt_11_ballot 9 rfl) ?_
  obtain ⟨x4, e3, h⟩ := bi_el h
  refine c_11_83 (As := [.int a1, .int 0, .int (x2 - 1)]) (st1 := [.int x4]) rfl (fun Q1 hq => ok_11_isIn e3 hq) rfl rfl (Nat.le_of_ble_eq_true rfl) (dd dt_11_ballot 10 rfl) rfl ?_
  refine R_ifeq (dd dt_11_ballot 11 rfl) (tgt := 31) rfl (fun hc => ?_) (fun hc => ?_)
  · rw [if_pos hc] at h
    refine R_iconst (v := (-1)) (dd dt_11_ballot 17 rfl) ic_m1 ?_
    obtain rfl := Option.some.inj h
    exact R_iret rfl (dd dt_11_ballot 18 rfl) hQ
  · rw [if_neg hc] at h
    refine R_iload_n (dd dt_11_ballot 12 rfl) 2 rfl rfl ?_
    refine R_iconst (v := 0) (dd dt_11_ballot 13 rfl) ic_0 ?_
    refine R_iconst (v := 4) (dd dt_11_ballot 14 rfl) ic_4 ?_
    obtain ⟨x6, e5, h⟩ := bi_el h
    refine c_11_83 (As := [.int a2, .int 0, .int 4]) (st1 := [.int x6]) rfl (fun Q1 hq => ok_11_isIn e5 hq) rfl rfl (Nat.le_of_ble_eq_true rfl) (dd dt_11_ballot 15 rfl) rfl ?_
    refine R_ifne (dd dt_11_ballot 16 rfl) (tgt := 33) rfl (fun hc => ?_) (fun hc => ?_)
    · rw [if_neg hc] at h
      refine R_aload_n (dd dt_11_ballot 19 rfl) 3 rfl rfl ?_
      refine R_aload_n (dd dt_11_ballot 20 rfl) 0 rfl rfl ?_
      refine g_11_10 rfl k0 (dd dt_11_ballot 21 rfl) ?_
      obtain ⟨μ8, e7, h⟩ := bi_el h
      refine c_11_444 (As := [.ref (rf a0 0)]) (st1 := []) rfl (fun Q1 hq => ok_2_callVoters e7 (ty_9_15 (ty_11_0 k0)) (ty_11_0 k0) hq) (ty_9_15 (ty_11_0 k0)) rfl rfl (Nat.le_of_ble_eq_true rfl) (dd dt_11_ballot 22 rfl) rfl ?_
      refine R_aload_n (dd dt_11_ballot 23 rfl) 3 rfl rfl ?_
      refine R_iload_n (dd dt_11_ballot 24 rfl) 1 rfl rfl ?_
      refine R_aload_n (dd dt_11_ballot 25 rfl) 0 rfl rfl ?_
      refine g_11_10 rfl k0 (dd dt_11_ballot 26 rfl) ?_
      obtain ⟨x10, e9, h⟩ := bi_el h
      refine c_11_447 (As := [.int a1, .ref (rf a0 0)]) (st1 := [.int x10]) rfl (fun Q1 hq => ok_2_contentPits e9 (ty_9_15 (ty_11_0 k0)) (ty_11_0 k0) hq) (ty_9_15 (ty_11_0 k0)) rfl rfl (Nat.le_of_ble_eq_true rfl) (dd dt_11_ballot 27 rfl) rfl ?_
      refine R_istore (lv' := [some (.ref a0), some (.int a1), some (.int a2), some (.ref (rf (rf a0 0) 15)), some (.int x10)]) (dd dt_11_ballot 28 rfl) (by decide) rfl rfl ?_
      refine R_iload_n (dd dt_11_ballot 29 rfl) 2 rfl rfl ?_
      by_cases hs0 : a2 = 0
      · refine R_tabIn (off := 31) (tgt := 84) (dd dt_11_ballot 30 rfl) (by rw [hs0]; decide) (by rw [hs0]; decide) (by rw [hs0]; rfl) rfl ?_
        rw [if_pos hs0] at h
        refine R_aload_n (dd dt_11_ballot 31 rfl) 3 rfl rfl ?_
        refine R_iload (dd dt_11_ballot 32 rfl) rfl ?_
        obtain ⟨x12, e11, h⟩ := bi_el h
        refine c_11_451 (As := [.int x10]) (st1 := [.int x12]) rfl (fun Q1 hq => ok_2_yesOf e11 (ty_9_15 (ty_11_0 k0)) hq) (ty_9_15 (ty_11_0 k0)) rfl rfl (Nat.le_of_ble_eq_true rfl) (dd dt_11_ballot 33 rfl) rfl ?_
        obtain rfl := Option.some.inj h
        exact R_iret rfl (dd dt_11_ballot 34 rfl) hQ
      rw [if_neg hs0] at h
      by_cases hs1 : a2 = 1
      · refine R_tabIn (off := 38) (tgt := 91) (dd dt_11_ballot 30 rfl) (by rw [hs1]; decide) (by rw [hs1]; decide) (by rw [hs1]; rfl) rfl ?_
        rw [if_pos hs1] at h
        refine R_aload_n (dd dt_11_ballot 35 rfl) 3 rfl rfl ?_
        obtain ⟨x14, e13, h⟩ := bi_el h
        refine c_11_454 (As := []) (st1 := [.int x14]) rfl (fun Q1 hq => ok_2_votes e13 (ty_9_15 (ty_11_0 k0)) hq) (ty_9_15 (ty_11_0 k0)) rfl rfl (Nat.le_of_ble_eq_true rfl) (dd dt_11_ballot 36 rfl) rfl ?_
        refine R_aload_n (dd dt_11_ballot 37 rfl) 3 rfl rfl ?_
        refine R_iload (dd dt_11_ballot 38 rfl) rfl ?_
        obtain ⟨x16, e15, h⟩ := bi_el h
        refine c_11_451 (As := [.int x10]) (st1 := [.int x16, .int x14]) rfl (fun Q1 hq => ok_2_yesOf e15 (ty_9_15 (ty_11_0 k0)) hq) (ty_9_15 (ty_11_0 k0)) rfl rfl (Nat.le_of_ble_eq_true rfl) (dd dt_11_ballot 39 rfl) rfl ?_
        refine R_isub (dd dt_11_ballot 40 rfl) ?_
        obtain rfl := Option.some.inj h
        exact R_iret rfl (dd dt_11_ballot 41 rfl) hQ
      rw [if_neg hs1] at h
      by_cases hs2 : a2 = 2
      · refine R_tabIn (off := 50) (tgt := 103) (dd dt_11_ballot 30 rfl) (by rw [hs2]; decide) (by rw [hs2]; decide) (by rw [hs2]; rfl) rfl ?_
        rw [if_pos hs2] at h
        refine R_aload_n (dd dt_11_ballot 42 rfl) 3 rfl rfl ?_
        refine R_iload (dd dt_11_ballot 43 rfl) rfl ?_
        refine R_aload_n (dd dt_11_ballot 44 rfl) 0 rfl rfl ?_
        refine g_11_10 rfl k0 (dd dt_11_ballot 45 rfl) ?_
        obtain ⟨x18, e17, h⟩ := bi_el h
        refine c_11_457 (As := [.int x10, .ref (rf a0 0)]) (st1 := [.int x18]) rfl (fun Q1 hq => ok_2_isCarried e17 (ty_9_15 (ty_11_0 k0)) (ty_11_0 k0) hq) (ty_9_15 (ty_11_0 k0)) rfl rfl (Nat.le_of_ble_eq_true rfl) (dd dt_11_ballot 46 rfl) rfl ?_
        obtain ⟨x20, e19, h⟩ := bi_el h
        refine c_11_181 (As := [.int x18]) (st1 := [.int x20]) rfl (fun Q1 hq => ok_11_asBit e19 hq) rfl rfl (Nat.le_of_ble_eq_true rfl) (dd dt_11_ballot 47 rfl) rfl ?_
        obtain rfl := Option.some.inj h
        exact R_iret rfl (dd dt_11_ballot 48 rfl) hQ
      rw [if_neg hs2] at h
      by_cases hs3 : a2 = 3
      · refine R_tabIn (off := 64) (tgt := 117) (dd dt_11_ballot 30 rfl) (by rw [hs3]; decide) (by rw [hs3]; decide) (by rw [hs3]; rfl) rfl ?_
        rw [if_pos hs3] at h
        refine R_iload (dd dt_11_ballot 49 rfl) rfl ?_
        obtain rfl := Option.some.inj h
        exact R_iret rfl (dd dt_11_ballot 50 rfl) hQ
      rw [if_neg hs3] at h
      refine R_tabOut (tgt := 120) (dd dt_11_ballot 30 rfl) (by have hn0 := lv_neT hs0 (a := 0) (by decide); have hn1 := lv_neT hs1 (a := 1) (by decide); have hn2 := lv_neT hs2 (a := 2) (by decide); have hn3 := lv_neT hs3 (a := 3) (by decide); omega) rfl ?_
      refine R_aload_n (dd dt_11_ballot 51 rfl) 3 rfl rfl ?_
      refine R_iload_n (dd dt_11_ballot 52 rfl) 1 rfl rfl ?_
      obtain ⟨x22, e21, h⟩ := bi_el h
      refine c_11_461 (As := [.int a1]) (st1 := [.int x22]) rfl (fun Q1 hq => ok_2_costOf e21 (ty_9_15 (ty_11_0 k0)) hq) (ty_9_15 (ty_11_0 k0)) rfl rfl (Nat.le_of_ble_eq_true rfl) (dd dt_11_ballot 53 rfl) rfl ?_
      obtain rfl := Option.some.inj h
      exact R_iret rfl (dd dt_11_ballot 54 rfl) hQ
    · rw [if_pos hc] at h
      refine R_iconst (v := (-1)) (dd dt_11_ballot 17 rfl) ic_m1 ?_
      obtain rfl := Option.some.inj h
      exact R_iret rfl (dd dt_11_ballot 18 rfl) hQ
/-! LongStrike$Offers.leastOffer(LLongStrike$Valley;)I -/
def tab_2_leastOffer : List (Nat × Instr × Nat) := [(0, .aload_n 0, 1), (1, .aload_n 1, 1), (2, .invokevirtual 93, 3), (5, .iconst (-1), 1), (6, .istore_n 2, 1), (7, .iconst 0, 1), (8, .istore_n 3, 1), (9, .iconst 0, 1), (10, .istore 4, 2), (12, .iload 4, 2), (14, .aload_n 0, 1), (15, .invokevirtual 97, 3), (18, .if_icmp .ge 61, 3), (21, .aload_n 0, 1), (22, .iload 4, 2), (24, .invokevirtual 100, 3), (27, .istore 5, 2), (29, .iload_n 2, 1), (30, .iconst (-1), 1), (31, .if_icmp .eq 9, 3), (34, .iload 5, 2), (36, .iload_n 3, 1), (37, .if_icmp .ge 7, 3), (40, .iconst 1, 1), (41, .goto 4, 3), (44, .iconst 0, 1), (45, .istore 6, 2), (47, .iload 6, 2), (49, .ifCond .eq 24, 3), (52, .aload_n 0, 1), (53, .aload_n 0, 1), (54, .iload 4, 2), (56, .aload_n 1, 1), (57, .invokevirtual 103, 3), (60, .aload_n 1, 1), (61, .invokevirtual 107, 3), (64, .ifCond .eq 9, 3), (67, .iload 4, 2), (69, .istore_n 2, 1), (70, .iload 5, 2), (72, .istore_n 3, 1), (73, .iinc 4 1, 3), (76, .goto (-64), 3), (79, .iload_n 2, 1), (80, .ireturn, 1)]
set_option maxRecDepth 100000 in
theorem dt_2_leastOffer : ∀ q ∈ tab_2_leastOffer, decode m_2_leastOffer.2.1 q.1 = .ok q.2 := by decide +kernel
def f_2_leastOffer_l12 (a0 : Nat) (a1 : Nat) (μ : mm) : Nat → Int32 → Int32 → Int32 → Option (Int32)
  | 0, _, _, _ => none
  | n + 1, v2, v3, v4 => (f_2_setCount a0 μ).bind fun x2 =>
    if x2 ≤ v4 then
      some v2
    else
      (f_2_costOf a0 v4 μ).bind fun x4 =>
      (if v2 = (-1) then
          some 1
        else
          if v3 ≤ x4 then
            some 0
          else
            some 1).bind fun (z5 : Int32) =>
      if z5 = 0 then
        f_2_leastOffer_l12 a0 a1 μ n v2 v3 (v4 + 1)
      else
        (f_2_contentPits a0 v4 a1 μ).bind fun x7 =>
        (f_2_isCarried a0 x7 a1 μ).bind fun x9 =>
        if x9 = 0 then
          f_2_leastOffer_l12 a0 a1 μ n v2 v3 (v4 + 1)
        else
          f_2_leastOffer_l12 a0 a1 μ n v4 x4 (v4 + 1)
set_option maxRecDepth 100000 in
theorem ok_2_leastOffer_l12 {l : Launch} {E : ce} {d : Nat} {Q : Option Value → mm → Prop} (a0 : Nat) (a1 : Nat) (μ : mm) (k0 : kd a0 = 2) (k1 : kd a1 = 9) : ∀ (n : Nat) (v2 : Int32) (v3 : Int32) (v4 : Int32) (z : Int32), f_2_leastOffer_l12 a0 a1 μ n v2 v3 v4 = some z → Rj l E (d + 5) m_2_leastOffer 79 [none, none, some (.int z), none, none, none, none] [] μ Q → Rj l E (d + 5) m_2_leastOffer 12 [some (.ref a0), some (.ref a1), some (.int v2), some (.int v3), some (.int v4), none, none] [] μ Q
  | 0, _, _, _, z, h, _ => by
    rw [f_2_leastOffer_l12] at h
    cases h
  | n + 1, v2, v3, v4, z, h, KX => by
    rw [f_2_leastOffer_l12] at h
    refine R_iload (dd dt_2_leastOffer 9 rfl) rfl ?_
    refine R_aload_n (dd dt_2_leastOffer 10 rfl) 0 rfl rfl ?_
    obtain ⟨x2, e1, h⟩ := bi_el h
    refine c_2_97 (As := []) (st1 := [.int x2, .int v4]) rfl (fun Q1 hq => ok_2_setCount e1 k0 hq) k0 rfl rfl (Nat.le_of_ble_eq_true rfl) (dd dt_2_leastOffer 11 rfl) rfl ?_
    refine R_cmpge (dd dt_2_leastOffer 12 rfl) (tgt := 79) rfl (fun hc => ?_) (fun hc => ?_)
    · rw [if_pos hc] at h
      obtain rfl := Option.some.inj h
      exact R_mask [false, false, true, false, false, false, false] rfl KX
    · rw [if_neg hc] at h
      refine R_aload_n (dd dt_2_leastOffer 13 rfl) 0 rfl rfl ?_
      refine R_iload (dd dt_2_leastOffer 14 rfl) rfl ?_
      obtain ⟨x4, e3, h⟩ := bi_el h
      refine c_2_100 (As := [.int v4]) (st1 := [.int x4]) rfl (fun Q1 hq => ok_2_costOf e3 k0 hq) k0 rfl rfl (Nat.le_of_ble_eq_true rfl) (dd dt_2_leastOffer 15 rfl) rfl ?_
      refine R_istore (lv' := [some (.ref a0), some (.ref a1), some (.int v2), some (.int v3), some (.int v4), some (.int x4), none]) (dd dt_2_leastOffer 16 rfl) (by decide) rfl rfl ?_
      refine R_iload_n (dd dt_2_leastOffer 17 rfl) 2 rfl rfl ?_
      refine R_iconst (v := (-1)) (dd dt_2_leastOffer 18 rfl) ic_m1 ?_
      obtain ⟨z5, hz5, h⟩ := bi_el h
      have K5 : Rj l E (d + 5) m_2_leastOffer 45 [some (.ref a0), some (.ref a1), some (.int v2), some (.int v3), some (.int v4), some (.int x4), none] [.int z5] μ Q := by
        clear hz5
        refine R_istore (lv' := [some (.ref a0), some (.ref a1), some (.int v2), some (.int v3), some (.int v4), some (.int x4), some (.int z5)]) (dd dt_2_leastOffer 26 rfl) (by decide) rfl rfl ?_
        refine R_iload (dd dt_2_leastOffer 27 rfl) rfl ?_
        refine R_ifeq (dd dt_2_leastOffer 28 rfl) (tgt := 73) rfl (fun hc => ?_) (fun hc => ?_)
        · rw [if_pos hc] at h
          refine R_iinc (v := 1) (lv' := [some (.ref a0), some (.ref a1), some (.int v2), some (.int v3), some (.int (v4 + 1)), some (.int x4), some (.int z5)]) (dd dt_2_leastOffer 41 rfl) (by decide) rfl rfl ic_1 rfl ?_
          refine R_goto (dd dt_2_leastOffer 42 rfl) (tgt := 12) rfl ?_
          exact R_mask [true, true, true, true, true, false, false] rfl (ok_2_leastOffer_l12 a0 a1 μ k0 k1 n v2 v3 (v4 + 1) _ h KX)
        · rw [if_neg hc] at h
          refine R_aload_n (dd dt_2_leastOffer 29 rfl) 0 rfl rfl ?_
          refine R_aload_n (dd dt_2_leastOffer 30 rfl) 0 rfl rfl ?_
          refine R_iload (dd dt_2_leastOffer 31 rfl) rfl ?_
          refine R_aload_n (dd dt_2_leastOffer 32 rfl) 1 rfl rfl ?_
          obtain ⟨x7, e6, h⟩ := bi_el h
          refine c_2_103 (As := [.int v4, .ref a1]) (st1 := [.int x7, .ref a0]) rfl (fun Q1 hq => ok_2_contentPits e6 k0 k1 hq) k0 rfl rfl (Nat.le_of_ble_eq_true rfl) (dd dt_2_leastOffer 33 rfl) rfl ?_
          refine R_aload_n (dd dt_2_leastOffer 34 rfl) 1 rfl rfl ?_
          obtain ⟨x9, e8, h⟩ := bi_el h
          refine c_2_107 (As := [.int x7, .ref a1]) (st1 := [.int x9]) rfl (fun Q1 hq => ok_2_isCarried e8 k0 k1 hq) k0 rfl rfl (Nat.le_of_ble_eq_true rfl) (dd dt_2_leastOffer 35 rfl) rfl ?_
          refine R_ifeq (dd dt_2_leastOffer 36 rfl) (tgt := 73) rfl (fun hc => ?_) (fun hc => ?_)
          · rw [if_pos hc] at h
            refine R_iinc (v := 1) (lv' := [some (.ref a0), some (.ref a1), some (.int v2), some (.int v3), some (.int (v4 + 1)), some (.int x4), some (.int z5)]) (dd dt_2_leastOffer 41 rfl) (by decide) rfl rfl ic_1 rfl ?_
            refine R_goto (dd dt_2_leastOffer 42 rfl) (tgt := 12) rfl ?_
            exact R_mask [true, true, true, true, true, false, false] rfl (ok_2_leastOffer_l12 a0 a1 μ k0 k1 n v2 v3 (v4 + 1) _ h KX)
          · rw [if_neg hc] at h
            refine R_iload (dd dt_2_leastOffer 37 rfl) rfl ?_
            refine R_istore_n (lv' := [some (.ref a0), some (.ref a1), some (.int v4), some (.int v3), some (.int v4), some (.int x4), some (.int z5)]) (dd dt_2_leastOffer 38 rfl) 2 rfl (by decide) rfl rfl ?_
            refine R_iload (dd dt_2_leastOffer 39 rfl) rfl ?_
            refine R_istore_n (lv' := [some (.ref a0), some (.ref a1), some (.int v4), some (.int x4), some (.int v4), some (.int x4), some (.int z5)]) (dd dt_2_leastOffer 40 rfl) 3 rfl (by decide) rfl rfl ?_
            refine R_iinc (v := 1) (lv' := [some (.ref a0), some (.ref a1), some (.int v4), some (.int x4), some (.int (v4 + 1)), some (.int x4), some (.int z5)]) (dd dt_2_leastOffer 41 rfl) (by decide) rfl rfl ic_1 rfl ?_
            refine R_goto (dd dt_2_leastOffer 42 rfl) (tgt := 12) rfl ?_
            exact R_mask [true, true, true, true, true, false, false] rfl (ok_2_leastOffer_l12 a0 a1 μ k0 k1 n v4 x4 (v4 + 1) _ h KX)
      clear h
      have h := hz5
      clear hz5
      refine R_cmpeq (dd dt_2_leastOffer 19 rfl) (tgt := 40) rfl (fun hc => ?_) (fun hc => ?_)
      · rw [if_pos hc] at h
        refine R_iconst (v := 1) (dd dt_2_leastOffer 23 rfl) ic_1 ?_
        refine R_goto (dd dt_2_leastOffer 24 rfl) (tgt := 45) rfl ?_
        obtain rfl := Option.some.inj h
        exact R_mask [true, true, true, true, true, true, false] rfl K5
      · rw [if_neg hc] at h
        refine R_iload (dd dt_2_leastOffer 20 rfl) rfl ?_
        refine R_iload_n (dd dt_2_leastOffer 21 rfl) 3 rfl rfl ?_
        refine R_cmpge (dd dt_2_leastOffer 22 rfl) (tgt := 44) rfl (fun hc => ?_) (fun hc => ?_)
        · rw [if_pos hc] at h
          refine R_iconst (v := 0) (dd dt_2_leastOffer 25 rfl) ic_0 ?_
          obtain rfl := Option.some.inj h
          exact R_mask [true, true, true, true, true, true, false] rfl K5
        · rw [if_neg hc] at h
          refine R_iconst (v := 1) (dd dt_2_leastOffer 23 rfl) ic_1 ?_
          refine R_goto (dd dt_2_leastOffer 24 rfl) (tgt := 45) rfl ?_
          obtain rfl := Option.some.inj h
          exact R_mask [true, true, true, true, true, true, false] rfl K5
def f_2_leastOffer (a0 : Nat) (a1 : Nat) (μ : mm) : Option (Int32 × mm) :=
  (f_2_callVoters a0 a1 μ).bind fun μ2 =>
  (f_2_leastOffer_l12 a0 a1 μ2 FU (-1) 0 0).bind fun z3 =>
  some (z3, μ2)
set_option maxRecDepth 100000 in
set_option maxHeartbeats 4000000 in
theorem ok_2_leastOffer {l : Launch} {E : ce} {d : Nat}  {a0 : Nat} {a1 : Nat} {μ : mm} {r : Int32 × mm} {Q : Option Value → mm → Prop} (h : f_2_leastOffer a0 a1 μ = some r) (k0 : kd a0 = 2) (k1 : kd a1 = 9) (hQ : Q (some (.int r.1)) r.2) : Ct l E (d + 5) yX2_leastOffer m_2_leastOffer [.ref a0, .ref a1] μ Q := by
  refine Ct_of (lv := [some (.ref a0), some (.ref a1), none, none, none, none, none]) (by decide) rfl (Nat.le_of_ble_eq_true rfl) rfl ?_
  unfold f_2_leastOffer at h
  refine R_aload_n (dd dt_2_leastOffer 0 rfl) 0 rfl rfl ?_
  refine R_aload_n (dd dt_2_leastOffer 1 rfl) 1 rfl rfl ?_
  obtain ⟨μ2, e1, h⟩ := bi_el h
  refine c_2_93 (As := [.ref a1]) (st1 := []) rfl (fun Q1 hq => ok_2_callVoters e1 k0 k1 hq) k0 rfl rfl (Nat.le_of_ble_eq_true rfl) (dd dt_2_leastOffer 2 rfl) rfl ?_
  refine R_iconst (v := (-1)) (dd dt_2_leastOffer 3 rfl) ic_m1 ?_
  refine R_istore_n (lv' := [some (.ref a0), some (.ref a1), some (.int (-1)), none, none, none, none]) (dd dt_2_leastOffer 4 rfl) 2 rfl (by decide) rfl rfl ?_
  refine R_iconst (v := 0) (dd dt_2_leastOffer 5 rfl) ic_0 ?_
  refine R_istore_n (lv' := [some (.ref a0), some (.ref a1), some (.int (-1)), some (.int 0), none, none, none]) (dd dt_2_leastOffer 6 rfl) 3 rfl (by decide) rfl rfl ?_
  refine R_iconst (v := 0) (dd dt_2_leastOffer 7 rfl) ic_0 ?_
  refine R_istore (lv' := [some (.ref a0), some (.ref a1), some (.int (-1)), some (.int 0), some (.int 0), none, none]) (dd dt_2_leastOffer 8 rfl) (by decide) rfl rfl ?_
  obtain ⟨z3, e4, h⟩ := bi_el h
  refine R_mask [true, true, true, true, true, false, false] rfl (ok_2_leastOffer_l12 a0 a1 μ2 k0 k1 FU (-1) 0 0 _ e4 ?_)
  refine R_iload_n (dd dt_2_leastOffer 43 rfl) 2 rfl rfl ?_
  obtain rfl := Option.some.inj h
  exact R_iret rfl (dd dt_2_leastOffer 44 rfl) hQ
/-! LongStrike.offer()I -/
def tab_11_offer : List (Nat × Instr × Nat) := [(0, .aload_n 0, 1), (1, .getfield 10, 3), (4, .getfield 428, 3), (7, .aload_n 0, 1), (8, .getfield 10, 3), (11, .invokevirtual 464, 3), (14, .istore_n 1, 1), (15, .iload_n 1, 1), (16, .iconst (-1), 1), (17, .if_icmp .ne 8, 3), (20, .bipush (-3), 2), (22, .goto 4, 3), (25, .iload_n 1, 1), (26, .ireturn, 1)]
set_option maxRecDepth 100000 in
theorem dt_11_offer : ∀ q ∈ tab_11_offer, decode m_11_offer.2.1 q.1 = .ok q.2 := by decide +kernel
def f_11_offer (a0 : Nat) (μ : mm) : Option (Int32 × mm) :=
  (f_2_leastOffer (rf (rf a0 0) 15) (rf a0 0) μ).bind fun z2 =>
  if z2.1 = (-1) then
    some ((-3), z2.2)
  else
    some (z2.1, z2.2)
set_option maxRecDepth 100000 in
set_option maxHeartbeats 4000000 in
theorem ok_11_offer {l : Launch} {E : ce} {d : Nat}  {a0 : Nat} {μ : mm} {r : Int32 × mm} {Q : Option Value → mm → Prop} (h : f_11_offer a0 μ = some r) (k0 : kd a0 = 11) (hQ : Q (some (.int r.1)) r.2) : Ct l E (d + 6) yX11_offer m_11_offer [.ref a0] μ Q := by
  refine Ct_of (lv := [some (.ref a0), none]) (by decide) rfl (Nat.le_of_ble_eq_true rfl) rfl ?_
  unfold f_11_offer at h
  refine R_aload_n (dd dt_11_offer 0 rfl) 0 rfl rfl ?_
  refine g_11_10 rfl k0 (dd dt_11_offer 1 rfl) ?_
  refine g_11_428 rfl (ty_11_0 k0) (dd dt_11_offer 2 rfl) ?_
  refine R_aload_n (dd dt_11_offer 3 rfl) 0 rfl rfl ?_
  refine g_11_10 rfl k0 (dd dt_11_offer 4 rfl) ?_
  obtain ⟨z2, e1, h⟩ := bi_el h
  refine c_11_464 (As := [.ref (rf a0 0)]) (st1 := [.int z2.1]) rfl (fun Q1 hq => ok_2_leastOffer e1 (ty_9_15 (ty_11_0 k0)) (ty_11_0 k0) hq) (ty_9_15 (ty_11_0 k0)) rfl rfl (Nat.le_of_ble_eq_true rfl) (dd dt_11_offer 5 rfl) rfl ?_
  refine R_istore_n (lv' := [some (.ref a0), some (.int z2.1)]) (dd dt_11_offer 6 rfl) 1 rfl (by decide) rfl rfl ?_
  refine R_iload_n (dd dt_11_offer 7 rfl) 1 rfl rfl ?_
  refine R_iconst (v := (-1)) (dd dt_11_offer 8 rfl) ic_m1 ?_
  refine R_cmpne (dd dt_11_offer 9 rfl) (tgt := 25) rfl (fun hc => ?_) (fun hc => ?_)
  · rw [if_neg hc] at h
    refine R_iload_n (dd dt_11_offer 12 rfl) 1 rfl rfl ?_
    obtain rfl := Option.some.inj h
    exact R_iret rfl (dd dt_11_offer 13 rfl) hQ
  · rw [if_pos hc] at h
    refine R_bipush (v := (-3)) (dd dt_11_offer 10 rfl) bp_m3 ?_
    refine R_goto (dd dt_11_offer 11 rfl) (tgt := 26) rfl ?_
    obtain rfl := Option.some.inj h
    exact R_iret rfl (dd dt_11_offer 13 rfl) hQ
/-! LongStrike.isSheet(I)Z -/
def tab_11_isSheet : List (Nat × Instr × Nat) := [(0, .iload_n 0, 1), (1, .iconst 0, 1), (2, .iconst 3, 1), (3, .invokestatic 83, 3), (6, .ireturn, 1)]
set_option maxRecDepth 100000 in
theorem dt_11_isSheet : ∀ q ∈ tab_11_isSheet, decode m_11_isSheet.2.1 q.1 = .ok q.2 := by decide +kernel
def f_11_isSheet (a0 : Int32) (μ : mm) : Option (Int32) :=
  (f_11_isIn a0 0 3 μ).bind fun x2 =>
  (gb x2).bind fun _ =>
  some x2
set_option maxRecDepth 100000 in
set_option maxHeartbeats 4000000 in
theorem ok_11_isSheet {l : Launch} {E : ce} {d : Nat}  {a0 : Int32} {μ : mm} {r : Int32} {Q : Option Value → mm → Prop} (h : f_11_isSheet a0 μ = some r)  (hQ : Q (some (.int r)) μ) : Ct l E (d + 1) yX11_isSheet m_11_isSheet [.int a0] μ Q := by
  refine Ct_of (lv := [some (.int a0)]) (by decide) rfl (Nat.le_of_ble_eq_true rfl) rfl ?_
  unfold f_11_isSheet at h
  refine R_iload_n (dd dt_11_isSheet 0 rfl) 0 rfl rfl ?_
  refine R_iconst (v := 0) (dd dt_11_isSheet 1 rfl) ic_0 ?_
  refine R_iconst (v := 3) (dd dt_11_isSheet 2 rfl) ic_3 ?_
  obtain ⟨x2, e1, h⟩ := bi_el h
  refine c_11_83 (As := [.int a0, .int 0, .int 3]) (st1 := [.int x2]) rfl (fun Q1 hq => ok_11_isIn e1 hq) rfl rfl (Nat.le_of_ble_eq_true rfl) (dd dt_11_isSheet 3 rfl) rfl ?_
  obtain ⟨_, q3, h⟩ := bi_el h
  obtain rfl := Option.some.inj h
  exact R_zret rfl (bo_narrow (gb_el q3).1) (dd dt_11_isSheet 4 rfl) hQ
/-! LongStrike.sheet(III)I -/
def tab_11_sheet : List (Nat × Instr × Nat) := [(0, .iload_n 1, 1), (1, .invokestatic 468, 3), (4, .ifCond .eq 12, 3), (7, .iload_n 2, 1), (8, .iconst (-1), 1), (9, .iconst 4, 1), (10, .invokestatic 83, 3), (13, .ifCond .ne 5, 3), (16, .iconst (-1), 1), (17, .ireturn, 1), (18, .iload_n 2, 1), (19, .iconst (-1), 1), (20, .if_icmp .ne 12, 3), (23, .aload_n 0, 1), (24, .getfield 57, 3), (27, .iload_n 1, 1), (28, .iconst (-1), 1), (29, .iastore, 1), (30, .iconst 1, 1), (31, .ireturn, 1), (32, .iload_n 3, 1), (33, .bipush 40, 2), (35, .if_icmp .le 5, 3), (38, .iconst (-1), 1), (39, .ireturn, 1), (40, .iload_n 3, 1), (41, .ifCond .ge 6, 3), (44, .bipush (-14), 2), (46, .ireturn, 1), (47, .aload_n 0, 1), (48, .getfield 57, 3), (51, .iload_n 1, 1), (52, .iload_n 2, 1), (53, .iastore, 1), (54, .aload_n 0, 1), (55, .getfield 60, 3), (58, .iload_n 1, 1), (59, .iload_n 3, 1), (60, .iastore, 1), (61, .aload_n 0, 1), (62, .getfield 65, 3), (65, .iload_n 1, 1), (66, .aaload, 1), (67, .iconst 0, 1), (68, .invokestatic 77, 3), (71, .iconst 1, 1), (72, .ireturn, 1)]
set_option maxRecDepth 100000 in
theorem dt_11_sheet : ∀ q ∈ tab_11_sheet, decode m_11_sheet.2.1 q.1 = .ok q.2 := by decide +kernel
def f_11_sheet (a0 : Nat) (a1 : Int32) (a2 : Int32) (a3 : Int32) (μ : mm) : Option (Int32 × mm) :=
  (f_11_isSheet a1 μ).bind fun x2 =>
  if x2 = 0 then
    some ((-1), μ)
  else
    (f_11_isIn a2 (-1) 4 μ).bind fun x4 =>
    if x4 = 0 then
      some ((-1), μ)
    else
      if a2 = (-1) then
        (sto μ (rf a0 11) a1 (-1)).bind fun μ13 =>
        some (1, μ13)
      else
        if a3 ≤ 40 then
          if 0 ≤ a3 then
            (sto μ (rf a0 11) a1 a2).bind fun μ5 =>
            (sto μ5 (rf a0 12) a1 a3).bind fun μ7 =>
            (lda (rf a0 13) a1).bind fun r9 =>
            (f_J7_fill r9 0 μ7).bind fun μ12 =>
            some (1, μ12)
          else
            some ((-14), μ)
        else
          some ((-1), μ)
set_option maxRecDepth 100000 in
set_option maxHeartbeats 4000000 in
theorem ok_11_sheet {l : Launch} {E : ce} {d : Nat}  {a0 : Nat} {a1 : Int32} {a2 : Int32} {a3 : Int32} {μ : mm} {r : Int32 × mm} {Q : Option Value → mm → Prop} (h : f_11_sheet a0 a1 a2 a3 μ = some r) (k0 : kd a0 = 11) (hQ : Q (some (.int r.1)) r.2) : Ct l E (d + 2) yX11_sheet m_11_sheet [.ref a0, .int a1, .int a2, .int a3] μ Q := by
  refine Ct_of (lv := [some (.ref a0), some (.int a1), some (.int a2), some (.int a3)]) (by decide) rfl (Nat.le_of_ble_eq_true rfl) rfl ?_
  unfold f_11_sheet at h
  refine R_iload_n (dd dt_11_sheet 0 rfl) 1 rfl rfl ?_
  obtain ⟨x2, e1, h⟩ := bi_el h
  refine c_11_468 (As := [.int a1]) (st1 := [.int x2]) rfl (fun Q1 hq => ok_11_isSheet e1 hq) rfl rfl (Nat.le_of_ble_eq_true rfl) (dd dt_11_sheet 1 rfl) rfl ?_
  refine R_ifeq (dd dt_11_sheet 2 rfl) (tgt := 16) rfl (fun hc => ?_) (fun hc => ?_)
  · rw [if_pos hc] at h
    refine R_iconst (v := (-1)) (dd dt_11_sheet 8 rfl) ic_m1 ?_
    obtain rfl := Option.some.inj h
    exact R_iret rfl (dd dt_11_sheet 9 rfl) hQ
  · rw [if_neg hc] at h
    refine R_iload_n (dd dt_11_sheet 3 rfl) 2 rfl rfl ?_
    refine R_iconst (v := (-1)) (dd dt_11_sheet 4 rfl) ic_m1 ?_
    refine R_iconst (v := 4) (dd dt_11_sheet 5 rfl) ic_4 ?_
    obtain ⟨x4, e3, h⟩ := bi_el h
    refine c_11_83 (As := [.int a2, .int (-1), .int 4]) (st1 := [.int x4]) rfl (fun Q1 hq => ok_11_isIn e3 hq) rfl rfl (Nat.le_of_ble_eq_true rfl) (dd dt_11_sheet 6 rfl) rfl ?_
    refine R_ifne (dd dt_11_sheet 7 rfl) (tgt := 18) rfl (fun hc => ?_) (fun hc => ?_)
    · rw [if_neg hc] at h
      refine R_iload_n (dd dt_11_sheet 10 rfl) 2 rfl rfl ?_
      refine R_iconst (v := (-1)) (dd dt_11_sheet 11 rfl) ic_m1 ?_
      refine R_cmpne (dd dt_11_sheet 12 rfl) (tgt := 32) rfl (fun hc => ?_) (fun hc => ?_)
      · rw [if_neg hc] at h
        refine R_iload_n (dd dt_11_sheet 20 rfl) 3 rfl rfl ?_
        refine R_bipush (v := 40) (dd dt_11_sheet 21 rfl) bp_40 ?_
        refine R_cmple (dd dt_11_sheet 22 rfl) (tgt := 40) rfl (fun hc => ?_) (fun hc => ?_)
        · rw [if_pos hc] at h
          refine R_iload_n (dd dt_11_sheet 25 rfl) 3 rfl rfl ?_
          refine R_ifge (dd dt_11_sheet 26 rfl) (tgt := 47) rfl (fun hc => ?_) (fun hc => ?_)
          · rw [if_pos hc] at h
            refine R_aload_n (dd dt_11_sheet 29 rfl) 0 rfl rfl ?_
            refine g_11_57 rfl k0 (dd dt_11_sheet 30 rfl) ?_
            refine R_iload_n (dd dt_11_sheet 31 rfl) 1 rfl rfl ?_
            refine R_iload_n (dd dt_11_sheet 32 rfl) 2 rfl rfl ?_
            obtain ⟨μ5, e6, h⟩ := bi_el h
            refine R_isto e6 (ty_11_11 k0) (dd dt_11_sheet 33 rfl) ?_
            refine R_aload_n (dd dt_11_sheet 34 rfl) 0 rfl rfl ?_
            refine g_11_60 rfl k0 (dd dt_11_sheet 35 rfl) ?_
            refine R_iload_n (dd dt_11_sheet 36 rfl) 1 rfl rfl ?_
            refine R_iload_n (dd dt_11_sheet 37 rfl) 3 rfl rfl ?_
            obtain ⟨μ7, e8, h⟩ := bi_el h
            refine R_isto e8 (ty_11_12 k0) (dd dt_11_sheet 38 rfl) ?_
            refine R_aload_n (dd dt_11_sheet 39 rfl) 0 rfl rfl ?_
            refine g_11_65 rfl k0 (dd dt_11_sheet 40 rfl) ?_
            refine R_iload_n (dd dt_11_sheet 41 rfl) 1 rfl rfl ?_
            obtain ⟨r9, e10, h⟩ := bi_el h
            refine R_aald (t0 := 3) e10 (ty_11_13 k0) (by decide) (by decide) rfl rfl (dd dt_11_sheet 42 rfl) ?_
            refine R_iconst (v := 0) (dd dt_11_sheet 43 rfl) ic_0 ?_
            obtain ⟨μ12, e11, h⟩ := bi_el h
            refine c_11_77 (As := [.ref r9, .int 0]) (st1 := []) rfl (fun Q1 hq => ok_J7_fill e11 (tl_23 e10 (ty_11_13 k0)) hq) rfl rfl (Nat.le_of_ble_eq_true rfl) (dd dt_11_sheet 44 rfl) rfl ?_
            refine R_iconst (v := 1) (dd dt_11_sheet 45 rfl) ic_1 ?_
            obtain rfl := Option.some.inj h
            exact R_iret rfl (dd dt_11_sheet 46 rfl) hQ
          · rw [if_neg hc] at h
            refine R_bipush (v := (-14)) (dd dt_11_sheet 27 rfl) bp_m14 ?_
            obtain rfl := Option.some.inj h
            exact R_iret rfl (dd dt_11_sheet 28 rfl) hQ
        · rw [if_neg hc] at h
          refine R_iconst (v := (-1)) (dd dt_11_sheet 23 rfl) ic_m1 ?_
          obtain rfl := Option.some.inj h
          exact R_iret rfl (dd dt_11_sheet 24 rfl) hQ
      · rw [if_pos hc] at h
        refine R_aload_n (dd dt_11_sheet 13 rfl) 0 rfl rfl ?_
        refine g_11_57 rfl k0 (dd dt_11_sheet 14 rfl) ?_
        refine R_iload_n (dd dt_11_sheet 15 rfl) 1 rfl rfl ?_
        refine R_iconst (v := (-1)) (dd dt_11_sheet 16 rfl) ic_m1 ?_
        obtain ⟨μ13, e14, h⟩ := bi_el h
        refine R_isto e14 (ty_11_11 k0) (dd dt_11_sheet 17 rfl) ?_
        refine R_iconst (v := 1) (dd dt_11_sheet 18 rfl) ic_1 ?_
        obtain rfl := Option.some.inj h
        exact R_iret rfl (dd dt_11_sheet 19 rfl) hQ
    · rw [if_pos hc] at h
      refine R_iconst (v := (-1)) (dd dt_11_sheet 8 rfl) ic_m1 ?_
      obtain rfl := Option.some.inj h
      exact R_iret rfl (dd dt_11_sheet 9 rfl) hQ
/-! LongStrike.narrowed(II)I -/
def tab_11_narrowed : List (Nat × Instr × Nat) := [(0, .iload_n 1, 1), (1, .tableswitch 54 0 4 #[35, 38, 54, 54, 41], 35), (36, .iload_n 0, 1), (37, .i2b, 1), (38, .ireturn, 1), (39, .iload_n 0, 1), (40, .i2s, 1), (41, .ireturn, 1), (42, .iload_n 0, 1), (43, .ifCond .eq 7, 3), (46, .iconst 1, 1), (47, .goto 4, 3), (50, .iconst 0, 1), (51, .invokestatic 181, 3), (54, .ireturn, 1), (55, .iload_n 0, 1), (56, .ireturn, 1)]
set_option maxRecDepth 100000 in
theorem dt_11_narrowed : ∀ q ∈ tab_11_narrowed, decode m_11_narrowed.2.1 q.1 = .ok q.2 := by decide +kernel
def f_11_narrowed (a0 : Int32) (a1 : Int32) (μ : mm) : Option (Int32) :=
  if a1 = 0 then
    some a0.toInt8.toInt32
  else if a1 = 1 then
    some a0.toInt16.toInt32
  else if a1 = 4 then
    (if a0 = 0 then
        some 0
      else
        some 1).bind fun (z1 : Int32) =>
    (f_11_asBit z1 μ).bind fun x3 =>
    some x3
  else 
    some a0
set_option maxRecDepth 100000 in
set_option maxHeartbeats 4000000 in
theorem ok_11_narrowed {l : Launch} {E : ce} {d : Nat}  {a0 : Int32} {a1 : Int32} {μ : mm} {r : Int32} {Q : Option Value → mm → Prop} (h : f_11_narrowed a0 a1 μ = some r)  (hQ : Q (some (.int r)) μ) : Ct l E (d + 1) yX11_narrowed m_11_narrowed [.int a0, .int a1] μ Q := by
  refine Ct_of (lv := [some (.int a0), some (.int a1)]) (by decide) rfl (Nat.le_of_ble_eq_true rfl) rfl ?_
  unfold f_11_narrowed at h
  refine R_iload_n (dd dt_11_narrowed 0 rfl) 1 rfl rfl ?_
  by_cases hs0 : a1 = 0
  · refine R_tabIn (off := 35) (tgt := 36) (dd dt_11_narrowed 1 rfl) (by rw [hs0]; decide) (by rw [hs0]; decide) (by rw [hs0]; rfl) rfl ?_
    rw [if_pos hs0] at h
    refine R_iload_n (dd dt_11_narrowed 2 rfl) 0 rfl rfl ?_
    refine R_i2b (dd dt_11_narrowed 3 rfl) ?_
    obtain rfl := Option.some.inj h
    exact R_iret rfl (dd dt_11_narrowed 4 rfl) hQ
  rw [if_neg hs0] at h
  by_cases hs1 : a1 = 1
  · refine R_tabIn (off := 38) (tgt := 39) (dd dt_11_narrowed 1 rfl) (by rw [hs1]; decide) (by rw [hs1]; decide) (by rw [hs1]; rfl) rfl ?_
    rw [if_pos hs1] at h
    refine R_iload_n (dd dt_11_narrowed 5 rfl) 0 rfl rfl ?_
    refine R_i2s (dd dt_11_narrowed 6 rfl) ?_
    obtain rfl := Option.some.inj h
    exact R_iret rfl (dd dt_11_narrowed 7 rfl) hQ
  rw [if_neg hs1] at h
  by_cases hs4 : a1 = 4
  · refine R_tabIn (off := 41) (tgt := 42) (dd dt_11_narrowed 1 rfl) (by rw [hs4]; decide) (by rw [hs4]; decide) (by rw [hs4]; rfl) rfl ?_
    rw [if_pos hs4] at h
    refine R_iload_n (dd dt_11_narrowed 8 rfl) 0 rfl rfl ?_
    obtain ⟨z1, hz1, h⟩ := bi_el h
    have K1 : Rj l E (d + 1) m_11_narrowed 51 [none, none] [.int z1] μ Q := by
      clear hz1
      obtain ⟨x3, e2, h⟩ := bi_el h
      refine c_11_181 (As := [.int z1]) (st1 := [.int x3]) rfl (fun Q1 hq => ok_11_asBit e2 hq) rfl rfl (Nat.le_of_ble_eq_true rfl) (dd dt_11_narrowed 13 rfl) rfl ?_
      obtain rfl := Option.some.inj h
      exact R_iret rfl (dd dt_11_narrowed 14 rfl) hQ
    clear h
    have h := hz1
    clear hz1
    refine R_ifeq (dd dt_11_narrowed 9 rfl) (tgt := 50) rfl (fun hc => ?_) (fun hc => ?_)
    · rw [if_pos hc] at h
      refine R_iconst (v := 0) (dd dt_11_narrowed 12 rfl) ic_0 ?_
      obtain rfl := Option.some.inj h
      exact R_mask [false, false] rfl K1
    · rw [if_neg hc] at h
      refine R_iconst (v := 1) (dd dt_11_narrowed 10 rfl) ic_1 ?_
      refine R_goto (dd dt_11_narrowed 11 rfl) (tgt := 51) rfl ?_
      obtain rfl := Option.some.inj h
      exact R_mask [false, false] rfl K1
  rw [if_neg hs4] at h
  have KD : Rj l E (d + 1) m_11_narrowed 55 [some (.int a0), some (.int a1)] [] μ Q := by
    refine R_iload_n (dd dt_11_narrowed 15 rfl) 0 rfl rfl ?_
    obtain rfl := Option.some.inj h
    exact R_iret rfl (dd dt_11_narrowed 16 rfl) hQ
  by_cases hs2 : a1 = 2
  · exact R_tabIn (off := 54) (tgt := 55) (dd dt_11_narrowed 1 rfl) (by rw [hs2]; decide) (by rw [hs2]; decide) (by rw [hs2]; rfl) rfl KD
  by_cases hs3 : a1 = 3
  · exact R_tabIn (off := 54) (tgt := 55) (dd dt_11_narrowed 1 rfl) (by rw [hs3]; decide) (by rw [hs3]; decide) (by rw [hs3]; rfl) rfl KD
  refine R_tabOut (tgt := 55) (dd dt_11_narrowed 1 rfl) (by have hn0 := lv_neT hs0 (a := 0) (by decide); have hn1 := lv_neT hs1 (a := 1) (by decide); have hn2 := lv_neT hs2 (a := 2) (by decide); have hn3 := lv_neT hs3 (a := 3) (by decide); have hn4 := lv_neT hs4 (a := 4) (by decide); omega) rfl ?_
  exact KD
/-! LongStrike.put(III)I -/
def tab_11_put : List (Nat × Instr × Nat) := [(0, .iload_n 1, 1), (1, .invokestatic 468, 3), (4, .ifCond .ne 5, 3), (7, .iconst (-1), 1), (8, .ireturn, 1), (9, .aload_n 0, 1), (10, .getfield 57, 3), (13, .iload_n 1, 1), (14, .iaload, 1), (15, .iconst (-1), 1), (16, .if_icmp .ne 6, 3), (19, .bipush (-11), 2), (21, .ireturn, 1), (22, .iload_n 2, 1), (23, .iconst 0, 1), (24, .aload_n 0, 1), (25, .getfield 60, 3), (28, .iload_n 1, 1), (29, .iaload, 1), (30, .iconst 1, 1), (31, .isub, 1), (32, .invokestatic 83, 3), (35, .ifCond .ne 6, 3), (38, .bipush (-12), 2), (40, .ireturn, 1), (41, .aload_n 0, 1), (42, .getfield 65, 3), (45, .iload_n 1, 1), (46, .aaload, 1), (47, .iload_n 2, 1), (48, .iload_n 3, 1), (49, .aload_n 0, 1), (50, .getfield 57, 3), (53, .iload_n 1, 1), (54, .iaload, 1), (55, .invokestatic 471, 3), (58, .iastore, 1), (59, .iconst 1, 1), (60, .ireturn, 1)]
set_option maxRecDepth 100000 in
theorem dt_11_put : ∀ q ∈ tab_11_put, decode m_11_put.2.1 q.1 = .ok q.2 := by decide +kernel
def f_11_put (a0 : Nat) (a1 : Int32) (a2 : Int32) (a3 : Int32) (μ : mm) : Option (Int32 × mm) :=
  (f_11_isSheet a1 μ).bind fun x2 =>
  if x2 = 0 then
    some ((-1), μ)
  else
    (ld μ (rf a0 11) a1).bind fun x3 =>
    if x3 = (-1) then
      some ((-11), μ)
    else
      (ld μ (rf a0 12) a1).bind fun x5 =>
      (f_11_isIn a2 0 (x5 - 1) μ).bind fun x8 =>
      if x8 = 0 then
        some ((-12), μ)
      else
        (lda (rf a0 13) a1).bind fun r9 =>
        (ld μ (rf a0 11) a1).bind fun x11 =>
        (f_11_narrowed a3 x11 μ).bind fun x14 =>
        (sto μ r9 a2 x14).bind fun μ15 =>
        some (1, μ15)
set_option maxRecDepth 100000 in
set_option maxHeartbeats 4000000 in
theorem ok_11_put {l : Launch} {E : ce} {d : Nat}  {a0 : Nat} {a1 : Int32} {a2 : Int32} {a3 : Int32} {μ : mm} {r : Int32 × mm} {Q : Option Value → mm → Prop} (h : f_11_put a0 a1 a2 a3 μ = some r) (k0 : kd a0 = 11) (hQ : Q (some (.int r.1)) r.2) : Ct l E (d + 2) yX11_put m_11_put [.ref a0, .int a1, .int a2, .int a3] μ Q := by
  refine Ct_of (lv := [some (.ref a0), some (.int a1), some (.int a2), some (.int a3)]) (by decide) rfl (Nat.le_of_ble_eq_true rfl) rfl ?_
  unfold f_11_put at h
  refine R_iload_n (dd dt_11_put 0 rfl) 1 rfl rfl ?_
  obtain ⟨x2, e1, h⟩ := bi_el h
  refine c_11_468 (As := [.int a1]) (st1 := [.int x2]) rfl (fun Q1 hq => ok_11_isSheet e1 hq) rfl rfl (Nat.le_of_ble_eq_true rfl) (dd dt_11_put 1 rfl) rfl ?_
  refine R_ifne (dd dt_11_put 2 rfl) (tgt := 9) rfl (fun hc => ?_) (fun hc => ?_)
  · rw [if_neg hc] at h
    refine R_aload_n (dd dt_11_put 5 rfl) 0 rfl rfl ?_
    refine g_11_57 rfl k0 (dd dt_11_put 6 rfl) ?_
    refine R_iload_n (dd dt_11_put 7 rfl) 1 rfl rfl ?_
    obtain ⟨x3, e4, h⟩ := bi_el h
    refine R_ild e4 (ty_11_11 k0) (dd dt_11_put 8 rfl) ?_
    refine R_iconst (v := (-1)) (dd dt_11_put 9 rfl) ic_m1 ?_
    refine R_cmpne (dd dt_11_put 10 rfl) (tgt := 22) rfl (fun hc => ?_) (fun hc => ?_)
    · rw [if_neg hc] at h
      refine R_iload_n (dd dt_11_put 13 rfl) 2 rfl rfl ?_
      refine R_iconst (v := 0) (dd dt_11_put 14 rfl) ic_0 ?_
      refine R_aload_n (dd dt_11_put 15 rfl) 0 rfl rfl ?_
      refine g_11_60 rfl k0 (dd dt_11_put 16 rfl) ?_
      refine R_iload_n (dd dt_11_put 17 rfl) 1 rfl rfl ?_
      obtain ⟨x5, e6, h⟩ := bi_el h
      refine R_ild e6 (ty_11_12 k0) (dd dt_11_put 18 rfl) ?_
      refine R_iconst (v := 1) (dd dt_11_put 19 rfl) ic_1 ?_
      refine R_isub (dd dt_11_put 20 rfl) ?_
      obtain ⟨x8, e7, h⟩ := bi_el h
      refine c_11_83 (As := [.int a2, .int 0, .int (x5 - 1)]) (st1 := [.int x8]) rfl (fun Q1 hq => ok_11_isIn e7 hq) rfl rfl (Nat.le_of_ble_eq_true rfl) (dd dt_11_put 21 rfl) rfl ?_
      refine R_ifne (dd dt_11_put 22 rfl) (tgt := 41) rfl (fun hc => ?_) (fun hc => ?_)
      · rw [if_neg hc] at h
        refine R_aload_n (dd dt_11_put 25 rfl) 0 rfl rfl ?_
        refine g_11_65 rfl k0 (dd dt_11_put 26 rfl) ?_
        refine R_iload_n (dd dt_11_put 27 rfl) 1 rfl rfl ?_
        obtain ⟨r9, e10, h⟩ := bi_el h
        refine R_aald (t0 := 3) e10 (ty_11_13 k0) (by decide) (by decide) rfl rfl (dd dt_11_put 28 rfl) ?_
        refine R_iload_n (dd dt_11_put 29 rfl) 2 rfl rfl ?_
        refine R_iload_n (dd dt_11_put 30 rfl) 3 rfl rfl ?_
        refine R_aload_n (dd dt_11_put 31 rfl) 0 rfl rfl ?_
        refine g_11_57 rfl k0 (dd dt_11_put 32 rfl) ?_
        refine R_iload_n (dd dt_11_put 33 rfl) 1 rfl rfl ?_
        obtain ⟨x11, e12, h⟩ := bi_el h
        refine R_ild e12 (ty_11_11 k0) (dd dt_11_put 34 rfl) ?_
        obtain ⟨x14, e13, h⟩ := bi_el h
        refine c_11_471 (As := [.int a3, .int x11]) (st1 := [.int x14, .int a2, .ref r9]) rfl (fun Q1 hq => ok_11_narrowed e13 hq) rfl rfl (Nat.le_of_ble_eq_true rfl) (dd dt_11_put 35 rfl) rfl ?_
        obtain ⟨μ15, e16, h⟩ := bi_el h
        refine R_isto e16 (tl_23 e10 (ty_11_13 k0)) (dd dt_11_put 36 rfl) ?_
        refine R_iconst (v := 1) (dd dt_11_put 37 rfl) ic_1 ?_
        obtain rfl := Option.some.inj h
        exact R_iret rfl (dd dt_11_put 38 rfl) hQ
      · rw [if_pos hc] at h
        refine R_bipush (v := (-12)) (dd dt_11_put 23 rfl) bp_m12 ?_
        obtain rfl := Option.some.inj h
        exact R_iret rfl (dd dt_11_put 24 rfl) hQ
    · rw [if_pos hc] at h
      refine R_bipush (v := (-11)) (dd dt_11_put 11 rfl) bp_m11 ?_
      obtain rfl := Option.some.inj h
      exact R_iret rfl (dd dt_11_put 12 rfl) hQ
  · rw [if_pos hc] at h
    refine R_iconst (v := (-1)) (dd dt_11_put 3 rfl) ic_m1 ?_
    obtain rfl := Option.some.inj h
    exact R_iret rfl (dd dt_11_put 4 rfl) hQ
/-! LongStrike.refuseItems(IIII)I -/
def tab_11_refuseItems : List (Nat × Instr × Nat) := [(0, .aload_n 0, 1), (1, .getfield 57, 3), (4, .iload_n 1, 1), (5, .iaload, 1), (6, .iconst (-1), 1), (7, .if_icmp .ne 6, 3), (10, .bipush (-11), 2), (12, .ireturn, 1), (13, .aload_n 0, 1), (14, .getfield 57, 3), (17, .iload_n 1, 1), (18, .iaload, 1), (19, .iload_n 2, 1), (20, .if_icmp .eq 6, 3), (23, .bipush (-13), 2), (25, .ireturn, 1), (26, .iload_n 3, 1), (27, .iconst 0, 1), (28, .aload_n 0, 1), (29, .getfield 60, 3), (32, .iload_n 1, 1), (33, .iaload, 1), (34, .iload 4, 2), (36, .isub, 1), (37, .invokestatic 83, 3), (40, .ifCond .eq 7, 3), (43, .iconst 0, 1), (44, .goto 5, 3), (47, .bipush (-12), 2), (49, .ireturn, 1)]
set_option maxRecDepth 100000 in
theorem dt_11_refuseItems : ∀ q ∈ tab_11_refuseItems, decode m_11_refuseItems.2.1 q.1 = .ok q.2 := by decide +kernel
def f_11_refuseItems (a0 : Nat) (a1 : Int32) (a2 : Int32) (a3 : Int32) (a4 : Int32) (μ : mm) : Option (Int32) :=
  (ld μ (rf a0 11) a1).bind fun x1 =>
  if x1 = (-1) then
    some (-11)
  else
    (ld μ (rf a0 11) a1).bind fun x3 =>
    if x3 = a2 then
      (ld μ (rf a0 12) a1).bind fun x5 =>
      (f_11_isIn a3 0 (x5 - a4) μ).bind fun x8 =>
      if x8 = 0 then
        some (-12)
      else
        some 0
    else
      some (-13)
set_option maxRecDepth 100000 in
set_option maxHeartbeats 4000000 in
theorem ok_11_refuseItems {l : Launch} {E : ce} {d : Nat}  {a0 : Nat} {a1 : Int32} {a2 : Int32} {a3 : Int32} {a4 : Int32} {μ : mm} {r : Int32} {Q : Option Value → mm → Prop} (h : f_11_refuseItems a0 a1 a2 a3 a4 μ = some r) (k0 : kd a0 = 11) (hQ : Q (some (.int r)) μ) : Ct l E (d + 1) yX11_refuseItems m_11_refuseItems [.ref a0, .int a1, .int a2, .int a3, .int a4] μ Q := by
  refine Ct_of (lv := [some (.ref a0), some (.int a1), some (.int a2), some (.int a3), some (.int a4)]) (by decide) rfl (Nat.le_of_ble_eq_true rfl) rfl ?_
  unfold f_11_refuseItems at h
  refine R_aload_n (dd dt_11_refuseItems 0 rfl) 0 rfl rfl ?_
  refine g_11_57 rfl k0 (dd dt_11_refuseItems 1 rfl) ?_
  refine R_iload_n (dd dt_11_refuseItems 2 rfl) 1 rfl rfl ?_
  obtain ⟨x1, e2, h⟩ := bi_el h
  refine R_ild e2 (ty_11_11 k0) (dd dt_11_refuseItems 3 rfl) ?_
  refine R_iconst (v := (-1)) (dd dt_11_refuseItems 4 rfl) ic_m1 ?_
  refine R_cmpne (dd dt_11_refuseItems 5 rfl) (tgt := 13) rfl (fun hc => ?_) (fun hc => ?_)
  · rw [if_neg hc] at h
    refine R_aload_n (dd dt_11_refuseItems 8 rfl) 0 rfl rfl ?_
    refine g_11_57 rfl k0 (dd dt_11_refuseItems 9 rfl) ?_
    refine R_iload_n (dd dt_11_refuseItems 10 rfl) 1 rfl rfl ?_
    obtain ⟨x3, e4, h⟩ := bi_el h
    refine R_ild e4 (ty_11_11 k0) (dd dt_11_refuseItems 11 rfl) ?_
    refine R_iload_n (dd dt_11_refuseItems 12 rfl) 2 rfl rfl ?_
    refine R_cmpeq (dd dt_11_refuseItems 13 rfl) (tgt := 26) rfl (fun hc => ?_) (fun hc => ?_)
    · rw [if_pos hc] at h
      refine R_iload_n (dd dt_11_refuseItems 16 rfl) 3 rfl rfl ?_
      refine R_iconst (v := 0) (dd dt_11_refuseItems 17 rfl) ic_0 ?_
      refine R_aload_n (dd dt_11_refuseItems 18 rfl) 0 rfl rfl ?_
      refine g_11_60 rfl k0 (dd dt_11_refuseItems 19 rfl) ?_
      refine R_iload_n (dd dt_11_refuseItems 20 rfl) 1 rfl rfl ?_
      obtain ⟨x5, e6, h⟩ := bi_el h
      refine R_ild e6 (ty_11_12 k0) (dd dt_11_refuseItems 21 rfl) ?_
      refine R_iload (dd dt_11_refuseItems 22 rfl) rfl ?_
      refine R_isub (dd dt_11_refuseItems 23 rfl) ?_
      obtain ⟨x8, e7, h⟩ := bi_el h
      refine c_11_83 (As := [.int a3, .int 0, .int (x5 - a4)]) (st1 := [.int x8]) rfl (fun Q1 hq => ok_11_isIn e7 hq) rfl rfl (Nat.le_of_ble_eq_true rfl) (dd dt_11_refuseItems 24 rfl) rfl ?_
      refine R_ifeq (dd dt_11_refuseItems 25 rfl) (tgt := 47) rfl (fun hc => ?_) (fun hc => ?_)
      · rw [if_pos hc] at h
        refine R_bipush (v := (-12)) (dd dt_11_refuseItems 28 rfl) bp_m12 ?_
        obtain rfl := Option.some.inj h
        exact R_iret rfl (dd dt_11_refuseItems 29 rfl) hQ
      · rw [if_neg hc] at h
        refine R_iconst (v := 0) (dd dt_11_refuseItems 26 rfl) ic_0 ?_
        refine R_goto (dd dt_11_refuseItems 27 rfl) (tgt := 49) rfl ?_
        obtain rfl := Option.some.inj h
        exact R_iret rfl (dd dt_11_refuseItems 29 rfl) hQ
    · rw [if_neg hc] at h
      refine R_bipush (v := (-13)) (dd dt_11_refuseItems 14 rfl) bp_m13 ?_
      obtain rfl := Option.some.inj h
      exact R_iret rfl (dd dt_11_refuseItems 15 rfl) hQ
  · rw [if_pos hc] at h
    refine R_bipush (v := (-11)) (dd dt_11_refuseItems 6 rfl) bp_m11 ?_
    obtain rfl := Option.some.inj h
    exact R_iret rfl (dd dt_11_refuseItems 7 rfl) hQ
/-! LongStrike.item(III)I -/
def tab_11_item : List (Nat × Instr × Nat) := [(0, .iload_n 1, 1), (1, .invokestatic 468, 3), (4, .ifCond .eq 12, 3), (7, .iload_n 2, 1), (8, .iconst 0, 1), (9, .iconst 4, 1), (10, .invokestatic 83, 3), (13, .ifCond .ne 5, 3), (16, .iconst (-1), 1), (17, .ireturn, 1), (18, .aload_n 0, 1), (19, .iload_n 1, 1), (20, .iload_n 2, 1), (21, .iload_n 3, 1), (22, .iconst 1, 1), (23, .invokevirtual 474, 3), (26, .istore 4, 2), (28, .iload 4, 2), (30, .ifCond .ge 8, 3), (33, .iload 4, 2), (35, .goto 11, 3), (38, .aload_n 0, 1), (39, .getfield 65, 3), (42, .iload_n 1, 1), (43, .aaload, 1), (44, .iload_n 3, 1), (45, .iaload, 1), (46, .ireturn, 1)]
set_option maxRecDepth 100000 in
theorem dt_11_item : ∀ q ∈ tab_11_item, decode m_11_item.2.1 q.1 = .ok q.2 := by decide +kernel
def f_11_item (a0 : Nat) (a1 : Int32) (a2 : Int32) (a3 : Int32) (μ : mm) : Option (Int32) :=
  (f_11_isSheet a1 μ).bind fun x2 =>
  if x2 = 0 then
    some (-1)
  else
    (f_11_isIn a2 0 4 μ).bind fun x4 =>
    if x4 = 0 then
      some (-1)
    else
      (f_11_refuseItems a0 a1 a2 a3 1 μ).bind fun x6 =>
      if 0 ≤ x6 then
        (lda (rf a0 13) a1).bind fun r7 =>
        (ld μ r7 a3).bind fun x9 =>
        some x9
      else
        some x6
set_option maxRecDepth 100000 in
set_option maxHeartbeats 4000000 in
theorem ok_11_item {l : Launch} {E : ce} {d : Nat}  {a0 : Nat} {a1 : Int32} {a2 : Int32} {a3 : Int32} {μ : mm} {r : Int32} {Q : Option Value → mm → Prop} (h : f_11_item a0 a1 a2 a3 μ = some r) (k0 : kd a0 = 11) (hQ : Q (some (.int r)) μ) : Ct l E (d + 2) yX11_item m_11_item [.ref a0, .int a1, .int a2, .int a3] μ Q := by
  refine Ct_of (lv := [some (.ref a0), some (.int a1), some (.int a2), some (.int a3), none]) (by decide) rfl (Nat.le_of_ble_eq_true rfl) rfl ?_
  unfold f_11_item at h
  refine R_iload_n (dd dt_11_item 0 rfl) 1 rfl rfl ?_
  obtain ⟨x2, e1, h⟩ := bi_el h
  refine c_11_468 (As := [.int a1]) (st1 := [.int x2]) rfl (fun Q1 hq => ok_11_isSheet e1 hq) rfl rfl (Nat.le_of_ble_eq_true rfl) (dd dt_11_item 1 rfl) rfl ?_
  refine R_ifeq (dd dt_11_item 2 rfl) (tgt := 16) rfl (fun hc => ?_) (fun hc => ?_)
  · rw [if_pos hc] at h
    refine R_iconst (v := (-1)) (dd dt_11_item 8 rfl) ic_m1 ?_
    obtain rfl := Option.some.inj h
    exact R_iret rfl (dd dt_11_item 9 rfl) hQ
  · rw [if_neg hc] at h
    refine R_iload_n (dd dt_11_item 3 rfl) 2 rfl rfl ?_
    refine R_iconst (v := 0) (dd dt_11_item 4 rfl) ic_0 ?_
    refine R_iconst (v := 4) (dd dt_11_item 5 rfl) ic_4 ?_
    obtain ⟨x4, e3, h⟩ := bi_el h
    refine c_11_83 (As := [.int a2, .int 0, .int 4]) (st1 := [.int x4]) rfl (fun Q1 hq => ok_11_isIn e3 hq) rfl rfl (Nat.le_of_ble_eq_true rfl) (dd dt_11_item 6 rfl) rfl ?_
    refine R_ifne (dd dt_11_item 7 rfl) (tgt := 18) rfl (fun hc => ?_) (fun hc => ?_)
    · rw [if_neg hc] at h
      refine R_aload_n (dd dt_11_item 10 rfl) 0 rfl rfl ?_
      refine R_iload_n (dd dt_11_item 11 rfl) 1 rfl rfl ?_
      refine R_iload_n (dd dt_11_item 12 rfl) 2 rfl rfl ?_
      refine R_iload_n (dd dt_11_item 13 rfl) 3 rfl rfl ?_
      refine R_iconst (v := 1) (dd dt_11_item 14 rfl) ic_1 ?_
      obtain ⟨x6, e5, h⟩ := bi_el h
      refine c_11_474 (As := [.int a1, .int a2, .int a3, .int 1]) (st1 := [.int x6]) rfl (fun Q1 hq => ok_11_refuseItems e5 k0 hq) k0 rfl rfl (Nat.le_of_ble_eq_true rfl) (dd dt_11_item 15 rfl) rfl ?_
      refine R_istore (lv' := [some (.ref a0), some (.int a1), some (.int a2), some (.int a3), some (.int x6)]) (dd dt_11_item 16 rfl) (by decide) rfl rfl ?_
      refine R_iload (dd dt_11_item 17 rfl) rfl ?_
      refine R_ifge (dd dt_11_item 18 rfl) (tgt := 38) rfl (fun hc => ?_) (fun hc => ?_)
      · rw [if_pos hc] at h
        refine R_aload_n (dd dt_11_item 21 rfl) 0 rfl rfl ?_
        refine g_11_65 rfl k0 (dd dt_11_item 22 rfl) ?_
        refine R_iload_n (dd dt_11_item 23 rfl) 1 rfl rfl ?_
        obtain ⟨r7, e8, h⟩ := bi_el h
        refine R_aald (t0 := 3) e8 (ty_11_13 k0) (by decide) (by decide) rfl rfl (dd dt_11_item 24 rfl) ?_
        refine R_iload_n (dd dt_11_item 25 rfl) 3 rfl rfl ?_
        obtain ⟨x9, e10, h⟩ := bi_el h
        refine R_ild e10 (tl_23 e8 (ty_11_13 k0)) (dd dt_11_item 26 rfl) ?_
        obtain rfl := Option.some.inj h
        exact R_iret rfl (dd dt_11_item 27 rfl) hQ
      · rw [if_neg hc] at h
        refine R_iload (dd dt_11_item 19 rfl) rfl ?_
        refine R_goto (dd dt_11_item 20 rfl) (tgt := 46) rfl ?_
        obtain rfl := Option.some.inj h
        exact R_iret rfl (dd dt_11_item 27 rfl) hQ
    · rw [if_pos hc] at h
      refine R_iconst (v := (-1)) (dd dt_11_item 8 rfl) ic_m1 ?_
      obtain rfl := Option.some.inj h
      exact R_iret rfl (dd dt_11_item 9 rfl) hQ
/-! LongStrike.comes(II)I -/
def tab_11_comes : List (Nat × Instr × Nat) := [(0, .iload_n 1, 1), (1, .invokestatic 468, 3), (4, .ifCond .ne 5, 3), (7, .iconst (-1), 1), (8, .ireturn, 1), (9, .aload_n 0, 1), (10, .iload_n 1, 1), (11, .iconst 1, 1), (12, .iload_n 2, 1), (13, .iconst 5, 1), (14, .invokevirtual 474, 3), (17, .istore_n 3, 1), (18, .iload_n 3, 1), (19, .ifCond .ge 5, 3), (22, .iload_n 3, 1), (23, .ireturn, 1), (24, .aload_n 0, 1), (25, .getfield 65, 3), (28, .iload_n 1, 1), (29, .aaload, 1), (30, .astore 4, 2), (32, .aload_n 0, 1), (33, .aload 4, 2), (35, .iload_n 2, 1), (36, .iaload, 1), (37, .aload 4, 2), (39, .iload_n 2, 1), (40, .iconst 1, 1), (41, .iadd, 1), (42, .iaload, 1), (43, .aload 4, 2), (45, .iload_n 2, 1), (46, .iconst 2, 1), (47, .iadd, 1), (48, .iaload, 1), (49, .aload 4, 2), (51, .iload_n 2, 1), (52, .iconst 3, 1), (53, .iadd, 1), (54, .iaload, 1), (55, .aload 4, 2), (57, .iload_n 2, 1), (58, .iconst 4, 1), (59, .iadd, 1), (60, .iaload, 1), (61, .invokevirtual 478, 3), (64, .ireturn, 1)]
set_option maxRecDepth 100000 in
theorem dt_11_comes : ∀ q ∈ tab_11_comes, decode m_11_comes.2.1 q.1 = .ok q.2 := by decide +kernel
def f_11_comes (a0 : Nat) (a1 : Int32) (a2 : Int32) (μ : mm) : Option (Int32 × mm) :=
  (f_11_isSheet a1 μ).bind fun x2 =>
  if x2 = 0 then
    some ((-1), μ)
  else
    (f_11_refuseItems a0 a1 1 a2 5 μ).bind fun x4 =>
    if 0 ≤ x4 then
      (lda (rf a0 13) a1).bind fun r5 =>
      (ld μ r5 a2).bind fun x7 =>
      (ld μ r5 (a2 + 1)).bind fun x9 =>
      (ld μ r5 (a2 + 2)).bind fun x11 =>
      (ld μ r5 (a2 + 3)).bind fun x13 =>
      (ld μ r5 (a2 + 4)).bind fun x15 =>
      (f_11_household a0 x7 x9 x11 x13 x15 μ).bind fun z18 =>
      some (z18.1, z18.2)
    else
      some (x4, μ)
set_option maxRecDepth 100000 in
set_option maxHeartbeats 4000000 in
theorem ok_11_comes {l : Launch} {E : ce} {d : Nat}  {a0 : Nat} {a1 : Int32} {a2 : Int32} {μ : mm} {r : Int32 × mm} {Q : Option Value → mm → Prop} (h : f_11_comes a0 a1 a2 μ = some r) (k0 : kd a0 = 11) (hQ : Q (some (.int r.1)) r.2) : Ct l E (d + 3) yX11_comes m_11_comes [.ref a0, .int a1, .int a2] μ Q := by
  refine Ct_of (lv := [some (.ref a0), some (.int a1), some (.int a2), none, none]) (by decide) rfl (Nat.le_of_ble_eq_true rfl) rfl ?_
  unfold f_11_comes at h
  refine R_iload_n (dd dt_11_comes 0 rfl) 1 rfl rfl ?_
  obtain ⟨x2, e1, h⟩ := bi_el h
  refine c_11_468 (As := [.int a1]) (st1 := [.int x2]) rfl (fun Q1 hq => ok_11_isSheet e1 hq) rfl rfl (Nat.le_of_ble_eq_true rfl) (dd dt_11_comes 1 rfl) rfl ?_
  refine R_ifne (dd dt_11_comes 2 rfl) (tgt := 9) rfl (fun hc => ?_) (fun hc => ?_)
  · rw [if_neg hc] at h
    refine R_aload_n (dd dt_11_comes 5 rfl) 0 rfl rfl ?_
    refine R_iload_n (dd dt_11_comes 6 rfl) 1 rfl rfl ?_
    refine R_iconst (v := 1) (dd dt_11_comes 7 rfl) ic_1 ?_
    refine R_iload_n (dd dt_11_comes 8 rfl) 2 rfl rfl ?_
    refine R_iconst (v := 5) (dd dt_11_comes 9 rfl) ic_5 ?_
    obtain ⟨x4, e3, h⟩ := bi_el h
    refine c_11_474 (As := [.int a1, .int 1, .int a2, .int 5]) (st1 := [.int x4]) rfl (fun Q1 hq => ok_11_refuseItems e3 k0 hq) k0 rfl rfl (Nat.le_of_ble_eq_true rfl) (dd dt_11_comes 10 rfl) rfl ?_
    refine R_istore_n (lv' := [some (.ref a0), some (.int a1), some (.int a2), some (.int x4), none]) (dd dt_11_comes 11 rfl) 3 rfl (by decide) rfl rfl ?_
    refine R_iload_n (dd dt_11_comes 12 rfl) 3 rfl rfl ?_
    refine R_ifge (dd dt_11_comes 13 rfl) (tgt := 24) rfl (fun hc => ?_) (fun hc => ?_)
    · rw [if_pos hc] at h
      refine R_aload_n (dd dt_11_comes 16 rfl) 0 rfl rfl ?_
      refine g_11_65 rfl k0 (dd dt_11_comes 17 rfl) ?_
      refine R_iload_n (dd dt_11_comes 18 rfl) 1 rfl rfl ?_
      obtain ⟨r5, e6, h⟩ := bi_el h
      refine R_aald (t0 := 3) e6 (ty_11_13 k0) (by decide) (by decide) rfl rfl (dd dt_11_comes 19 rfl) ?_
      refine R_astore (lv' := [some (.ref a0), some (.int a1), some (.int a2), some (.int x4), some (.ref r5)]) (dd dt_11_comes 20 rfl) (by decide) rfl rfl ?_
      refine R_aload_n (dd dt_11_comes 21 rfl) 0 rfl rfl ?_
      refine R_aload (dd dt_11_comes 22 rfl) rfl ?_
      refine R_iload_n (dd dt_11_comes 23 rfl) 2 rfl rfl ?_
      obtain ⟨x7, e8, h⟩ := bi_el h
      refine R_ild e8 (tl_23 e6 (ty_11_13 k0)) (dd dt_11_comes 24 rfl) ?_
      refine R_aload (dd dt_11_comes 25 rfl) rfl ?_
      refine R_iload_n (dd dt_11_comes 26 rfl) 2 rfl rfl ?_
      refine R_iconst (v := 1) (dd dt_11_comes 27 rfl) ic_1 ?_
      refine R_iadd (dd dt_11_comes 28 rfl) ?_
      obtain ⟨x9, e10, h⟩ := bi_el h
      refine R_ild e10 (tl_23 e6 (ty_11_13 k0)) (dd dt_11_comes 29 rfl) ?_
      refine R_aload (dd dt_11_comes 30 rfl) rfl ?_
      refine R_iload_n (dd dt_11_comes 31 rfl) 2 rfl rfl ?_
      refine R_iconst (v := 2) (dd dt_11_comes 32 rfl) ic_2 ?_
      refine R_iadd (dd dt_11_comes 33 rfl) ?_
      obtain ⟨x11, e12, h⟩ := bi_el h
      refine R_ild e12 (tl_23 e6 (ty_11_13 k0)) (dd dt_11_comes 34 rfl) ?_
      refine R_aload (dd dt_11_comes 35 rfl) rfl ?_
      refine R_iload_n (dd dt_11_comes 36 rfl) 2 rfl rfl ?_
      refine R_iconst (v := 3) (dd dt_11_comes 37 rfl) ic_3 ?_
      refine R_iadd (dd dt_11_comes 38 rfl) ?_
      obtain ⟨x13, e14, h⟩ := bi_el h
      refine R_ild e14 (tl_23 e6 (ty_11_13 k0)) (dd dt_11_comes 39 rfl) ?_
      refine R_aload (dd dt_11_comes 40 rfl) rfl ?_
      refine R_iload_n (dd dt_11_comes 41 rfl) 2 rfl rfl ?_
      refine R_iconst (v := 4) (dd dt_11_comes 42 rfl) ic_4 ?_
      refine R_iadd (dd dt_11_comes 43 rfl) ?_
      obtain ⟨x15, e16, h⟩ := bi_el h
      refine R_ild e16 (tl_23 e6 (ty_11_13 k0)) (dd dt_11_comes 44 rfl) ?_
      obtain ⟨z18, e17, h⟩ := bi_el h
      refine c_11_478 (As := [.int x7, .int x9, .int x11, .int x13, .int x15]) (st1 := [.int z18.1]) rfl (fun Q1 hq => ok_11_household e17 k0 hq) k0 rfl rfl (Nat.le_of_ble_eq_true rfl) (dd dt_11_comes 45 rfl) rfl ?_
      obtain rfl := Option.some.inj h
      exact R_iret rfl (dd dt_11_comes 46 rfl) hQ
    · rw [if_neg hc] at h
      refine R_iload_n (dd dt_11_comes 14 rfl) 3 rfl rfl ?_
      obtain rfl := Option.some.inj h
      exact R_iret rfl (dd dt_11_comes 15 rfl) hQ
  · rw [if_pos hc] at h
    refine R_iconst (v := (-1)) (dd dt_11_comes 3 rfl) ic_m1 ?_
    obtain rfl := Option.some.inj h
    exact R_iret rfl (dd dt_11_comes 4 rfl) hQ
/-! LongStrike.holdRow(II)I -/
def tab_11_holdRow : List (Nat × Instr × Nat) := [(0, .aload_n 0, 1), (1, .getfield 57, 3), (4, .iload_n 2, 1), (5, .iaload, 1), (6, .iconst (-1), 1), (7, .if_icmp .ne 7, 3), (10, .iconst 1, 1), (11, .goto 4, 3), (14, .iconst 0, 1), (15, .istore_n 3, 1), (16, .aload_n 0, 1), (17, .getfield 68, 3), (20, .iload_n 1, 1), (21, .iload_n 3, 1), (22, .ifCond .eq 7, 3), (25, .iconst 4, 1), (26, .goto 4, 3), (29, .iconst 3, 1), (30, .iastore, 1), (31, .aload_n 0, 1), (32, .getfield 71, 3), (35, .iload_n 1, 1), (36, .aload_n 0, 1), (37, .getfield 57, 3), (40, .iload_n 2, 1), (41, .iaload, 1), (42, .iastore, 1), (43, .aload_n 0, 1), (44, .getfield 74, 3), (47, .iload_n 1, 1), (48, .aload_n 0, 1), (49, .getfield 60, 3), (52, .iload_n 2, 1), (53, .iaload, 1), (54, .iastore, 1), (55, .iconst 1, 1), (56, .ireturn, 1)]
set_option maxRecDepth 100000 in
theorem dt_11_holdRow : ∀ q ∈ tab_11_holdRow, decode m_11_holdRow.2.1 q.1 = .ok q.2 := by decide +kernel
def f_11_holdRow (a0 : Nat) (a1 : Int32) (a2 : Int32) (μ : mm) : Option (Int32 × mm) :=
  (ld μ (rf a0 11) a2).bind fun x1 =>
  (if x1 = (-1) then
      some 1
    else
      some 0).bind fun (z3 : Int32) =>
  (if z3 = 0 then
      some 3
    else
      some 4).bind fun (z4 : Int32) =>
  (sto μ (rf a0 14) a1 z4).bind fun μ5 =>
  (ld μ5 (rf a0 11) a2).bind fun x7 =>
  (sto μ5 (rf a0 15) a1 x7).bind fun μ9 =>
  (ld μ9 (rf a0 12) a2).bind fun x11 =>
  (sto μ9 (rf a0 16) a1 x11).bind fun μ13 =>
  some (1, μ13)
set_option maxRecDepth 100000 in
set_option maxHeartbeats 4000000 in
theorem ok_11_holdRow {l : Launch} {E : ce} {d : Nat}  {a0 : Nat} {a1 : Int32} {a2 : Int32} {μ : mm} {r : Int32 × mm} {Q : Option Value → mm → Prop} (h : f_11_holdRow a0 a1 a2 μ = some r) (k0 : kd a0 = 11) (hQ : Q (some (.int r.1)) r.2) : Ct l E d yX11_holdRow m_11_holdRow [.ref a0, .int a1, .int a2] μ Q := by
  refine Ct_of (lv := [some (.ref a0), some (.int a1), some (.int a2), none]) (by decide) rfl (Nat.le_of_ble_eq_true rfl) rfl ?_
  unfold f_11_holdRow at h
  refine R_aload_n (dd dt_11_holdRow 0 rfl) 0 rfl rfl ?_
  refine g_11_57 rfl k0 (dd dt_11_holdRow 1 rfl) ?_
  refine R_iload_n (dd dt_11_holdRow 2 rfl) 2 rfl rfl ?_
  obtain ⟨x1, e2, h⟩ := bi_el h
  refine R_ild e2 (ty_11_11 k0) (dd dt_11_holdRow 3 rfl) ?_
  refine R_iconst (v := (-1)) (dd dt_11_holdRow 4 rfl) ic_m1 ?_
  obtain ⟨z3, hz3, h⟩ := bi_el h
  have K3 : Rj l E d m_11_holdRow 15 [some (.ref a0), some (.int a1), some (.int a2), none] [.int z3] μ Q := by
    clear hz3
    refine R_istore_n (lv' := [some (.ref a0), some (.int a1), some (.int a2), some (.int z3)]) (dd dt_11_holdRow 9 rfl) 3 rfl (by decide) rfl rfl ?_
    refine R_aload_n (dd dt_11_holdRow 10 rfl) 0 rfl rfl ?_
    refine g_11_68 rfl k0 (dd dt_11_holdRow 11 rfl) ?_
    refine R_iload_n (dd dt_11_holdRow 12 rfl) 1 rfl rfl ?_
    refine R_iload_n (dd dt_11_holdRow 13 rfl) 3 rfl rfl ?_
    obtain ⟨z4, hz4, h⟩ := bi_el h
    have K4 : Rj l E d m_11_holdRow 30 [some (.ref a0), some (.int a1), some (.int a2), none] [.int z4, .int a1, .ref (rf a0 14)] μ Q := by
      clear hz4
      obtain ⟨μ5, e6, h⟩ := bi_el h
      refine R_isto e6 (ty_11_14 k0) (dd dt_11_holdRow 18 rfl) ?_
      refine R_aload_n (dd dt_11_holdRow 19 rfl) 0 rfl rfl ?_
      refine g_11_71 rfl k0 (dd dt_11_holdRow 20 rfl) ?_
      refine R_iload_n (dd dt_11_holdRow 21 rfl) 1 rfl rfl ?_
      refine R_aload_n (dd dt_11_holdRow 22 rfl) 0 rfl rfl ?_
      refine g_11_57 rfl k0 (dd dt_11_holdRow 23 rfl) ?_
      refine R_iload_n (dd dt_11_holdRow 24 rfl) 2 rfl rfl ?_
      obtain ⟨x7, e8, h⟩ := bi_el h
      refine R_ild e8 (ty_11_11 k0) (dd dt_11_holdRow 25 rfl) ?_
      obtain ⟨μ9, e10, h⟩ := bi_el h
      refine R_isto e10 (ty_11_15 k0) (dd dt_11_holdRow 26 rfl) ?_
      refine R_aload_n (dd dt_11_holdRow 27 rfl) 0 rfl rfl ?_
      refine g_11_74 rfl k0 (dd dt_11_holdRow 28 rfl) ?_
      refine R_iload_n (dd dt_11_holdRow 29 rfl) 1 rfl rfl ?_
      refine R_aload_n (dd dt_11_holdRow 30 rfl) 0 rfl rfl ?_
      refine g_11_60 rfl k0 (dd dt_11_holdRow 31 rfl) ?_
      refine R_iload_n (dd dt_11_holdRow 32 rfl) 2 rfl rfl ?_
      obtain ⟨x11, e12, h⟩ := bi_el h
      refine R_ild e12 (ty_11_12 k0) (dd dt_11_holdRow 33 rfl) ?_
      obtain ⟨μ13, e14, h⟩ := bi_el h
      refine R_isto e14 (ty_11_16 k0) (dd dt_11_holdRow 34 rfl) ?_
      refine R_iconst (v := 1) (dd dt_11_holdRow 35 rfl) ic_1 ?_
      obtain rfl := Option.some.inj h
      exact R_iret rfl (dd dt_11_holdRow 36 rfl) hQ
    clear h
    have h := hz4
    clear hz4
    refine R_ifeq (dd dt_11_holdRow 14 rfl) (tgt := 29) rfl (fun hc => ?_) (fun hc => ?_)
    · rw [if_pos hc] at h
      refine R_iconst (v := 3) (dd dt_11_holdRow 17 rfl) ic_3 ?_
      obtain rfl := Option.some.inj h
      exact R_mask [true, true, true, false] rfl K4
    · rw [if_neg hc] at h
      refine R_iconst (v := 4) (dd dt_11_holdRow 15 rfl) ic_4 ?_
      refine R_goto (dd dt_11_holdRow 16 rfl) (tgt := 30) rfl ?_
      obtain rfl := Option.some.inj h
      exact R_mask [true, true, true, false] rfl K4
  clear h
  have h := hz3
  clear hz3
  refine R_cmpne (dd dt_11_holdRow 5 rfl) (tgt := 14) rfl (fun hc => ?_) (fun hc => ?_)
  · rw [if_neg hc] at h
    refine R_iconst (v := 0) (dd dt_11_holdRow 8 rfl) ic_0 ?_
    obtain rfl := Option.some.inj h
    exact R_mask [true, true, true, false] rfl K3
  · rw [if_pos hc] at h
    refine R_iconst (v := 1) (dd dt_11_holdRow 6 rfl) ic_1 ?_
    refine R_goto (dd dt_11_holdRow 7 rfl) (tgt := 15) rfl ?_
    obtain rfl := Option.some.inj h
    exact R_mask [true, true, true, false] rfl K3
/-! LongStrike.holdThing(IIIZ)I -/
def tab_11_holdThing : List (Nat × Instr × Nat) := [(0, .iload 4, 2), (2, .ifCond .ne 5, 3), (5, .iconst (-1), 1), (6, .ireturn, 1), (7, .aload_n 0, 1), (8, .getfield 68, 3), (11, .iload_n 1, 1), (12, .iload_n 2, 1), (13, .iastore, 1), (14, .aload_n 0, 1), (15, .getfield 71, 3), (18, .iload_n 1, 1), (19, .iload_n 3, 1), (20, .iastore, 1), (21, .iconst 1, 1), (22, .ireturn, 1)]
set_option maxRecDepth 100000 in
theorem dt_11_holdThing : ∀ q ∈ tab_11_holdThing, decode m_11_holdThing.2.1 q.1 = .ok q.2 := by decide +kernel
def f_11_holdThing (a0 : Nat) (a1 : Int32) (a2 : Int32) (a3 : Int32) (a4 : Int32) (μ : mm) : Option (Int32 × mm) :=
  if a4 = 0 then
    some ((-1), μ)
  else
    (sto μ (rf a0 14) a1 a2).bind fun μ1 =>
    (sto μ1 (rf a0 15) a1 a3).bind fun μ3 =>
    some (1, μ3)
set_option maxRecDepth 100000 in
set_option maxHeartbeats 4000000 in
theorem ok_11_holdThing {l : Launch} {E : ce} {d : Nat}  {a0 : Nat} {a1 : Int32} {a2 : Int32} {a3 : Int32} {a4 : Int32} {μ : mm} {r : Int32 × mm} {Q : Option Value → mm → Prop} (h : f_11_holdThing a0 a1 a2 a3 a4 μ = some r) (k0 : kd a0 = 11) (hQ : Q (some (.int r.1)) r.2) : Ct l E d yX11_holdThing m_11_holdThing [.ref a0, .int a1, .int a2, .int a3, .int a4] μ Q := by
  refine Ct_of (lv := [some (.ref a0), some (.int a1), some (.int a2), some (.int a3), some (.int a4)]) (by decide) rfl (Nat.le_of_ble_eq_true rfl) rfl ?_
  unfold f_11_holdThing at h
  refine R_iload (dd dt_11_holdThing 0 rfl) rfl ?_
  refine R_ifne (dd dt_11_holdThing 1 rfl) (tgt := 7) rfl (fun hc => ?_) (fun hc => ?_)
  · rw [if_neg hc] at h
    refine R_aload_n (dd dt_11_holdThing 4 rfl) 0 rfl rfl ?_
    refine g_11_68 rfl k0 (dd dt_11_holdThing 5 rfl) ?_
    refine R_iload_n (dd dt_11_holdThing 6 rfl) 1 rfl rfl ?_
    refine R_iload_n (dd dt_11_holdThing 7 rfl) 2 rfl rfl ?_
    obtain ⟨μ1, e2, h⟩ := bi_el h
    refine R_isto e2 (ty_11_14 k0) (dd dt_11_holdThing 8 rfl) ?_
    refine R_aload_n (dd dt_11_holdThing 9 rfl) 0 rfl rfl ?_
    refine g_11_71 rfl k0 (dd dt_11_holdThing 10 rfl) ?_
    refine R_iload_n (dd dt_11_holdThing 11 rfl) 1 rfl rfl ?_
    refine R_iload_n (dd dt_11_holdThing 12 rfl) 3 rfl rfl ?_
    obtain ⟨μ3, e4, h⟩ := bi_el h
    refine R_isto e4 (ty_11_15 k0) (dd dt_11_holdThing 13 rfl) ?_
    refine R_iconst (v := 1) (dd dt_11_holdThing 14 rfl) ic_1 ?_
    obtain rfl := Option.some.inj h
    exact R_iret rfl (dd dt_11_holdThing 15 rfl) hQ
  · rw [if_pos hc] at h
    refine R_iconst (v := (-1)) (dd dt_11_holdThing 2 rfl) ic_m1 ?_
    obtain rfl := Option.some.inj h
    exact R_iret rfl (dd dt_11_holdThing 3 rfl) hQ
/-! LongStrike.isShelf(I)Z -/
def tab_11_isShelf : List (Nat × Instr × Nat) := [(0, .iload_n 0, 1), (1, .iconst 0, 1), (2, .iconst 3, 1), (3, .invokestatic 83, 3), (6, .ireturn, 1)]
set_option maxRecDepth 100000 in
theorem dt_11_isShelf : ∀ q ∈ tab_11_isShelf, decode m_11_isShelf.2.1 q.1 = .ok q.2 := by decide +kernel
def f_11_isShelf (a0 : Int32) (μ : mm) : Option (Int32) :=
  (f_11_isIn a0 0 3 μ).bind fun x2 =>
  (gb x2).bind fun _ =>
  some x2
set_option maxRecDepth 100000 in
set_option maxHeartbeats 4000000 in
theorem ok_11_isShelf {l : Launch} {E : ce} {d : Nat}  {a0 : Int32} {μ : mm} {r : Int32} {Q : Option Value → mm → Prop} (h : f_11_isShelf a0 μ = some r)  (hQ : Q (some (.int r)) μ) : Ct l E (d + 1) yX11_isShelf m_11_isShelf [.int a0] μ Q := by
  refine Ct_of (lv := [some (.int a0)]) (by decide) rfl (Nat.le_of_ble_eq_true rfl) rfl ?_
  unfold f_11_isShelf at h
  refine R_iload_n (dd dt_11_isShelf 0 rfl) 0 rfl rfl ?_
  refine R_iconst (v := 0) (dd dt_11_isShelf 1 rfl) ic_0 ?_
  refine R_iconst (v := 3) (dd dt_11_isShelf 2 rfl) ic_3 ?_
  obtain ⟨x2, e1, h⟩ := bi_el h
  refine c_11_83 (As := [.int a0, .int 0, .int 3]) (st1 := [.int x2]) rfl (fun Q1 hq => ok_11_isIn e1 hq) rfl rfl (Nat.le_of_ble_eq_true rfl) (dd dt_11_isShelf 3 rfl) rfl ?_
  obtain ⟨_, q3, h⟩ := bi_el h
  obtain rfl := Option.some.inj h
  exact R_zret rfl (bo_narrow (gb_el q3).1) (dd dt_11_isShelf 4 rfl) hQ
