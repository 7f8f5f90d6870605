/-! LongStrike$Valley.reckonShares()I -/
def tab_9_reckonShares : List (Nat × Instr × Nat) := [(0, .iconst 0, 1), (1, .istore_n 1, 1), (2, .iload_n 1, 1), (3, .aload_n 0, 1), (4, .getfield 24, 3), (7, .if_icmp .ge 71, 3), (10, .aload_n 0, 1), (11, .getfield 53, 3), (14, .iload_n 1, 1), (15, .aaload, 1), (16, .astore_n 2, 1), (17, .aload_n 0, 1), (18, .getfield 95, 3), (21, .iload_n 1, 1), (22, .aload_n 2, 1), (23, .getfield 167, 3), (26, .ifCond .eq 7, 3), (29, .iconst 0, 1), (30, .goto 15, 3), (33, .aload_n 0, 1), (34, .getfield 59, 3), (37, .iconst 0, 1), (38, .aaload, 1), (39, .iconst 0, 1), (40, .aload_n 2, 1), (41, .iconst 0, 1), (42, .invokevirtual 146, 3), (45, .iastore, 1), (46, .aload_n 0, 1), (47, .getfield 98, 3), (50, .iload_n 1, 1), (51, .aload_n 0, 1), (52, .getfield 59, 3), (55, .iconst 0, 1), (56, .aaload, 1), (57, .iconst 1, 1), (58, .aload_n 2, 1), (59, .bipush 9, 2), (61, .invokevirtual 146, 3), (64, .iastore, 1), (65, .aload_n 0, 1), (66, .getfield 91, 3), (69, .iload_n 1, 1), (70, .iconst 0, 1), (71, .iastore, 1), (72, .iinc 1 1, 3), (75, .goto (-73), 3), (78, .aload_n 0, 1), (79, .getfield 27, 3), (82, .istore_n 1, 1), (83, .iconst 0, 1), (84, .istore_n 2, 1), (85, .iload_n 2, 1), (86, .bipush 9, 2), (88, .if_icmp .gt 18, 3), (91, .iload_n 1, 1), (92, .aload_n 0, 1), (93, .iload_n 2, 1), (94, .iload_n 1, 1), (95, .invokevirtual 205, 3), (98, .isub, 1), (99, .istore_n 1, 1), (100, .iinc 2 1, 3), (103, .goto (-18), 3), (106, .aload_n 0, 1), (107, .getfield 27, 3), (110, .iload_n 1, 1), (111, .isub, 1), (112, .ireturn, 1)]
set_option maxRecDepth 100000 in
theorem dt_9_reckonShares : ∀ q ∈ tab_9_reckonShares, decode m_9_reckonShares.2.1 q.1 = .ok q.2 := by decide +kernel
def f_9_reckonShares_l2 (a0 : Nat) : Nat → Int32 → mm → Option (mm)
  | 0, _, _ => none
  | n + 1, v1, μ => if (μ a0 4) ≤ v1 then
      some μ
    else
      (lda (rf a0 10) v1).bind fun r1 =>
      (if (μ r1 10) = 0 then
          (lda (rf a0 11) 0).bind fun r3 =>
          (f_5_numberFor r3 0 r1 0 μ).bind fun x6 =>
          some x6
        else
          some 0).bind fun (z7 : Int32) =>
      (sto μ (rf a0 17) v1 z7).bind fun μ8 =>
      (lda (rf a0 11) 0).bind fun r10 =>
      (f_5_numberFor r10 1 r1 9 μ8).bind fun x13 =>
      (sto μ8 (rf a0 18) v1 x13).bind fun μ14 =>
      (sto μ14 (rf a0 16) v1 0).bind fun μ16 =>
      f_9_reckonShares_l2 a0 n (v1 + 1) μ16
set_option maxRecDepth 100000 in
theorem ok_9_reckonShares_l2 {l : Launch} {E : ce} {d : Nat} {Q : Option Value → mm → Prop} (a0 : Nat) (k0 : kd a0 = 9) : ∀ (n : Nat) (v1 : Int32) (μ : mm) (z : mm), f_9_reckonShares_l2 a0 n v1 μ = some z → Rj l E (d + 4) m_9_reckonShares 78 [some (.ref a0), none, none] [] z Q → Rj l E (d + 4) m_9_reckonShares 2 [some (.ref a0), some (.int v1), none] [] μ Q
  | 0, _, _, z, h, _ => by
    rw [f_9_reckonShares_l2] at h
    cases h
  | n + 1, v1, μ, z, h, KX => by
    rw [f_9_reckonShares_l2] at h
    refine R_iload_n (dd dt_9_reckonShares 2 rfl) 1 rfl rfl ?_
    refine R_aload_n (dd dt_9_reckonShares 3 rfl) 0 rfl rfl ?_
    refine g_9_24 rfl k0 (dd dt_9_reckonShares 4 rfl) ?_
    refine R_cmpge (dd dt_9_reckonShares 5 rfl) (tgt := 78) rfl (fun hc => ?_) (fun hc => ?_)
    · rw [if_pos hc] at h
      obtain rfl := Option.some.inj h
      exact R_mask [true, false, false] rfl KX
    · rw [if_neg hc] at h
      refine R_aload_n (dd dt_9_reckonShares 6 rfl) 0 rfl rfl ?_
      refine g_9_53 rfl k0 (dd dt_9_reckonShares 7 rfl) ?_
      refine R_iload_n (dd dt_9_reckonShares 8 rfl) 1 rfl rfl ?_
      obtain ⟨r1, e2, h⟩ := bi_el h
      refine R_aald (t0 := 6) e2 (ty_9_10 k0) (by decide) (by decide) rfl rfl (dd dt_9_reckonShares 9 rfl) ?_
      refine R_astore_n (lv' := [some (.ref a0), some (.int v1), some (.ref r1)]) (dd dt_9_reckonShares 10 rfl) 2 rfl (by decide) rfl rfl ?_
      refine R_aload_n (dd dt_9_reckonShares 11 rfl) 0 rfl rfl ?_
      refine g_9_95 rfl k0 (dd dt_9_reckonShares 12 rfl) ?_
      refine R_iload_n (dd dt_9_reckonShares 13 rfl) 1 rfl rfl ?_
      refine R_aload_n (dd dt_9_reckonShares 14 rfl) 2 rfl rfl ?_
      refine g_9_167 rfl (tl_26 e2 (ty_9_10 k0)) (dd dt_9_reckonShares 15 rfl) ?_
      obtain ⟨z7, hz7, h⟩ := bi_el h
      have K7 : Rj l E (d + 4) m_9_reckonShares 45 [some (.ref a0), some (.int v1), some (.ref r1)] [.int z7, .int v1, .ref (rf a0 17)] μ Q := by
        clear hz7
        obtain ⟨μ8, e9, h⟩ := bi_el h
        refine R_isto e9 (ty_9_17 k0) (dd dt_9_reckonShares 27 rfl) ?_
        refine R_aload_n (dd dt_9_reckonShares 28 rfl) 0 rfl rfl ?_
        refine g_9_98 rfl k0 (dd dt_9_reckonShares 29 rfl) ?_
        refine R_iload_n (dd dt_9_reckonShares 30 rfl) 1 rfl rfl ?_
        refine R_aload_n (dd dt_9_reckonShares 31 rfl) 0 rfl rfl ?_
        refine g_9_59 rfl k0 (dd dt_9_reckonShares 32 rfl) ?_
        refine R_iconst (v := 0) (dd dt_9_reckonShares 33 rfl) ic_0 ?_
        obtain ⟨r10, e11, h⟩ := bi_el h
        refine R_aald (t0 := 7) e11 (ty_9_11 k0) (by decide) (by decide) rfl rfl (dd dt_9_reckonShares 34 rfl) ?_
        refine R_iconst (v := 1) (dd dt_9_reckonShares 35 rfl) ic_1 ?_
        refine R_aload_n (dd dt_9_reckonShares 36 rfl) 2 rfl rfl ?_
        refine R_bipush (v := 9) (dd dt_9_reckonShares 37 rfl) bp_9 ?_
        obtain ⟨x13, e12, h⟩ := bi_el h
        refine c_9_146 (As := [.int 1, .ref r1, .int 9]) (st1 := [.int x13, .int v1, .ref (rf a0 18)]) rfl (fun Q1 hq => ok_5_numberFor e12 (tl_27 e11 (ty_9_11 k0)) (tl_26 e2 (ty_9_10 k0)) hq) (tl_27 e11 (ty_9_11 k0)) rfl rfl (Nat.le_of_ble_eq_true rfl) (dd dt_9_reckonShares 38 rfl) rfl ?_
        obtain ⟨μ14, e15, h⟩ := bi_el h
        refine R_isto e15 (ty_9_18 k0) (dd dt_9_reckonShares 39 rfl) ?_
        refine R_aload_n (dd dt_9_reckonShares 40 rfl) 0 rfl rfl ?_
        refine g_9_91 rfl k0 (dd dt_9_reckonShares 41 rfl) ?_
        refine R_iload_n (dd dt_9_reckonShares 42 rfl) 1 rfl rfl ?_
        refine R_iconst (v := 0) (dd dt_9_reckonShares 43 rfl) ic_0 ?_
        obtain ⟨μ16, e17, h⟩ := bi_el h
        refine R_isto e17 (ty_9_16 k0) (dd dt_9_reckonShares 44 rfl) ?_
        refine R_iinc (v := 1) (lv' := [some (.ref a0), some (.int (v1 + 1)), some (.ref r1)]) (dd dt_9_reckonShares 45 rfl) (by decide) rfl rfl ic_1 rfl ?_
        refine R_goto (dd dt_9_reckonShares 46 rfl) (tgt := 2) rfl ?_
        exact R_mask [true, true, false] rfl (ok_9_reckonShares_l2 a0 k0 n (v1 + 1) μ16 _ h KX)
      clear h
      have h := hz7
      clear hz7
      refine R_ifeq (dd dt_9_reckonShares 16 rfl) (tgt := 33) rfl (fun hc => ?_) (fun hc => ?_)
      · rw [if_pos hc] at h
        refine R_aload_n (dd dt_9_reckonShares 19 rfl) 0 rfl rfl ?_
        refine g_9_59 rfl k0 (dd dt_9_reckonShares 20 rfl) ?_
        refine R_iconst (v := 0) (dd dt_9_reckonShares 21 rfl) ic_0 ?_
        obtain ⟨r3, e4, h⟩ := bi_el h
        refine R_aald (t0 := 7) e4 (ty_9_11 k0) (by decide) (by decide) rfl rfl (dd dt_9_reckonShares 22 rfl) ?_
        refine R_iconst (v := 0) (dd dt_9_reckonShares 23 rfl) ic_0 ?_
        refine R_aload_n (dd dt_9_reckonShares 24 rfl) 2 rfl rfl ?_
        refine R_iconst (v := 0) (dd dt_9_reckonShares 25 rfl) ic_0 ?_
        obtain ⟨x6, e5, h⟩ := bi_el h
        refine c_9_146 (As := [.int 0, .ref r1, .int 0]) (st1 := [.int x6, .int v1, .ref (rf a0 17)]) rfl (fun Q1 hq => ok_5_numberFor e5 (tl_27 e4 (ty_9_11 k0)) (tl_26 e2 (ty_9_10 k0)) hq) (tl_27 e4 (ty_9_11 k0)) rfl rfl (Nat.le_of_ble_eq_true rfl) (dd dt_9_reckonShares 26 rfl) rfl ?_
        obtain rfl := Option.some.inj h
        exact R_mask [true, true, true] rfl K7
      · rw [if_neg hc] at h
        refine R_iconst (v := 0) (dd dt_9_reckonShares 17 rfl) ic_0 ?_
        refine R_goto (dd dt_9_reckonShares 18 rfl) (tgt := 45) rfl ?_
        obtain rfl := Option.some.inj h
        exact R_mask [true, true, true] rfl K7
def f_9_reckonShares_l85 (a0 : Nat) : Nat → Int32 → Int32 → mm → Option (Int32 × mm)
  | 0, _, _, _ => none
  | n + 1, v1, v2, μ => if 9 < v2 then
      some (v1, μ)
    else
      (f_9_drawByRank a0 v2 v1 μ).bind fun z2 =>
      f_9_reckonShares_l85 a0 n (v1 - z2.1) (v2 + 1) z2.2
set_option maxRecDepth 100000 in
theorem ok_9_reckonShares_l85 {l : Launch} {E : ce} {d : Nat} {Q : Option Value → mm → Prop} (a0 : Nat) (k0 : kd a0 = 9) : ∀ (n : Nat) (v1 : Int32) (v2 : Int32) (μ : mm) (z : Int32 × mm), f_9_reckonShares_l85 a0 n v1 v2 μ = some z → Rj l E (d + 4) m_9_reckonShares 106 [some (.ref a0), some (.int z.1), none] [] z.2 Q → Rj l E (d + 4) m_9_reckonShares 85 [some (.ref a0), some (.int v1), some (.int v2)] [] μ Q
  | 0, _, _, _, z, h, _ => by
    rw [f_9_reckonShares_l85] at h
    cases h
  | n + 1, v1, v2, μ, z, h, KX => by
    rw [f_9_reckonShares_l85] at h
    refine R_iload_n (dd dt_9_reckonShares 52 rfl) 2 rfl rfl ?_
    refine R_bipush (v := 9) (dd dt_9_reckonShares 53 rfl) bp_9 ?_
    refine R_cmpgt (dd dt_9_reckonShares 54 rfl) (tgt := 106) rfl (fun hc => ?_) (fun hc => ?_)
    · rw [if_pos hc] at h
      obtain rfl := Option.some.inj h
      exact R_mask [true, true, false] rfl KX
    · rw [if_neg hc] at h
      refine R_iload_n (dd dt_9_reckonShares 55 rfl) 1 rfl rfl ?_
      refine R_aload_n (dd dt_9_reckonShares 56 rfl) 0 rfl rfl ?_
      refine R_iload_n (dd dt_9_reckonShares 57 rfl) 2 rfl rfl ?_
      refine R_iload_n (dd dt_9_reckonShares 58 rfl) 1 rfl rfl ?_
      obtain ⟨z2, e1, h⟩ := bi_el h
      refine c_9_205 (As := [.int v2, .int v1]) (st1 := [.int z2.1, .int v1]) rfl (fun Q1 hq => ok_9_drawByRank e1 k0 hq) k0 rfl rfl (Nat.le_of_ble_eq_true rfl) (dd dt_9_reckonShares 59 rfl) rfl ?_
      refine R_isub (dd dt_9_reckonShares 60 rfl) ?_
      refine R_istore_n (lv' := [some (.ref a0), some (.int (v1 - z2.1)), some (.int v2)]) (dd dt_9_reckonShares 61 rfl) 1 rfl (by decide) rfl rfl ?_
      refine R_iinc (v := 1) (lv' := [some (.ref a0), some (.int (v1 - z2.1)), some (.int (v2 + 1))]) (dd dt_9_reckonShares 62 rfl) (by decide) rfl rfl ic_1 rfl ?_
      refine R_goto (dd dt_9_reckonShares 63 rfl) (tgt := 85) rfl ?_
      exact R_mask [true, true, true] rfl (ok_9_reckonShares_l85 a0 k0 n (v1 - z2.1) (v2 + 1) z2.2 _ h KX)
def f_9_reckonShares (a0 : Nat) (μ : mm) : Option (Int32 × mm) :=
  (f_9_reckonShares_l2 a0 FU 0 μ).bind fun z1 =>
  (f_9_reckonShares_l85 a0 FU (z1 a0 5) 0 z1).bind fun z3 =>
  some (((z3.2 a0 5) - z3.1), z3.2)
set_option maxRecDepth 100000 in
set_option maxHeartbeats 4000000 in
theorem ok_9_reckonShares {l : Launch} {E : ce} {d : Nat}  {a0 : Nat} {μ : mm} {r : Int32 × mm} {Q : Option Value → mm → Prop} (h : f_9_reckonShares a0 μ = some r) (k0 : kd a0 = 9) (hQ : Q (some (.int r.1)) r.2) : Ct l E (d + 4) yX9_reckonShares m_9_reckonShares [.ref a0] μ Q := by
  refine Ct_of (lv := [some (.ref a0), none, none]) (by decide) rfl (Nat.le_of_ble_eq_true rfl) rfl ?_
  unfold f_9_reckonShares at h
  refine R_iconst (v := 0) (dd dt_9_reckonShares 0 rfl) ic_0 ?_
  refine R_istore_n (lv' := [some (.ref a0), some (.int 0), none]) (dd dt_9_reckonShares 1 rfl) 1 rfl (by decide) rfl rfl ?_
  obtain ⟨z1, e2, h⟩ := bi_el h
  refine R_mask [true, true, false] rfl (ok_9_reckonShares_l2 a0 k0 FU 0 μ _ e2 ?_)
  refine R_aload_n (dd dt_9_reckonShares 47 rfl) 0 rfl rfl ?_
  refine g_9_27 rfl k0 (dd dt_9_reckonShares 48 rfl) ?_
  refine R_istore_n (lv' := [some (.ref a0), some (.int (z1 a0 5)), none]) (dd dt_9_reckonShares 49 rfl) 1 rfl (by decide) rfl rfl ?_
  refine R_iconst (v := 0) (dd dt_9_reckonShares 50 rfl) ic_0 ?_
  refine R_istore_n (lv' := [some (.ref a0), some (.int (z1 a0 5)), some (.int 0)]) (dd dt_9_reckonShares 51 rfl) 2 rfl (by decide) rfl rfl ?_
  obtain ⟨z3, e4, h⟩ := bi_el h
  refine R_mask [true, true, true] rfl (ok_9_reckonShares_l85 a0 k0 FU (z1 a0 5) 0 z1 _ e4 ?_)
  refine R_aload_n (dd dt_9_reckonShares 64 rfl) 0 rfl rfl ?_
  refine g_9_27 rfl k0 (dd dt_9_reckonShares 65 rfl) ?_
  refine R_iload_n (dd dt_9_reckonShares 66 rfl) 1 rfl rfl ?_
  refine R_isub (dd dt_9_reckonShares 67 rfl) ?_
  obtain rfl := Option.some.inj h
  exact R_iret rfl (dd dt_9_reckonShares 68 rfl) hQ
/-! LongStrike$Valley.reliefOf(LLongStrike$Household;)I -/
def tab_9_reliefOf : List (Nat × Instr × Nat) := [(0, .aload_n 0, 1), (1, .getfield 59, 3), (4, .iconst 1, 1), (5, .aaload, 1), (6, .bipush 6, 2), (8, .aload_n 1, 1), (9, .iconst 0, 1), (10, .invokevirtual 146, 3), (13, .ireturn, 1)]
set_option maxRecDepth 100000 in
theorem dt_9_reliefOf : ∀ q ∈ tab_9_reliefOf, decode m_9_reliefOf.2.1 q.1 = .ok q.2 := by decide +kernel
def f_9_reliefOf (a0 : Nat) (a1 : Nat) (μ : mm) : Option (Int32) :=
  (lda (rf a0 11) 1).bind fun r1 =>
  (f_5_numberFor r1 6 a1 0 μ).bind fun x4 =>
  some x4
set_option maxRecDepth 100000 in
set_option maxHeartbeats 4000000 in
theorem ok_9_reliefOf {l : Launch} {E : ce} {d : Nat}  {a0 : Nat} {a1 : Nat} {μ : mm} {r : Int32} {Q : Option Value → mm → Prop} (h : f_9_reliefOf a0 a1 μ = some r) (k0 : kd a0 = 9) (k1 : kd a1 = 1) (hQ : Q (some (.int r)) μ) : Ct l E (d + 4) yX9_reliefOf m_9_reliefOf [.ref a0, .ref a1] μ Q := by
  refine Ct_of (lv := [some (.ref a0), some (.ref a1)]) (by decide) rfl (Nat.le_of_ble_eq_true rfl) rfl ?_
  unfold f_9_reliefOf at h
  refine R_aload_n (dd dt_9_reliefOf 0 rfl) 0 rfl rfl ?_
  refine g_9_59 rfl k0 (dd dt_9_reliefOf 1 rfl) ?_
  refine R_iconst (v := 1) (dd dt_9_reliefOf 2 rfl) ic_1 ?_
  obtain ⟨r1, e2, h⟩ := bi_el h
  refine R_aald (t0 := 7) e2 (ty_9_11 k0) (by decide) (by decide) rfl rfl (dd dt_9_reliefOf 3 rfl) ?_
  refine R_bipush (v := 6) (dd dt_9_reliefOf 4 rfl) bp_6 ?_
  refine R_aload_n (dd dt_9_reliefOf 5 rfl) 1 rfl rfl ?_
  refine R_iconst (v := 0) (dd dt_9_reliefOf 6 rfl) ic_0 ?_
  obtain ⟨x4, e3, h⟩ := bi_el h
  refine c_9_146 (As := [.int 6, .ref a1, .int 0]) (st1 := [.int x4]) rfl (fun Q1 hq => ok_5_numberFor e3 (tl_27 e2 (ty_9_11 k0)) k1 hq) (tl_27 e2 (ty_9_11 k0)) rfl rfl (Nat.le_of_ble_eq_true rfl) (dd dt_9_reliefOf 7 rfl) rfl ?_
  obtain rfl := Option.some.inj h
  exact R_iret rfl (dd dt_9_reliefOf 8 rfl) hQ
/-! LongStrike$Valley.shareIfDue()V -/
def tab_9_shareIfDue : List (Nat × Instr × Nat) := [(0, .aload_n 0, 1), (1, .getfield 9, 3), (4, .bipush 7, 2), (6, .irem, 1), (7, .ifCond .eq 4, 3), (10, .return_, 1), (11, .aload_n 0, 1), (12, .dup, 1), (13, .getfield 27, 3), (16, .aload_n 0, 1), (17, .invokevirtual 195, 3), (20, .isub, 1), (21, .putfield 27, 3), (24, .iconst 0, 1), (25, .istore_n 1, 1), (26, .iload_n 1, 1), (27, .aload_n 0, 1), (28, .getfield 24, 3), (31, .if_icmp .ge 50, 3), (34, .aload_n 0, 1), (35, .getfield 53, 3), (38, .iload_n 1, 1), (39, .aaload, 1), (40, .astore_n 2, 1), (41, .aload_n 2, 1), (42, .getfield 167, 3), (45, .ifCond .ne 30, 3), (48, .aload_n 2, 1), (49, .sipush 999, 3), (52, .aload_n 2, 1), (53, .getfield 198, 3), (56, .aload_n 0, 1), (57, .getfield 91, 3), (60, .iload_n 1, 1), (61, .iaload, 1), (62, .iadd, 1), (63, .aload_n 0, 1), (64, .aload_n 2, 1), (65, .invokevirtual 201, 3), (68, .iadd, 1), (69, .invokestatic 162, 3), (72, .putfield 198, 3), (75, .iinc 1 1, 3), (78, .goto (-52), 3), (81, .return_, 1)]
set_option maxRecDepth 100000 in
theorem dt_9_shareIfDue : ∀ q ∈ tab_9_shareIfDue, decode m_9_shareIfDue.2.1 q.1 = .ok q.2 := by decide +kernel
def f_9_shareIfDue_l26 (a0 : Nat) : Nat → Int32 → mm → Option (mm)
  | 0, _, _ => none
  | n + 1, v1, μ => if (μ a0 4) ≤ v1 then
      some μ
    else
      (lda (rf a0 10) v1).bind fun r1 =>
      if (μ r1 10) = 0 then
        (ld μ (rf a0 16) v1).bind fun x3 =>
        (f_9_reliefOf a0 r1 μ).bind fun x6 =>
        (pf μ r1 6 (mn 999 (((μ r1 6) + x3) + x6))).bind fun μ7 =>
        f_9_shareIfDue_l26 a0 n (v1 + 1) μ7
      else
        f_9_shareIfDue_l26 a0 n (v1 + 1) μ
set_option maxRecDepth 100000 in
theorem ok_9_shareIfDue_l26 {l : Launch} {E : ce} {d : Nat} {Q : Option Value → mm → Prop} (a0 : Nat) (k0 : kd a0 = 9) : ∀ (n : Nat) (v1 : Int32) (μ : mm) (z : mm), f_9_shareIfDue_l26 a0 n v1 μ = some z → Rj l E (d + 5) m_9_shareIfDue 81 [none, none, none] [] z Q → Rj l E (d + 5) m_9_shareIfDue 26 [some (.ref a0), some (.int v1), none] [] μ Q
  | 0, _, _, z, h, _ => by
    rw [f_9_shareIfDue_l26] at h
    cases h
  | n + 1, v1, μ, z, h, KX => by
    rw [f_9_shareIfDue_l26] at h
    refine R_iload_n (dd dt_9_shareIfDue 15 rfl) 1 rfl rfl ?_
    refine R_aload_n (dd dt_9_shareIfDue 16 rfl) 0 rfl rfl ?_
    refine g_9_24 rfl k0 (dd dt_9_shareIfDue 17 rfl) ?_
    refine R_cmpge (dd dt_9_shareIfDue 18 rfl) (tgt := 81) rfl (fun hc => ?_) (fun hc => ?_)
    · rw [if_pos hc] at h
      obtain rfl := Option.some.inj h
      exact R_mask [false, false, false] rfl KX
    · rw [if_neg hc] at h
      refine R_aload_n (dd dt_9_shareIfDue 19 rfl) 0 rfl rfl ?_
      refine g_9_53 rfl k0 (dd dt_9_shareIfDue 20 rfl) ?_
      refine R_iload_n (dd dt_9_shareIfDue 21 rfl) 1 rfl rfl ?_
      obtain ⟨r1, e2, h⟩ := bi_el h
      refine R_aald (t0 := 6) e2 (ty_9_10 k0) (by decide) (by decide) rfl rfl (dd dt_9_shareIfDue 22 rfl) ?_
      refine R_astore_n (lv' := [some (.ref a0), some (.int v1), some (.ref r1)]) (dd dt_9_shareIfDue 23 rfl) 2 rfl (by decide) rfl rfl ?_
      refine R_aload_n (dd dt_9_shareIfDue 24 rfl) 2 rfl rfl ?_
      refine g_9_167 rfl (tl_26 e2 (ty_9_10 k0)) (dd dt_9_shareIfDue 25 rfl) ?_
      refine R_ifne (dd dt_9_shareIfDue 26 rfl) (tgt := 75) rfl (fun hc => ?_) (fun hc => ?_)
      · rw [if_neg hc] at h
        refine R_iinc (v := 1) (lv' := [some (.ref a0), some (.int (v1 + 1)), some (.ref r1)]) (dd dt_9_shareIfDue 42 rfl) (by decide) rfl rfl ic_1 rfl ?_
        refine R_goto (dd dt_9_shareIfDue 43 rfl) (tgt := 26) rfl ?_
        exact R_mask [true, true, false] rfl (ok_9_shareIfDue_l26 a0 k0 n (v1 + 1) μ _ h KX)
      · rw [if_pos hc] at h
        refine R_aload_n (dd dt_9_shareIfDue 27 rfl) 2 rfl rfl ?_
        refine R_sipush (v := 999) (dd dt_9_shareIfDue 28 rfl) sp_999 ?_
        refine R_aload_n (dd dt_9_shareIfDue 29 rfl) 2 rfl rfl ?_
        refine g_9_198 rfl (tl_26 e2 (ty_9_10 k0)) (dd dt_9_shareIfDue 30 rfl) ?_
        refine R_aload_n (dd dt_9_shareIfDue 31 rfl) 0 rfl rfl ?_
        refine g_9_91 rfl k0 (dd dt_9_shareIfDue 32 rfl) ?_
        refine R_iload_n (dd dt_9_shareIfDue 33 rfl) 1 rfl rfl ?_
        obtain ⟨x3, e4, h⟩ := bi_el h
        refine R_ild e4 (ty_9_16 k0) (dd dt_9_shareIfDue 34 rfl) ?_
        refine R_iadd (dd dt_9_shareIfDue 35 rfl) ?_
        refine R_aload_n (dd dt_9_shareIfDue 36 rfl) 0 rfl rfl ?_
        refine R_aload_n (dd dt_9_shareIfDue 37 rfl) 2 rfl rfl ?_
        obtain ⟨x6, e5, h⟩ := bi_el h
        refine c_9_201 (As := [.ref r1]) (st1 := [.int x6, .int ((μ r1 6) + x3), .int 999, .ref r1]) rfl (fun Q1 hq => ok_9_reliefOf e5 k0 (tl_26 e2 (ty_9_10 k0)) hq) k0 rfl rfl (Nat.le_of_ble_eq_true rfl) (dd dt_9_shareIfDue 38 rfl) rfl ?_
        refine R_iadd (dd dt_9_shareIfDue 39 rfl) ?_
        refine R_mmin ml_9_162 (Nat.le_of_ble_eq_true rfl) (dd dt_9_shareIfDue 40 rfl) ?_
        obtain ⟨μ7, e8, h⟩ := bi_el h
        refine p_9_198 rfl (tl_26 e2 (ty_9_10 k0)) (dd dt_9_shareIfDue 41 rfl) e8 ?_
        refine R_iinc (v := 1) (lv' := [some (.ref a0), some (.int (v1 + 1)), some (.ref r1)]) (dd dt_9_shareIfDue 42 rfl) (by decide) rfl rfl ic_1 rfl ?_
        refine R_goto (dd dt_9_shareIfDue 43 rfl) (tgt := 26) rfl ?_
        exact R_mask [true, true, false] rfl (ok_9_shareIfDue_l26 a0 k0 n (v1 + 1) μ7 _ h KX)
def f_9_shareIfDue (a0 : Nat) (μ : mm) : Option (mm) :=
  if ((μ a0 0) - (μ a0 0) / 7 * 7) = 0 then
    (f_9_reckonShares a0 μ).bind fun z2 =>
    (pf z2.2 a0 5 ((μ a0 5) - z2.1)).bind fun μ3 =>
    (f_9_shareIfDue_l26 a0 FU 0 μ3).bind fun z5 =>
    some z5
  else
    some μ
set_option maxRecDepth 100000 in
set_option maxHeartbeats 4000000 in
theorem ok_9_shareIfDue {l : Launch} {E : ce} {d : Nat}  {a0 : Nat} {μ : mm} {r : mm} {Q : Option Value → mm → Prop} (h : f_9_shareIfDue a0 μ = some r) (k0 : kd a0 = 9) (hQ : Q none r) : Ct l E (d + 5) yX9_shareIfDue m_9_shareIfDue [.ref a0] μ Q := by
  refine Ct_of (lv := [some (.ref a0), none, none]) (by decide) rfl (Nat.le_of_ble_eq_true rfl) rfl ?_
  unfold f_9_shareIfDue at h
  refine R_aload_n (dd dt_9_shareIfDue 0 rfl) 0 rfl rfl ?_
  refine g_9_9 rfl k0 (dd dt_9_shareIfDue 1 rfl) ?_
  refine R_bipush (v := 7) (dd dt_9_shareIfDue 2 rfl) bp_7 ?_
  refine R_irem (dd dt_9_shareIfDue 3 rfl) (by decide) ?_
  refine R_ifeq (dd dt_9_shareIfDue 4 rfl) (tgt := 11) rfl (fun hc => ?_) (fun hc => ?_)
  · rw [if_pos hc] at h
    refine R_aload_n (dd dt_9_shareIfDue 6 rfl) 0 rfl rfl ?_
    refine R_dup (dd dt_9_shareIfDue 7 rfl) rfl ?_
    refine g_9_27 rfl k0 (dd dt_9_shareIfDue 8 rfl) ?_
    refine R_aload_n (dd dt_9_shareIfDue 9 rfl) 0 rfl rfl ?_
    obtain ⟨z2, e1, h⟩ := bi_el h
    refine c_9_195 (As := []) (st1 := [.int z2.1, .int (μ a0 5), .ref a0]) rfl (fun Q1 hq => ok_9_reckonShares e1 k0 hq) k0 rfl rfl (Nat.le_of_ble_eq_true rfl) (dd dt_9_shareIfDue 10 rfl) rfl ?_
    refine R_isub (dd dt_9_shareIfDue 11 rfl) ?_
    obtain ⟨μ3, e4, h⟩ := bi_el h
    refine p_9_27 rfl k0 (dd dt_9_shareIfDue 12 rfl) e4 ?_
    refine R_iconst (v := 0) (dd dt_9_shareIfDue 13 rfl) ic_0 ?_
    refine R_istore_n (lv' := [some (.ref a0), some (.int 0), none]) (dd dt_9_shareIfDue 14 rfl) 1 rfl (by decide) rfl rfl ?_
    obtain ⟨z5, e6, h⟩ := bi_el h
    refine R_mask [true, true, false] rfl (ok_9_shareIfDue_l26 a0 k0 FU 0 μ3 _ e6 ?_)
    obtain rfl := Option.some.inj h
    exact R_vret rfl (dd dt_9_shareIfDue 44 rfl) hQ
  · rw [if_neg hc] at h
    obtain rfl := Option.some.inj h
    exact R_vret rfl (dd dt_9_shareIfDue 5 rfl) hQ
/-! LongStrike$Works.stockAfter(IIZ)I -/
def tab_10_stockAfter : List (Nat × Instr × Nat) := [(0, .iconst 0, 1), (1, .iload_n 1, 1), (2, .aload_n 0, 1), (3, .getfield 15, 3), (6, .isub, 1), (7, .invokestatic 45, 3), (10, .istore 4, 2), (12, .iconst 0, 1), (13, .istore 5, 2), (15, .iload 5, 2), (17, .aload_n 0, 1), (18, .getfield 18, 3), (21, .if_icmp .ge 41, 3), (24, .iload_n 3, 1), (25, .ifCond .eq 37, 3), (28, .aload_n 0, 1), (29, .getfield 21, 3), (32, .iload 5, 2), (34, .iaload, 1), (35, .iload_n 2, 1), (36, .if_icmp .ne 20, 3), (39, .ldc 34, 2), (41, .iload 4, 2), (43, .aload_n 0, 1), (44, .getfield 25, 3), (47, .iload 5, 2), (49, .iaload, 1), (50, .iadd, 1), (51, .invokestatic 35, 3), (54, .istore 4, 2), (56, .iinc 5 1, 3), (59, .goto (-44), 3), (62, .iload 4, 2), (64, .ireturn, 1)]
set_option maxRecDepth 100000 in
theorem dt_10_stockAfter : ∀ q ∈ tab_10_stockAfter, decode m_10_stockAfter.2.1 q.1 = .ok q.2 := by decide +kernel
def f_10_stockAfter_l15 (a0 : Nat) (a2 : Int32) (a3 : Int32) (μ : mm) : Nat → Int32 → Int32 → Option (Int32)
  | 0, _, _ => none
  | n + 1, v4, v5 => if (μ a0 2) ≤ v5 then
      some v4
    else
      if a3 = 0 then
        some v4
      else
        (ld μ (rf a0 3) v5).bind fun x1 =>
        if x1 = a2 then
          (ld μ (rf a0 4) v5).bind fun x3 =>
          f_10_stockAfter_l15 a0 a2 a3 μ n (mn 99999 (v4 + x3)) (v5 + 1)
        else
          f_10_stockAfter_l15 a0 a2 a3 μ n v4 (v5 + 1)
set_option maxRecDepth 100000 in
theorem ok_10_stockAfter_l15 {l : Launch} {E : ce} {d : Nat} {Q : Option Value → mm → Prop} (a0 : Nat) (a2 : Int32) (a3 : Int32) (μ : mm) (k0 : kd a0 = 10) : ∀ (n : Nat) (v4 : Int32) (v5 : Int32) (z : Int32), f_10_stockAfter_l15 a0 a2 a3 μ n v4 v5 = some z → Rj l E d m_10_stockAfter 62 [none, none, none, none, some (.int z), none] [] μ Q → Rj l E d m_10_stockAfter 15 [some (.ref a0), none, some (.int a2), some (.int a3), some (.int v4), some (.int v5)] [] μ Q
  | 0, _, _, z, h, _ => by
    rw [f_10_stockAfter_l15] at h
    cases h
  | n + 1, v4, v5, z, h, KX => by
    rw [f_10_stockAfter_l15] at h
    refine R_iload (dd dt_10_stockAfter 9 rfl) rfl ?_
    refine R_aload_n (dd dt_10_stockAfter 10 rfl) 0 rfl rfl ?_
    refine g_10_18 rfl k0 (dd dt_10_stockAfter 11 rfl) ?_
    refine R_cmpge (dd dt_10_stockAfter 12 rfl) (tgt := 62) rfl (fun hc => ?_) (fun hc => ?_)
    · rw [if_pos hc] at h
      obtain rfl := Option.some.inj h
      exact R_mask [false, false, false, false, true, false] rfl KX
    · rw [if_neg hc] at h
      refine R_iload_n (dd dt_10_stockAfter 13 rfl) 3 rfl rfl ?_
      refine R_ifeq (dd dt_10_stockAfter 14 rfl) (tgt := 62) rfl (fun hc => ?_) (fun hc => ?_)
      · rw [if_pos hc] at h
        obtain rfl := Option.some.inj h
        exact R_mask [false, false, false, false, true, false] rfl KX
      · rw [if_neg hc] at h
        refine R_aload_n (dd dt_10_stockAfter 15 rfl) 0 rfl rfl ?_
        refine g_10_21 rfl k0 (dd dt_10_stockAfter 16 rfl) ?_
        refine R_iload (dd dt_10_stockAfter 17 rfl) rfl ?_
        obtain ⟨x1, e2, h⟩ := bi_el h
        refine R_ild e2 (ty_10_3 k0) (dd dt_10_stockAfter 18 rfl) ?_
        refine R_iload_n (dd dt_10_stockAfter 19 rfl) 2 rfl rfl ?_
        refine R_cmpne (dd dt_10_stockAfter 20 rfl) (tgt := 56) rfl (fun hc => ?_) (fun hc => ?_)
        · rw [if_neg hc] at h
          refine R_iinc (v := 1) (lv' := [some (.ref a0), none, some (.int a2), some (.int a3), some (.int v4), some (.int (v5 + 1))]) (dd dt_10_stockAfter 30 rfl) (by decide) rfl rfl ic_1 rfl ?_
          refine R_goto (dd dt_10_stockAfter 31 rfl) (tgt := 15) rfl ?_
          exact R_mask [true, false, true, true, true, true] rfl (ok_10_stockAfter_l15 a0 a2 a3 μ k0 n v4 (v5 + 1) _ h KX)
        · rw [if_pos hc] at h
          refine R_ldc (dd dt_10_stockAfter 21 rfl) ct_10_34 ?_
          refine R_iload (dd dt_10_stockAfter 22 rfl) rfl ?_
          refine R_aload_n (dd dt_10_stockAfter 23 rfl) 0 rfl rfl ?_
          refine g_10_25 rfl k0 (dd dt_10_stockAfter 24 rfl) ?_
          refine R_iload (dd dt_10_stockAfter 25 rfl) rfl ?_
          obtain ⟨x3, e4, h⟩ := bi_el h
          refine R_ild e4 (ty_10_4 k0) (dd dt_10_stockAfter 26 rfl) ?_
          refine R_iadd (dd dt_10_stockAfter 27 rfl) ?_
          refine R_mmin ml_10_35 (Nat.le_of_ble_eq_true rfl) (dd dt_10_stockAfter 28 rfl) ?_
          refine R_istore (lv' := [some (.ref a0), none, some (.int a2), some (.int a3), some (.int (mn 99999 (v4 + x3))), some (.int v5)]) (dd dt_10_stockAfter 29 rfl) (by decide) rfl rfl ?_
          refine R_iinc (v := 1) (lv' := [some (.ref a0), none, some (.int a2), some (.int a3), some (.int (mn 99999 (v4 + x3))), some (.int (v5 + 1))]) (dd dt_10_stockAfter 30 rfl) (by decide) rfl rfl ic_1 rfl ?_
          refine R_goto (dd dt_10_stockAfter 31 rfl) (tgt := 15) rfl ?_
          exact R_mask [true, false, true, true, true, true] rfl (ok_10_stockAfter_l15 a0 a2 a3 μ k0 n (mn 99999 (v4 + x3)) (v5 + 1) _ h KX)
def f_10_stockAfter (a0 : Nat) (a1 : Int32) (a2 : Int32) (a3 : Int32) (μ : mm) : Option (Int32) :=
  (f_10_stockAfter_l15 a0 a2 a3 μ FU (mx 0 (a1 - (μ a0 1))) 0).bind fun z1 =>
  some z1
set_option maxRecDepth 100000 in
set_option maxHeartbeats 4000000 in
theorem ok_10_stockAfter {l : Launch} {E : ce} {d : Nat}  {a0 : Nat} {a1 : Int32} {a2 : Int32} {a3 : Int32} {μ : mm} {r : Int32} {Q : Option Value → mm → Prop} (h : f_10_stockAfter a0 a1 a2 a3 μ = some r) (k0 : kd a0 = 10) (hQ : Q (some (.int r)) μ) : Ct l E d yX10_stockAfter m_10_stockAfter [.ref a0, .int a1, .int a2, .int a3] μ Q := by
  refine Ct_of (lv := [some (.ref a0), some (.int a1), some (.int a2), some (.int a3), none, none]) (by decide) rfl (Nat.le_of_ble_eq_true rfl) rfl ?_
  unfold f_10_stockAfter at h
  refine R_iconst (v := 0) (dd dt_10_stockAfter 0 rfl) ic_0 ?_
  refine R_iload_n (dd dt_10_stockAfter 1 rfl) 1 rfl rfl ?_
  refine R_aload_n (dd dt_10_stockAfter 2 rfl) 0 rfl rfl ?_
  refine g_10_15 rfl k0 (dd dt_10_stockAfter 3 rfl) ?_
  refine R_isub (dd dt_10_stockAfter 4 rfl) ?_
  refine R_mmax ml_10_45 (Nat.le_of_ble_eq_true rfl) (dd dt_10_stockAfter 5 rfl) ?_
  refine R_istore (lv' := [some (.ref a0), some (.int a1), some (.int a2), some (.int a3), some (.int (mx 0 (a1 - (μ a0 1)))), none]) (dd dt_10_stockAfter 6 rfl) (by decide) rfl rfl ?_
  refine R_iconst (v := 0) (dd dt_10_stockAfter 7 rfl) ic_0 ?_
  refine R_istore (lv' := [some (.ref a0), some (.int a1), some (.int a2), some (.int a3), some (.int (mx 0 (a1 - (μ a0 1)))), some (.int 0)]) (dd dt_10_stockAfter 8 rfl) (by decide) rfl rfl ?_
  obtain ⟨z1, e2, h⟩ := bi_el h
  refine R_mask [true, false, true, true, true, true] rfl (ok_10_stockAfter_l15 a0 a2 a3 μ k0 FU (mx 0 (a1 - (μ a0 1))) 0 _ e2 ?_)
  refine R_iload (dd dt_10_stockAfter 32 rfl) rfl ?_
  obtain rfl := Option.some.inj h
  exact R_iret rfl (dd dt_10_stockAfter 33 rfl) hQ
/-! LongStrike$Works.goOn(I)V -/
def tab_10_goOn : List (Nat × Instr × Nat) := [(0, .aload_n 0, 1), (1, .aload_n 0, 1), (2, .aload_n 0, 1), (3, .getfield 9, 3), (6, .iload_n 1, 1), (7, .iconst 1, 1), (8, .invokevirtual 41, 3), (11, .putfield 9, 3), (14, .iconst 0, 1), (15, .istore_n 2, 1), (16, .iconst 0, 1), (17, .istore_n 3, 1), (18, .iload_n 3, 1), (19, .aload_n 0, 1), (20, .getfield 18, 3), (23, .if_icmp .ge 46, 3), (26, .aload_n 0, 1), (27, .getfield 21, 3), (30, .iload_n 3, 1), (31, .iaload, 1), (32, .iload_n 1, 1), (33, .if_icmp .eq 30, 3), (36, .aload_n 0, 1), (37, .getfield 21, 3), (40, .iload_n 2, 1), (41, .aload_n 0, 1), (42, .getfield 21, 3), (45, .iload_n 3, 1), (46, .iaload, 1), (47, .iastore, 1), (48, .aload_n 0, 1), (49, .getfield 25, 3), (52, .iload_n 2, 1), (53, .aload_n 0, 1), (54, .getfield 25, 3), (57, .iload_n 3, 1), (58, .iaload, 1), (59, .iastore, 1), (60, .iinc 2 1, 3), (63, .iinc 3 1, 3), (66, .goto (-48), 3), (69, .aload_n 0, 1), (70, .iload_n 2, 1), (71, .putfield 18, 3), (74, .return_, 1)]
set_option maxRecDepth 100000 in
theorem dt_10_goOn : ∀ q ∈ tab_10_goOn, decode m_10_goOn.2.1 q.1 = .ok q.2 := by decide +kernel
def f_10_goOn_l18 (a0 : Nat) (a1 : Int32) : Nat → Int32 → Int32 → mm → Option (Int32 × mm)
  | 0, _, _, _ => none
  | n + 1, v2, v3, μ => if (μ a0 2) ≤ v3 then
      some (v2, μ)
    else
      (ld μ (rf a0 3) v3).bind fun x1 =>
      if x1 = a1 then
        f_10_goOn_l18 a0 a1 n v2 (v3 + 1) μ
      else
        (ld μ (rf a0 3) v3).bind fun x3 =>
        (sto μ (rf a0 3) v2 x3).bind fun μ5 =>
        (ld μ5 (rf a0 4) v3).bind fun x7 =>
        (sto μ5 (rf a0 4) v2 x7).bind fun μ9 =>
        f_10_goOn_l18 a0 a1 n (v2 + 1) (v3 + 1) μ9
set_option maxRecDepth 100000 in
theorem ok_10_goOn_l18 {l : Launch} {E : ce} {d : Nat} {Q : Option Value → mm → Prop} (a0 : Nat) (a1 : Int32) (k0 : kd a0 = 10) : ∀ (n : Nat) (v2 : Int32) (v3 : Int32) (μ : mm) (z : Int32 × mm), f_10_goOn_l18 a0 a1 n v2 v3 μ = some z → Rj l E (d + 1) m_10_goOn 69 [some (.ref a0), none, some (.int z.1), none] [] z.2 Q → Rj l E (d + 1) m_10_goOn 18 [some (.ref a0), some (.int a1), some (.int v2), some (.int v3)] [] μ Q
  | 0, _, _, _, z, h, _ => by
    rw [f_10_goOn_l18] at h
    cases h
  | n + 1, v2, v3, μ, z, h, KX => by
    rw [f_10_goOn_l18] at h
    refine R_iload_n (dd dt_10_goOn 12 rfl) 3 rfl rfl ?_
    refine R_aload_n (dd dt_10_goOn 13 rfl) 0 rfl rfl ?_
    refine g_10_18 rfl k0 (dd dt_10_goOn 14 rfl) ?_
    refine R_cmpge (dd dt_10_goOn 15 rfl) (tgt := 69) rfl (fun hc => ?_) (fun hc => ?_)
    · rw [if_pos hc] at h
      obtain rfl := Option.some.inj h
      exact R_mask [true, false, true, false] rfl KX
    · rw [if_neg hc] at h
      refine R_aload_n (dd dt_10_goOn 16 rfl) 0 rfl rfl ?_
      refine g_10_21 rfl k0 (dd dt_10_goOn 17 rfl) ?_
      refine R_iload_n (dd dt_10_goOn 18 rfl) 3 rfl rfl ?_
      obtain ⟨x1, e2, h⟩ := bi_el h
      refine R_ild e2 (ty_10_3 k0) (dd dt_10_goOn 19 rfl) ?_
      refine R_iload_n (dd dt_10_goOn 20 rfl) 1 rfl rfl ?_
      refine R_cmpeq (dd dt_10_goOn 21 rfl) (tgt := 63) rfl (fun hc => ?_) (fun hc => ?_)
      · rw [if_pos hc] at h
        refine R_iinc (v := 1) (lv' := [some (.ref a0), some (.int a1), some (.int v2), some (.int (v3 + 1))]) (dd dt_10_goOn 39 rfl) (by decide) rfl rfl ic_1 rfl ?_
        refine R_goto (dd dt_10_goOn 40 rfl) (tgt := 18) rfl ?_
        exact R_mask [true, true, true, true] rfl (ok_10_goOn_l18 a0 a1 k0 n v2 (v3 + 1) μ _ h KX)
      · rw [if_neg hc] at h
        refine R_aload_n (dd dt_10_goOn 22 rfl) 0 rfl rfl ?_
        refine g_10_21 rfl k0 (dd dt_10_goOn 23 rfl) ?_
        refine R_iload_n (dd dt_10_goOn 24 rfl) 2 rfl rfl ?_
        refine R_aload_n (dd dt_10_goOn 25 rfl) 0 rfl rfl ?_
        refine g_10_21 rfl k0 (dd dt_10_goOn 26 rfl) ?_
        refine R_iload_n (dd dt_10_goOn 27 rfl) 3 rfl rfl ?_
        obtain ⟨x3, e4, h⟩ := bi_el h
        refine R_ild e4 (ty_10_3 k0) (dd dt_10_goOn 28 rfl) ?_
        obtain ⟨μ5, e6, h⟩ := bi_el h
        refine R_isto e6 (ty_10_3 k0) (dd dt_10_goOn 29 rfl) ?_
        refine R_aload_n (dd dt_10_goOn 30 rfl) 0 rfl rfl ?_
        refine g_10_25 rfl k0 (dd dt_10_goOn 31 rfl) ?_
        refine R_iload_n (dd dt_10_goOn 32 rfl) 2 rfl rfl ?_
        refine R_aload_n (dd dt_10_goOn 33 rfl) 0 rfl rfl ?_
        refine g_10_25 rfl k0 (dd dt_10_goOn 34 rfl) ?_
        refine R_iload_n (dd dt_10_goOn 35 rfl) 3 rfl rfl ?_
        obtain ⟨x7, e8, h⟩ := bi_el h
        refine R_ild e8 (ty_10_4 k0) (dd dt_10_goOn 36 rfl) ?_
        obtain ⟨μ9, e10, h⟩ := bi_el h
        refine R_isto e10 (ty_10_4 k0) (dd dt_10_goOn 37 rfl) ?_
        refine R_iinc (v := 1) (lv' := [some (.ref a0), some (.int a1), some (.int (v2 + 1)), some (.int v3)]) (dd dt_10_goOn 38 rfl) (by decide) rfl rfl ic_1 rfl ?_
        refine R_iinc (v := 1) (lv' := [some (.ref a0), some (.int a1), some (.int (v2 + 1)), some (.int (v3 + 1))]) (dd dt_10_goOn 39 rfl) (by decide) rfl rfl ic_1 rfl ?_
        refine R_goto (dd dt_10_goOn 40 rfl) (tgt := 18) rfl ?_
        exact R_mask [true, true, true, true] rfl (ok_10_goOn_l18 a0 a1 k0 n (v2 + 1) (v3 + 1) μ9 _ h KX)
def f_10_goOn (a0 : Nat) (a1 : Int32) (μ : mm) : Option (mm) :=
  (f_10_stockAfter a0 (μ a0 0) a1 1 μ).bind fun x2 =>
  (pf μ a0 0 x2).bind fun μ3 =>
  (f_10_goOn_l18 a0 a1 FU 0 0 μ3).bind fun z5 =>
  (pf z5.2 a0 2 z5.1).bind fun μ7 =>
  some μ7
set_option maxRecDepth 100000 in
set_option maxHeartbeats 4000000 in
theorem ok_10_goOn {l : Launch} {E : ce} {d : Nat}  {a0 : Nat} {a1 : Int32} {μ : mm} {r : mm} {Q : Option Value → mm → Prop} (h : f_10_goOn a0 a1 μ = some r) (k0 : kd a0 = 10) (hQ : Q none r) : Ct l E (d + 1) yX10_goOn m_10_goOn [.ref a0, .int a1] μ Q := by
  refine Ct_of (lv := [some (.ref a0), some (.int a1), none, none]) (by decide) rfl (Nat.le_of_ble_eq_true rfl) rfl ?_
  unfold f_10_goOn at h
  refine R_aload_n (dd dt_10_goOn 0 rfl) 0 rfl rfl ?_
  refine R_aload_n (dd dt_10_goOn 1 rfl) 0 rfl rfl ?_
  refine R_aload_n (dd dt_10_goOn 2 rfl) 0 rfl rfl ?_
  refine g_10_9 rfl k0 (dd dt_10_goOn 3 rfl) ?_
  refine R_iload_n (dd dt_10_goOn 4 rfl) 1 rfl rfl ?_
  refine R_iconst (v := 1) (dd dt_10_goOn 5 rfl) ic_1 ?_
  obtain ⟨x2, e1, h⟩ := bi_el h
  refine c_10_41 (As := [.int (μ a0 0), .int a1, .int 1]) (st1 := [.int x2, .ref a0]) rfl (fun Q1 hq => ok_10_stockAfter e1 k0 hq) k0 rfl rfl (Nat.le_of_ble_eq_true rfl) (dd dt_10_goOn 6 rfl) rfl ?_
  obtain ⟨μ3, e4, h⟩ := bi_el h
  refine p_10_9 rfl k0 (dd dt_10_goOn 7 rfl) e4 ?_
  refine R_iconst (v := 0) (dd dt_10_goOn 8 rfl) ic_0 ?_
  refine R_istore_n (lv' := [some (.ref a0), some (.int a1), some (.int 0), none]) (dd dt_10_goOn 9 rfl) 2 rfl (by decide) rfl rfl ?_
  refine R_iconst (v := 0) (dd dt_10_goOn 10 rfl) ic_0 ?_
  refine R_istore_n (lv' := [some (.ref a0), some (.int a1), some (.int 0), some (.int 0)]) (dd dt_10_goOn 11 rfl) 3 rfl (by decide) rfl rfl ?_
  obtain ⟨z5, e6, h⟩ := bi_el h
  refine R_mask [true, true, true, true] rfl (ok_10_goOn_l18 a0 a1 k0 FU 0 0 μ3 _ e6 ?_)
  refine R_aload_n (dd dt_10_goOn 41 rfl) 0 rfl rfl ?_
  refine R_iload_n (dd dt_10_goOn 42 rfl) 2 rfl rfl ?_
  obtain ⟨μ7, e8, h⟩ := bi_el h
  refine p_10_18 rfl k0 (dd dt_10_goOn 43 rfl) e8 ?_
  obtain rfl := Option.some.inj h
  exact R_vret rfl (dd dt_10_goOn 44 rfl) hQ
/-! LongStrike$Valley.goOn()V -/
def tab_9_goOn : List (Nat × Instr × Nat) := [(0, .aload_n 0, 1), (1, .dup, 1), (2, .getfield 9, 3), (5, .iconst 1, 1), (6, .iadd, 1), (7, .putfield 9, 3), (10, .aload_n 0, 1), (11, .invokevirtual 170, 3), (14, .istore_n 1, 1), (15, .iconst 0, 1), (16, .istore_n 2, 1), (17, .iload_n 2, 1), (18, .aload_n 0, 1), (19, .getfield 18, 3), (22, .if_icmp .ge 23, 3), (25, .aload_n 0, 1), (26, .getfield 41, 3), (29, .iload_n 2, 1), (30, .aaload, 1), (31, .iload_n 1, 1), (32, .aload_n 0, 1), (33, .getfield 9, 3), (36, .invokevirtual 174, 3), (39, .iinc 2 1, 3), (42, .goto (-25), 3), (45, .aload_n 0, 1), (46, .invokevirtual 177, 3), (49, .iconst 0, 1), (50, .istore_n 2, 1), (51, .iload_n 2, 1), (52, .aload_n 0, 1), (53, .getfield 24, 3), (56, .if_icmp .ge 40, 3), (59, .aload_n 0, 1), (60, .aload_n 0, 1), (61, .getfield 53, 3), (64, .iload_n 2, 1), (65, .aaload, 1), (66, .aload_n 0, 1), (67, .getfield 73, 3), (70, .aload_n 0, 1), (71, .getfield 53, 3), (74, .iload_n 2, 1), (75, .aaload, 1), (76, .aload_n 0, 1), (77, .getfield 9, 3), (80, .aload_n 0, 1), (81, .getfield 36, 3), (84, .invokevirtual 180, 3), (87, .invokevirtual 184, 3), (90, .iinc 2 1, 3), (93, .goto (-42), 3), (96, .aload_n 0, 1), (97, .getfield 66, 3), (100, .aload_n 0, 1), (101, .getfield 9, 3), (104, .invokevirtual 188, 3), (107, .return_, 1)]
set_option maxRecDepth 100000 in
theorem dt_9_goOn : ∀ q ∈ tab_9_goOn, decode m_9_goOn.2.1 q.1 = .ok q.2 := by decide +kernel
def f_9_goOn_l17 (a0 : Nat) (a1 : Int32) : Nat → Int32 → mm → Option (mm)
  | 0, _, _ => none
  | n + 1, v2, μ => if (μ a0 2) ≤ v2 then
      some μ
    else
      (lda (rf a0 8) v2).bind fun r1 =>
      (f_4_fill r1 a1 (μ a0 0) μ).bind fun μ4 =>
      f_9_goOn_l17 a0 a1 n (v2 + 1) μ4
set_option maxRecDepth 100000 in
theorem ok_9_goOn_l17 {l : Launch} {E : ce} {d : Nat} {Q : Option Value → mm → Prop} (a0 : Nat) (a1 : Int32) (k0 : kd a0 = 9) : ∀ (n : Nat) (v2 : Int32) (μ : mm) (z : mm), f_9_goOn_l17 a0 a1 n v2 μ = some z → Rj l E (d + 6) m_9_goOn 45 [some (.ref a0), none, none] [] z Q → Rj l E (d + 6) m_9_goOn 17 [some (.ref a0), some (.int a1), some (.int v2)] [] μ Q
  | 0, _, _, z, h, _ => by
    rw [f_9_goOn_l17] at h
    cases h
  | n + 1, v2, μ, z, h, KX => by
    rw [f_9_goOn_l17] at h
    refine R_iload_n (dd dt_9_goOn 11 rfl) 2 rfl rfl ?_
    refine R_aload_n (dd dt_9_goOn 12 rfl) 0 rfl rfl ?_
    refine g_9_18 rfl k0 (dd dt_9_goOn 13 rfl) ?_
    refine R_cmpge (dd dt_9_goOn 14 rfl) (tgt := 45) rfl (fun hc => ?_) (fun hc => ?_)
    · rw [if_pos hc] at h
      obtain rfl := Option.some.inj h
      exact R_mask [true, false, false] rfl KX
    · rw [if_neg hc] at h
      refine R_aload_n (dd dt_9_goOn 15 rfl) 0 rfl rfl ?_
      refine g_9_41 rfl k0 (dd dt_9_goOn 16 rfl) ?_
      refine R_iload_n (dd dt_9_goOn 17 rfl) 2 rfl rfl ?_
      obtain ⟨r1, e2, h⟩ := bi_el h
      refine R_aald (t0 := 4) e2 (ty_9_8 k0) (by decide) (by decide) rfl rfl (dd dt_9_goOn 18 rfl) ?_
      refine R_iload_n (dd dt_9_goOn 19 rfl) 1 rfl rfl ?_
      refine R_aload_n (dd dt_9_goOn 20 rfl) 0 rfl rfl ?_
      refine g_9_9 rfl k0 (dd dt_9_goOn 21 rfl) ?_
      obtain ⟨μ4, e3, h⟩ := bi_el h
      refine c_9_174 (As := [.int a1, .int (μ a0 0)]) (st1 := []) rfl (fun Q1 hq => ok_4_fill e3 (tl_24 e2 (ty_9_8 k0)) hq) (tl_24 e2 (ty_9_8 k0)) rfl rfl (Nat.le_of_ble_eq_true rfl) (dd dt_9_goOn 22 rfl) rfl ?_
      refine R_iinc (v := 1) (lv' := [some (.ref a0), some (.int a1), some (.int (v2 + 1))]) (dd dt_9_goOn 23 rfl) (by decide) rfl rfl ic_1 rfl ?_
      refine R_goto (dd dt_9_goOn 24 rfl) (tgt := 17) rfl ?_
      exact R_mask [true, true, true] rfl (ok_9_goOn_l17 a0 a1 k0 n (v2 + 1) μ4 _ h KX)
def f_9_goOn_l51 (a0 : Nat) : Nat → Int32 → mm → Option (mm)
  | 0, _, _ => none
  | n + 1, v2, μ => if (μ a0 4) ≤ v2 then
      some μ
    else
      (lda (rf a0 10) v2).bind fun r1 =>
      (lda (rf a0 10) v2).bind fun r3 =>
      (f_7_weightHeard (rf a0 13) r3 (μ a0 0) (rf a0 7) μ).bind fun x6 =>
      (f_9_liveOn a0 r1 x6 μ).bind fun μ8 =>
      f_9_goOn_l51 a0 n (v2 + 1) μ8
set_option maxRecDepth 100000 in
theorem ok_9_goOn_l51 {l : Launch} {E : ce} {d : Nat} {Q : Option Value → mm → Prop} (a0 : Nat) (k0 : kd a0 = 9) : ∀ (n : Nat) (v2 : Int32) (μ : mm) (z : mm), f_9_goOn_l51 a0 n v2 μ = some z → Rj l E (d + 6) m_9_goOn 96 [some (.ref a0), none, none] [] z Q → Rj l E (d + 6) m_9_goOn 51 [some (.ref a0), none, some (.int v2)] [] μ Q
  | 0, _, _, z, h, _ => by
    rw [f_9_goOn_l51] at h
    cases h
  | n + 1, v2, μ, z, h, KX => by
    rw [f_9_goOn_l51] at h
    refine R_iload_n (dd dt_9_goOn 29 rfl) 2 rfl rfl ?_
    refine R_aload_n (dd dt_9_goOn 30 rfl) 0 rfl rfl ?_
    refine g_9_24 rfl k0 (dd dt_9_goOn 31 rfl) ?_
    refine R_cmpge (dd dt_9_goOn 32 rfl) (tgt := 96) rfl (fun hc => ?_) (fun hc => ?_)
    · rw [if_pos hc] at h
      obtain rfl := Option.some.inj h
      exact R_mask [true, false, false] rfl KX
    · rw [if_neg hc] at h
      refine R_aload_n (dd dt_9_goOn 33 rfl) 0 rfl rfl ?_
      refine R_aload_n (dd dt_9_goOn 34 rfl) 0 rfl rfl ?_
      refine g_9_53 rfl k0 (dd dt_9_goOn 35 rfl) ?_
      refine R_iload_n (dd dt_9_goOn 36 rfl) 2 rfl rfl ?_
      obtain ⟨r1, e2, h⟩ := bi_el h
      refine R_aald (t0 := 6) e2 (ty_9_10 k0) (by decide) (by decide) rfl rfl (dd dt_9_goOn 37 rfl) ?_
      refine R_aload_n (dd dt_9_goOn 38 rfl) 0 rfl rfl ?_
      refine g_9_73 rfl k0 (dd dt_9_goOn 39 rfl) ?_
      refine R_aload_n (dd dt_9_goOn 40 rfl) 0 rfl rfl ?_
      refine g_9_53 rfl k0 (dd dt_9_goOn 41 rfl) ?_
      refine R_iload_n (dd dt_9_goOn 42 rfl) 2 rfl rfl ?_
      obtain ⟨r3, e4, h⟩ := bi_el h
      refine R_aald (t0 := 6) e4 (ty_9_10 k0) (by decide) (by decide) rfl rfl (dd dt_9_goOn 43 rfl) ?_
      refine R_aload_n (dd dt_9_goOn 44 rfl) 0 rfl rfl ?_
      refine g_9_9 rfl k0 (dd dt_9_goOn 45 rfl) ?_
      refine R_aload_n (dd dt_9_goOn 46 rfl) 0 rfl rfl ?_
      refine g_9_36 rfl k0 (dd dt_9_goOn 47 rfl) ?_
      obtain ⟨x6, e5, h⟩ := bi_el h
      refine c_9_180 (As := [.ref r3, .int (μ a0 0), .ref (rf a0 7)]) (st1 := [.int x6, .ref r1, .ref a0]) rfl (fun Q1 hq => ok_7_weightHeard e5 (ty_9_13 k0) (tl_26 e4 (ty_9_10 k0)) (ty_9_7 k0) hq) (ty_9_13 k0) rfl rfl (Nat.le_of_ble_eq_true rfl) (dd dt_9_goOn 48 rfl) rfl ?_
      obtain ⟨μ8, e7, h⟩ := bi_el h
      refine c_9_184 (As := [.ref r1, .int x6]) (st1 := []) rfl (fun Q1 hq => ok_9_liveOn e7 k0 (tl_26 e2 (ty_9_10 k0)) hq) k0 rfl rfl (Nat.le_of_ble_eq_true rfl) (dd dt_9_goOn 49 rfl) rfl ?_
      refine R_iinc (v := 1) (lv' := [some (.ref a0), none, some (.int (v2 + 1))]) (dd dt_9_goOn 50 rfl) (by decide) rfl rfl ic_1 rfl ?_
      refine R_goto (dd dt_9_goOn 51 rfl) (tgt := 51) rfl ?_
      exact R_mask [true, false, true] rfl (ok_9_goOn_l51 a0 k0 n (v2 + 1) μ8 _ h KX)
def f_9_goOn (a0 : Nat) (μ : mm) : Option (mm) :=
  (pf μ a0 0 ((μ a0 0) + 1)).bind fun μ1 =>
  (f_9_safety a0 μ1).bind fun x4 =>
  (f_9_goOn_l17 a0 x4 FU 0 μ1).bind fun z5 =>
  (f_9_shareIfDue a0 z5).bind fun μ8 =>
  (f_9_goOn_l51 a0 FU 0 μ8).bind fun z9 =>
  (f_10_goOn (rf a0 12) (z9 a0 0) z9).bind fun μ12 =>
  some μ12
set_option maxRecDepth 100000 in
set_option maxHeartbeats 4000000 in
theorem ok_9_goOn {l : Launch} {E : ce} {d : Nat}  {a0 : Nat} {μ : mm} {r : mm} {Q : Option Value → mm → Prop} (h : f_9_goOn a0 μ = some r) (k0 : kd a0 = 9) (hQ : Q none r) : Ct l E (d + 6) yX9_goOn m_9_goOn [.ref a0] μ Q := by
  refine Ct_of (lv := [some (.ref a0), none, none]) (by decide) rfl (Nat.le_of_ble_eq_true rfl) rfl ?_
  unfold f_9_goOn at h
  refine R_aload_n (dd dt_9_goOn 0 rfl) 0 rfl rfl ?_
  refine R_dup (dd dt_9_goOn 1 rfl) rfl ?_
  refine g_9_9 rfl k0 (dd dt_9_goOn 2 rfl) ?_
  refine R_iconst (v := 1) (dd dt_9_goOn 3 rfl) ic_1 ?_
  refine R_iadd (dd dt_9_goOn 4 rfl) ?_
  obtain ⟨μ1, e2, h⟩ := bi_el h
  refine p_9_9 rfl k0 (dd dt_9_goOn 5 rfl) e2 ?_
  refine R_aload_n (dd dt_9_goOn 6 rfl) 0 rfl rfl ?_
  obtain ⟨x4, e3, h⟩ := bi_el h
  refine c_9_170 (As := []) (st1 := [.int x4]) rfl (fun Q1 hq => ok_9_safety e3 k0 hq) k0 rfl rfl (Nat.le_of_ble_eq_true rfl) (dd dt_9_goOn 7 rfl) rfl ?_
  refine R_istore_n (lv' := [some (.ref a0), some (.int x4), none]) (dd dt_9_goOn 8 rfl) 1 rfl (by decide) rfl rfl ?_
  refine R_iconst (v := 0) (dd dt_9_goOn 9 rfl) ic_0 ?_
  refine R_istore_n (lv' := [some (.ref a0), some (.int x4), some (.int 0)]) (dd dt_9_goOn 10 rfl) 2 rfl (by decide) rfl rfl ?_
  obtain ⟨z5, e6, h⟩ := bi_el h
  refine R_mask [true, true, true] rfl (ok_9_goOn_l17 a0 x4 k0 FU 0 μ1 _ e6 ?_)
  refine R_aload_n (dd dt_9_goOn 25 rfl) 0 rfl rfl ?_
  obtain ⟨μ8, e7, h⟩ := bi_el h
  refine c_9_177 (As := []) (st1 := []) rfl (fun Q1 hq => ok_9_shareIfDue e7 k0 hq) k0 rfl rfl (Nat.le_of_ble_eq_true rfl) (dd dt_9_goOn 26 rfl) rfl ?_
  refine R_iconst (v := 0) (dd dt_9_goOn 27 rfl) ic_0 ?_
  refine R_istore_n (lv' := [some (.ref a0), none, some (.int 0)]) (dd dt_9_goOn 28 rfl) 2 rfl (by decide) rfl rfl ?_
  obtain ⟨z9, e10, h⟩ := bi_el h
  refine R_mask [true, false, true] rfl (ok_9_goOn_l51 a0 k0 FU 0 μ8 _ e10 ?_)
  refine R_aload_n (dd dt_9_goOn 52 rfl) 0 rfl rfl ?_
  refine g_9_66 rfl k0 (dd dt_9_goOn 53 rfl) ?_
  refine R_aload_n (dd dt_9_goOn 54 rfl) 0 rfl rfl ?_
  refine g_9_9 rfl k0 (dd dt_9_goOn 55 rfl) ?_
  obtain ⟨μ12, e11, h⟩ := bi_el h
  refine c_9_188 (As := [.int (z9 a0 0)]) (st1 := []) rfl (fun Q1 hq => ok_10_goOn e11 (ty_9_12 k0) hq) (ty_9_12 k0) rfl rfl (Nat.le_of_ble_eq_true rfl) (dd dt_9_goOn 56 rfl) rfl ?_
  obtain rfl := Option.some.inj h
  exact R_vret rfl (dd dt_9_goOn 57 rfl) hQ
/-! LongStrike.days(I)I -/
def tab_11_days : List (Nat × Instr × Nat) := [(0, .iload_n 1, 1), (1, .iconst 1, 1), (2, .bipush 60, 2), (4, .invokestatic 83, 3), (7, .ifCond .ne 5, 3), (10, .iconst (-1), 1), (11, .ireturn, 1), (12, .aload_n 0, 1), (13, .getfield 10, 3), (16, .getfield 87, 3), (19, .iload_n 1, 1), (20, .iadd, 1), (21, .sipush 999, 3), (24, .if_icmp .le 6, 3), (27, .bipush (-4), 2), (29, .ireturn, 1), (30, .iconst 0, 1), (31, .istore_n 2, 1), (32, .iload_n 2, 1), (33, .iload_n 1, 1), (34, .if_icmp .ge 16, 3), (37, .aload_n 0, 1), (38, .getfield 10, 3), (41, .invokevirtual 90, 3), (44, .iinc 2 1, 3), (47, .goto (-15), 3), (50, .aload_n 0, 1), (51, .getfield 10, 3), (54, .getfield 87, 3), (57, .ireturn, 1)]
set_option maxRecDepth 100000 in
theorem dt_11_days : ∀ q ∈ tab_11_days, decode m_11_days.2.1 q.1 = .ok q.2 := by decide +kernel
def f_11_days_l32 (a0 : Nat) (a1 : Int32) : Nat → Int32 → mm → Option (mm)
  | 0, _, _ => none
  | n + 1, v2, μ => if a1 ≤ v2 then
      some μ
    else
      (f_9_goOn (rf a0 0) μ).bind fun μ2 =>
      f_11_days_l32 a0 a1 n (v2 + 1) μ2
set_option maxRecDepth 100000 in
theorem ok_11_days_l32 {l : Launch} {E : ce} {d : Nat} {Q : Option Value → mm → Prop} (a0 : Nat) (a1 : Int32) (k0 : kd a0 = 11) : ∀ (n : Nat) (v2 : Int32) (μ : mm) (z : mm), f_11_days_l32 a0 a1 n v2 μ = some z → Rj l E (d + 7) m_11_days 50 [some (.ref a0), none, none] [] z Q → Rj l E (d + 7) m_11_days 32 [some (.ref a0), some (.int a1), some (.int v2)] [] μ Q
  | 0, _, _, z, h, _ => by
    rw [f_11_days_l32] at h
    cases h
  | n + 1, v2, μ, z, h, KX => by
    rw [f_11_days_l32] at h
    refine R_iload_n (dd dt_11_days 18 rfl) 2 rfl rfl ?_
    refine R_iload_n (dd dt_11_days 19 rfl) 1 rfl rfl ?_
    refine R_cmpge (dd dt_11_days 20 rfl) (tgt := 50) rfl (fun hc => ?_) (fun hc => ?_)
    · rw [if_pos hc] at h
      obtain rfl := Option.some.inj h
      exact R_mask [true, false, false] rfl KX
    · rw [if_neg hc] at h
      refine R_aload_n (dd dt_11_days 21 rfl) 0 rfl rfl ?_
      refine g_11_10 rfl k0 (dd dt_11_days 22 rfl) ?_
      obtain ⟨μ2, e1, h⟩ := bi_el h
      refine c_11_90 (As := []) (st1 := []) rfl (fun Q1 hq => ok_9_goOn e1 (ty_11_0 k0) hq) (ty_11_0 k0) rfl rfl (Nat.le_of_ble_eq_true rfl) (dd dt_11_days 23 rfl) rfl ?_
      refine R_iinc (v := 1) (lv' := [some (.ref a0), some (.int a1), some (.int (v2 + 1))]) (dd dt_11_days 24 rfl) (by decide) rfl rfl ic_1 rfl ?_
      refine R_goto (dd dt_11_days 25 rfl) (tgt := 32) rfl ?_
      exact R_mask [true, true, true] rfl (ok_11_days_l32 a0 a1 k0 n (v2 + 1) μ2 _ h KX)
def f_11_days (a0 : Nat) (a1 : Int32) (μ : mm) : Option (Int32 × mm) :=
  (f_11_isIn a1 1 60 μ).bind fun x2 =>
  if x2 = 0 then
    some ((-1), μ)
  else
    if ((μ (rf a0 0) 0) + a1) ≤ 999 then
      (f_11_days_l32 a0 a1 FU 0 μ).bind fun z3 =>
      some ((z3 (rf a0 0) 0), z3)
    else
      some ((-4), μ)
set_option maxRecDepth 100000 in
set_option maxHeartbeats 4000000 in
theorem ok_11_days {l : Launch} {E : ce} {d : Nat}  {a0 : Nat} {a1 : Int32} {μ : mm} {r : Int32 × mm} {Q : Option Value → mm → Prop} (h : f_11_days a0 a1 μ = some r) (k0 : kd a0 = 11) (hQ : Q (some (.int r.1)) r.2) : Ct l E (d + 7) yX11_days m_11_days [.ref a0, .int a1] μ Q := by
  refine Ct_of (lv := [some (.ref a0), some (.int a1), none]) (by decide) rfl (Nat.le_of_ble_eq_true rfl) rfl ?_
  unfold f_11_days at h
  refine R_iload_n (dd dt_11_days 0 rfl) 1 rfl rfl ?_
  refine R_iconst (v := 1) (dd dt_11_days 1 rfl) ic_1 ?_
  refine R_bipush (v := 60) (dd dt_11_days 2 rfl) bp_60 ?_
  obtain ⟨x2, e1, h⟩ := bi_el h
  refine c_11_83 (As := [.int a1, .int 1, .int 60]) (st1 := [.int x2]) rfl (fun Q1 hq => ok_11_isIn e1 hq) rfl rfl (Nat.le_of_ble_eq_true rfl) (dd dt_11_days 3 rfl) rfl ?_
  refine R_ifne (dd dt_11_days 4 rfl) (tgt := 12) rfl (fun hc => ?_) (fun hc => ?_)
  · rw [if_neg hc] at h
    refine R_aload_n (dd dt_11_days 7 rfl) 0 rfl rfl ?_
    refine g_11_10 rfl k0 (dd dt_11_days 8 rfl) ?_
    refine g_11_87 rfl (ty_11_0 k0) (dd dt_11_days 9 rfl) ?_
    refine R_iload_n (dd dt_11_days 10 rfl) 1 rfl rfl ?_
    refine R_iadd (dd dt_11_days 11 rfl) ?_
    refine R_sipush (v := 999) (dd dt_11_days 12 rfl) sp_999 ?_
    refine R_cmple (dd dt_11_days 13 rfl) (tgt := 30) rfl (fun hc => ?_) (fun hc => ?_)
    · rw [if_pos hc] at h
      refine R_iconst (v := 0) (dd dt_11_days 16 rfl) ic_0 ?_
      refine R_istore_n (lv' := [some (.ref a0), some (.int a1), some (.int 0)]) (dd dt_11_days 17 rfl) 2 rfl (by decide) rfl rfl ?_
      obtain ⟨z3, e4, h⟩ := bi_el h
      refine R_mask [true, true, true] rfl (ok_11_days_l32 a0 a1 k0 FU 0 μ _ e4 ?_)
      refine R_aload_n (dd dt_11_days 26 rfl) 0 rfl rfl ?_
      refine g_11_10 rfl k0 (dd dt_11_days 27 rfl) ?_
      refine g_11_87 rfl (ty_11_0 k0) (dd dt_11_days 28 rfl) ?_
      obtain rfl := Option.some.inj h
      exact R_iret rfl (dd dt_11_days 29 rfl) hQ
    · rw [if_neg hc] at h
      refine R_bipush (v := (-4)) (dd dt_11_days 14 rfl) bp_m4 ?_
      obtain rfl := Option.some.inj h
      exact R_iret rfl (dd dt_11_days 15 rfl) hQ
  · rw [if_pos hc] at h
    refine R_iconst (v := (-1)) (dd dt_11_days 5 rfl) ic_m1 ?_
    obtain rfl := Option.some.inj h
    exact R_iret rfl (dd dt_11_days 6 rfl) hQ
/-! LongStrike.village()I -/
def tab_11_village : List (Nat × Instr × Nat) := [(0, .aload_n 0, 1), (1, .getfield 10, 3), (4, .getfield 93, 3), (7, .bipush 6, 2), (9, .if_icmp .lt 6, 3), (12, .bipush (-2), 2), (14, .ireturn, 1), (15, .aload_n 0, 1), (16, .getfield 10, 3), (19, .dup, 1), (20, .getfield 93, 3), (23, .iconst 1, 1), (24, .iadd, 1), (25, .putfield 93, 3), (28, .aload_n 0, 1), (29, .getfield 10, 3), (32, .getfield 93, 3), (35, .iconst 1, 1), (36, .isub, 1), (37, .ireturn, 1)]
set_option maxRecDepth 100000 in
theorem dt_11_village : ∀ q ∈ tab_11_village, decode m_11_village.2.1 q.1 = .ok q.2 := by decide +kernel
def f_11_village (a0 : Nat) (μ : mm) : Option (Int32 × mm) :=
  if (μ (rf a0 0) 1) < 6 then
    (pf μ (rf a0 0) 1 ((μ (rf a0 0) 1) + 1)).bind fun μ1 =>
    some (((μ1 (rf a0 0) 1) - 1), μ1)
  else
    some ((-2), μ)
set_option maxRecDepth 100000 in
set_option maxHeartbeats 4000000 in
theorem ok_11_village {l : Launch} {E : ce} {d : Nat}  {a0 : Nat} {μ : mm} {r : Int32 × mm} {Q : Option Value → mm → Prop} (h : f_11_village a0 μ = some r) (k0 : kd a0 = 11) (hQ : Q (some (.int r.1)) r.2) : Ct l E d yX11_village m_11_village [.ref a0] μ Q := by
  refine Ct_of (lv := [some (.ref a0)]) (by decide) rfl (Nat.le_of_ble_eq_true rfl) rfl ?_
  unfold f_11_village at h
  refine R_aload_n (dd dt_11_village 0 rfl) 0 rfl rfl ?_
  refine g_11_10 rfl k0 (dd dt_11_village 1 rfl) ?_
  refine g_11_93 rfl (ty_11_0 k0) (dd dt_11_village 2 rfl) ?_
  refine R_bipush (v := 6) (dd dt_11_village 3 rfl) bp_6 ?_
  refine R_cmplt (dd dt_11_village 4 rfl) (tgt := 15) rfl (fun hc => ?_) (fun hc => ?_)
  · rw [if_pos hc] at h
    refine R_aload_n (dd dt_11_village 7 rfl) 0 rfl rfl ?_
    refine g_11_10 rfl k0 (dd dt_11_village 8 rfl) ?_
    refine R_dup (dd dt_11_village 9 rfl) rfl ?_
    refine g_11_93 rfl (ty_11_0 k0) (dd dt_11_village 10 rfl) ?_
    refine R_iconst (v := 1) (dd dt_11_village 11 rfl) ic_1 ?_
    refine R_iadd (dd dt_11_village 12 rfl) ?_
    obtain ⟨μ1, e2, h⟩ := bi_el h
    refine p_11_93 rfl (ty_11_0 k0) (dd dt_11_village 13 rfl) e2 ?_
    refine R_aload_n (dd dt_11_village 14 rfl) 0 rfl rfl ?_
    refine g_11_10 rfl k0 (dd dt_11_village 15 rfl) ?_
    refine g_11_93 rfl (ty_11_0 k0) (dd dt_11_village 16 rfl) ?_
    refine R_iconst (v := 1) (dd dt_11_village 17 rfl) ic_1 ?_
    refine R_isub (dd dt_11_village 18 rfl) ?_
    obtain rfl := Option.some.inj h
    exact R_iret rfl (dd dt_11_village 19 rfl) hQ
  · rw [if_neg hc] at h
    refine R_bipush (v := (-2)) (dd dt_11_village 5 rfl) bp_m2 ?_
    obtain rfl := Option.some.inj h
    exact R_iret rfl (dd dt_11_village 6 rfl) hQ
/-! LongStrike$Valley.hasVillage(I)Z -/
def tab_9_hasVillage : List (Nat × Instr × Nat) := [(0, .iload_n 1, 1), (1, .iconst 0, 1), (2, .aload_n 0, 1), (3, .getfield 15, 3), (6, .iconst 1, 1), (7, .isub, 1), (8, .invokestatic 142, 3), (11, .ireturn, 1)]
set_option maxRecDepth 100000 in
theorem dt_9_hasVillage : ∀ q ∈ tab_9_hasVillage, decode m_9_hasVillage.2.1 q.1 = .ok q.2 := by decide +kernel
def f_9_hasVillage (a0 : Nat) (a1 : Int32) (μ : mm) : Option (Int32) :=
  (f_11_isIn a1 0 ((μ a0 1) - 1) μ).bind fun x2 =>
  (gb x2).bind fun _ =>
  some x2
set_option maxRecDepth 100000 in
set_option maxHeartbeats 4000000 in
theorem ok_9_hasVillage {l : Launch} {E : ce} {d : Nat}  {a0 : Nat} {a1 : Int32} {μ : mm} {r : Int32} {Q : Option Value → mm → Prop} (h : f_9_hasVillage a0 a1 μ = some r) (k0 : kd a0 = 9) (hQ : Q (some (.int r)) μ) : Ct l E (d + 1) yX9_hasVillage m_9_hasVillage [.ref a0, .int a1] μ Q := by
  refine Ct_of (lv := [some (.ref a0), some (.int a1)]) (by decide) rfl (Nat.le_of_ble_eq_true rfl) rfl ?_
  unfold f_9_hasVillage at h
  refine R_iload_n (dd dt_9_hasVillage 0 rfl) 1 rfl rfl ?_
  refine R_iconst (v := 0) (dd dt_9_hasVillage 1 rfl) ic_0 ?_
  refine R_aload_n (dd dt_9_hasVillage 2 rfl) 0 rfl rfl ?_
  refine g_9_15 rfl k0 (dd dt_9_hasVillage 3 rfl) ?_
  refine R_iconst (v := 1) (dd dt_9_hasVillage 4 rfl) ic_1 ?_
  refine R_isub (dd dt_9_hasVillage 5 rfl) ?_
  obtain ⟨x2, e1, h⟩ := bi_el h
  refine c_9_142 (As := [.int a1, .int 0, .int ((μ a0 1) - 1)]) (st1 := [.int x2]) rfl (fun Q1 hq => ok_11_isIn e1 hq) rfl rfl (Nat.le_of_ble_eq_true rfl) (dd dt_9_hasVillage 6 rfl) rfl ?_
  obtain ⟨_, q3, h⟩ := bi_el h
  obtain rfl := Option.some.inj h
  exact R_zret rfl (bo_narrow (gb_el q3).1) (dd dt_9_hasVillage 7 rfl) hQ
/-! LongStrike.road(III)I -/
def tab_11_road : List (Nat × Instr × Nat) := [(0, .aload_n 0, 1), (1, .getfield 10, 3), (4, .iload_n 1, 1), (5, .invokevirtual 96, 3), (8, .ifCond .eq 29, 3), (11, .aload_n 0, 1), (12, .getfield 10, 3), (15, .iload_n 2, 1), (16, .invokevirtual 96, 3), (19, .ifCond .eq 18, 3), (22, .iload_n 1, 1), (23, .iload_n 2, 1), (24, .if_icmp .eq 13, 3), (27, .iload_n 3, 1), (28, .iconst 1, 1), (29, .bipush 9, 2), (31, .invokestatic 83, 3), (34, .ifCond .ne 5, 3), (37, .iconst (-1), 1), (38, .ireturn, 1), (39, .aload_n 0, 1), (40, .getfield 10, 3), (43, .getfield 100, 3), (46, .iload_n 1, 1), (47, .aaload, 1), (48, .iload_n 2, 1), (49, .iaload, 1), (50, .istore 4, 2), (52, .aload_n 0, 1), (53, .getfield 10, 3), (56, .getfield 100, 3), (59, .iload_n 1, 1), (60, .aaload, 1), (61, .iload_n 2, 1), (62, .iload_n 3, 1), (63, .iastore, 1), (64, .aload_n 0, 1), (65, .getfield 10, 3), (68, .getfield 100, 3), (71, .iload_n 2, 1), (72, .aaload, 1), (73, .iload_n 1, 1), (74, .iload_n 3, 1), (75, .iastore, 1), (76, .iload 4, 2), (78, .ireturn, 1)]
set_option maxRecDepth 100000 in
theorem dt_11_road : ∀ q ∈ tab_11_road, decode m_11_road.2.1 q.1 = .ok q.2 := by decide +kernel
def f_11_road (a0 : Nat) (a1 : Int32) (a2 : Int32) (a3 : Int32) (μ : mm) : Option (Int32 × mm) :=
  (f_9_hasVillage (rf a0 0) a1 μ).bind fun x2 =>
  if x2 = 0 then
    some ((-1), μ)
  else
    (f_9_hasVillage (rf a0 0) a2 μ).bind fun x4 =>
    if x4 = 0 then
      some ((-1), μ)
    else
      if a1 = a2 then
        some ((-1), μ)
      else
        (f_11_isIn a3 1 9 μ).bind fun x6 =>
        if x6 = 0 then
          some ((-1), μ)
        else
          (lda (rf (rf a0 0) 7) a1).bind fun r7 =>
          (ld μ r7 a2).bind fun x9 =>
          (lda (rf (rf a0 0) 7) a1).bind fun r11 =>
          (sto μ r11 a2 a3).bind fun μ13 =>
          (lda (rf (rf a0 0) 7) a2).bind fun r15 =>
          (sto μ13 r15 a1 a3).bind fun μ17 =>
          some (x9, μ17)
set_option maxRecDepth 100000 in
set_option maxHeartbeats 4000000 in
theorem ok_11_road {l : Launch} {E : ce} {d : Nat}  {a0 : Nat} {a1 : Int32} {a2 : Int32} {a3 : Int32} {μ : mm} {r : Int32 × mm} {Q : Option Value → mm → Prop} (h : f_11_road a0 a1 a2 a3 μ = some r) (k0 : kd a0 = 11) (hQ : Q (some (.int r.1)) r.2) : Ct l E (d + 2) yX11_road m_11_road [.ref a0, .int a1, .int a2, .int a3] μ Q := by
  refine Ct_of (lv := [some (.ref a0), some (.int a1), some (.int a2), some (.int a3), none]) (by decide) rfl (Nat.le_of_ble_eq_true rfl) rfl ?_
  unfold f_11_road at h
  refine R_aload_n (dd dt_11_road 0 rfl) 0 rfl rfl ?_
  refine g_11_10 rfl k0 (dd dt_11_road 1 rfl) ?_
  refine R_iload_n (dd dt_11_road 2 rfl) 1 rfl rfl ?_
  obtain ⟨x2, e1, h⟩ := bi_el h
  refine c_11_96 (As := [.int a1]) (st1 := [.int x2]) rfl (fun Q1 hq => ok_9_hasVillage e1 (ty_11_0 k0) hq) (ty_11_0 k0) rfl rfl (Nat.le_of_ble_eq_true rfl) (dd dt_11_road 3 rfl) rfl ?_
  refine R_ifeq (dd dt_11_road 4 rfl) (tgt := 37) rfl (fun hc => ?_) (fun hc => ?_)
  · rw [if_pos hc] at h
    refine R_iconst (v := (-1)) (dd dt_11_road 18 rfl) ic_m1 ?_
    obtain rfl := Option.some.inj h
    exact R_iret rfl (dd dt_11_road 19 rfl) hQ
  · rw [if_neg hc] at h
    refine R_aload_n (dd dt_11_road 5 rfl) 0 rfl rfl ?_
    refine g_11_10 rfl k0 (dd dt_11_road 6 rfl) ?_
    refine R_iload_n (dd dt_11_road 7 rfl) 2 rfl rfl ?_
    obtain ⟨x4, e3, h⟩ := bi_el h
    refine c_11_96 (As := [.int a2]) (st1 := [.int x4]) rfl (fun Q1 hq => ok_9_hasVillage e3 (ty_11_0 k0) hq) (ty_11_0 k0) rfl rfl (Nat.le_of_ble_eq_true rfl) (dd dt_11_road 8 rfl) rfl ?_
    refine R_ifeq (dd dt_11_road 9 rfl) (tgt := 37) rfl (fun hc => ?_) (fun hc => ?_)
    · rw [if_pos hc] at h
      refine R_iconst (v := (-1)) (dd dt_11_road 18 rfl) ic_m1 ?_
      obtain rfl := Option.some.inj h
      exact R_iret rfl (dd dt_11_road 19 rfl) hQ
    · rw [if_neg hc] at h
      refine R_iload_n (dd dt_11_road 10 rfl) 1 rfl rfl ?_
      refine R_iload_n (dd dt_11_road 11 rfl) 2 rfl rfl ?_
      refine R_cmpeq (dd dt_11_road 12 rfl) (tgt := 37) rfl (fun hc => ?_) (fun hc => ?_)
      · rw [if_pos hc] at h
        refine R_iconst (v := (-1)) (dd dt_11_road 18 rfl) ic_m1 ?_
        obtain rfl := Option.some.inj h
        exact R_iret rfl (dd dt_11_road 19 rfl) hQ
      · rw [if_neg hc] at h
        refine R_iload_n (dd dt_11_road 13 rfl) 3 rfl rfl ?_
        refine R_iconst (v := 1) (dd dt_11_road 14 rfl) ic_1 ?_
        refine R_bipush (v := 9) (dd dt_11_road 15 rfl) bp_9 ?_
        obtain ⟨x6, e5, h⟩ := bi_el h
        refine c_11_83 (As := [.int a3, .int 1, .int 9]) (st1 := [.int x6]) rfl (fun Q1 hq => ok_11_isIn e5 hq) rfl rfl (Nat.le_of_ble_eq_true rfl) (dd dt_11_road 16 rfl) rfl ?_
        refine R_ifne (dd dt_11_road 17 rfl) (tgt := 39) rfl (fun hc => ?_) (fun hc => ?_)
        · rw [if_neg hc] at h
          refine R_aload_n (dd dt_11_road 20 rfl) 0 rfl rfl ?_
          refine g_11_10 rfl k0 (dd dt_11_road 21 rfl) ?_
          refine g_11_100 rfl (ty_11_0 k0) (dd dt_11_road 22 rfl) ?_
          refine R_iload_n (dd dt_11_road 23 rfl) 1 rfl rfl ?_
          obtain ⟨r7, e8, h⟩ := bi_el h
          refine R_aald (t0 := 3) e8 (ty_9_7 (ty_11_0 k0)) (by decide) (by decide) rfl rfl (dd dt_11_road 24 rfl) ?_
          refine R_iload_n (dd dt_11_road 25 rfl) 2 rfl rfl ?_
          obtain ⟨x9, e10, h⟩ := bi_el h
          refine R_ild e10 (tl_23 e8 (ty_9_7 (ty_11_0 k0))) (dd dt_11_road 26 rfl) ?_
          refine R_istore (lv' := [some (.ref a0), some (.int a1), some (.int a2), some (.int a3), some (.int x9)]) (dd dt_11_road 27 rfl) (by decide) rfl rfl ?_
          refine R_aload_n (dd dt_11_road 28 rfl) 0 rfl rfl ?_
          refine g_11_10 rfl k0 (dd dt_11_road 29 rfl) ?_
          refine g_11_100 rfl (ty_11_0 k0) (dd dt_11_road 30 rfl) ?_
          refine R_iload_n (dd dt_11_road 31 rfl) 1 rfl rfl ?_
          obtain ⟨r11, e12, h⟩ := bi_el h
          refine R_aald (t0 := 3) e12 (ty_9_7 (ty_11_0 k0)) (by decide) (by decide) rfl rfl (dd dt_11_road 32 rfl) ?_
          refine R_iload_n (dd dt_11_road 33 rfl) 2 rfl rfl ?_
          refine R_iload_n (dd dt_11_road 34 rfl) 3 rfl rfl ?_
          obtain ⟨μ13, e14, h⟩ := bi_el h
          refine R_isto e14 (tl_23 e12 (ty_9_7 (ty_11_0 k0))) (dd dt_11_road 35 rfl) ?_
          refine R_aload_n (dd dt_11_road 36 rfl) 0 rfl rfl ?_
          refine g_11_10 rfl k0 (dd dt_11_road 37 rfl) ?_
          refine g_11_100 rfl (ty_11_0 k0) (dd dt_11_road 38 rfl) ?_
          refine R_iload_n (dd dt_11_road 39 rfl) 2 rfl rfl ?_
          obtain ⟨r15, e16, h⟩ := bi_el h
          refine R_aald (t0 := 3) e16 (ty_9_7 (ty_11_0 k0)) (by decide) (by decide) rfl rfl (dd dt_11_road 40 rfl) ?_
          refine R_iload_n (dd dt_11_road 41 rfl) 1 rfl rfl ?_
          refine R_iload_n (dd dt_11_road 42 rfl) 3 rfl rfl ?_
          obtain ⟨μ17, e18, h⟩ := bi_el h
          refine R_isto e18 (tl_23 e16 (ty_9_7 (ty_11_0 k0))) (dd dt_11_road 43 rfl) ?_
          refine R_iload (dd dt_11_road 44 rfl) rfl ?_
          obtain rfl := Option.some.inj h
          exact R_iret rfl (dd dt_11_road 45 rfl) hQ
        · rw [if_pos hc] at h
          refine R_iconst (v := (-1)) (dd dt_11_road 18 rfl) ic_m1 ?_
          obtain rfl := Option.some.inj h
          exact R_iret rfl (dd dt_11_road 19 rfl) hQ
/-! LongStrike$Pit.dig(IIII)V -/
def tab_4_dig : List (Nat × Instr × Nat) := [(0, .aload_n 0, 1), (1, .iload_n 1, 1), (2, .putfield 7, 3), (5, .aload_n 0, 1), (6, .iload_n 2, 1), (7, .putfield 13, 3), (10, .aload_n 0, 1), (11, .iload_n 3, 1), (12, .putfield 16, 3), (15, .aload_n 0, 1), (16, .iload 4, 2), (18, .putfield 19, 3), (21, .aload_n 0, 1), (22, .iconst 0, 1), (23, .putfield 22, 3), (26, .aload_n 0, 1), (27, .iconst (-1), 1), (28, .putfield 25, 3), (31, .aload_n 0, 1), (32, .bipush 50, 2), (34, .putfield 28, 3), (37, .return_, 1)]
set_option maxRecDepth 100000 in
theorem dt_4_dig : ∀ q ∈ tab_4_dig, decode m_4_dig.2.1 q.1 = .ok q.2 := by decide +kernel
def f_4_dig (a0 : Nat) (a1 : Int32) (a2 : Int32) (a3 : Int32) (a4 : Int32) (μ : mm) : Option (mm) :=
  (pf μ a0 0 a1).bind fun μ1 =>
  (pf μ1 a0 1 a2).bind fun μ3 =>
  (pf μ3 a0 2 a3).bind fun μ5 =>
  (pf μ5 a0 3 a4).bind fun μ7 =>
  (pf μ7 a0 4 0).bind fun μ9 =>
  (pf μ9 a0 5 (-1)).bind fun μ11 =>
  (pf μ11 a0 6 50).bind fun μ13 =>
  some μ13
set_option maxRecDepth 100000 in
set_option maxHeartbeats 4000000 in
theorem ok_4_dig {l : Launch} {E : ce} {d : Nat}  {a0 : Nat} {a1 : Int32} {a2 : Int32} {a3 : Int32} {a4 : Int32} {μ : mm} {r : mm} {Q : Option Value → mm → Prop} (h : f_4_dig a0 a1 a2 a3 a4 μ = some r) (k0 : kd a0 = 4) (hQ : Q none r) : Ct l E d yX4_dig m_4_dig [.ref a0, .int a1, .int a2, .int a3, .int a4] μ Q := by
  refine Ct_of (lv := [some (.ref a0), some (.int a1), some (.int a2), some (.int a3), some (.int a4)]) (by decide) rfl (Nat.le_of_ble_eq_true rfl) rfl ?_
  unfold f_4_dig at h
  refine R_aload_n (dd dt_4_dig 0 rfl) 0 rfl rfl ?_
  refine R_iload_n (dd dt_4_dig 1 rfl) 1 rfl rfl ?_
  obtain ⟨μ1, e2, h⟩ := bi_el h
  refine p_4_7 rfl k0 (dd dt_4_dig 2 rfl) e2 ?_
  refine R_aload_n (dd dt_4_dig 3 rfl) 0 rfl rfl ?_
  refine R_iload_n (dd dt_4_dig 4 rfl) 2 rfl rfl ?_
  obtain ⟨μ3, e4, h⟩ := bi_el h
  refine p_4_13 rfl k0 (dd dt_4_dig 5 rfl) e4 ?_
  refine R_aload_n (dd dt_4_dig 6 rfl) 0 rfl rfl ?_
  refine R_iload_n (dd dt_4_dig 7 rfl) 3 rfl rfl ?_
  obtain ⟨μ5, e6, h⟩ := bi_el h
  refine p_4_16 rfl k0 (dd dt_4_dig 8 rfl) e6 ?_
  refine R_aload_n (dd dt_4_dig 9 rfl) 0 rfl rfl ?_
  refine R_iload (dd dt_4_dig 10 rfl) rfl ?_
  obtain ⟨μ7, e8, h⟩ := bi_el h
  refine p_4_19 rfl k0 (dd dt_4_dig 11 rfl) e8 ?_
  refine R_aload_n (dd dt_4_dig 12 rfl) 0 rfl rfl ?_
  refine R_iconst (v := 0) (dd dt_4_dig 13 rfl) ic_0 ?_
  obtain ⟨μ9, e10, h⟩ := bi_el h
  refine p_4_22 rfl k0 (dd dt_4_dig 14 rfl) e10 ?_
  refine R_aload_n (dd dt_4_dig 15 rfl) 0 rfl rfl ?_
  refine R_iconst (v := (-1)) (dd dt_4_dig 16 rfl) ic_m1 ?_
  obtain ⟨μ11, e12, h⟩ := bi_el h
  refine p_4_25 rfl k0 (dd dt_4_dig 17 rfl) e12 ?_
  refine R_aload_n (dd dt_4_dig 18 rfl) 0 rfl rfl ?_
  refine R_bipush (v := 50) (dd dt_4_dig 19 rfl) bp_50 ?_
  obtain ⟨μ13, e14, h⟩ := bi_el h
  refine p_4_28 rfl k0 (dd dt_4_dig 20 rfl) e14 ?_
  obtain rfl := Option.some.inj h
  exact R_vret rfl (dd dt_4_dig 21 rfl) hQ
/-! LongStrike.pit(IIII)I -/
def tab_11_pit : List (Nat × Instr × Nat) := [(0, .aload_n 0, 1), (1, .getfield 10, 3), (4, .iload_n 1, 1), (5, .invokevirtual 96, 3), (8, .ifCond .eq 35, 3), (11, .iload_n 2, 1), (12, .iconst 1, 1), (13, .bipush 50, 2), (15, .invokestatic 83, 3), (18, .ifCond .eq 25, 3), (21, .iload_n 3, 1), (22, .iconst 0, 1), (23, .bipush 50, 2), (25, .invokestatic 83, 3), (28, .ifCond .eq 15, 3), (31, .iload 4, 2), (33, .iconst 1, 1), (34, .sipush 9999, 3), (37, .invokestatic 83, 3), (40, .ifCond .ne 5, 3), (43, .iconst (-1), 1), (44, .ireturn, 1), (45, .aload_n 0, 1), (46, .getfield 10, 3), (49, .getfield 103, 3), (52, .iconst 4, 1), (53, .if_icmp .lt 6, 3), (56, .bipush (-2), 2), (58, .ireturn, 1), (59, .aload_n 0, 1), (60, .getfield 10, 3), (63, .getfield 106, 3), (66, .aload_n 0, 1), (67, .getfield 10, 3), (70, .getfield 103, 3), (73, .aaload, 1), (74, .iload_n 1, 1), (75, .iload_n 2, 1), (76, .iload_n 3, 1), (77, .iload 4, 2), (79, .invokevirtual 110, 3), (82, .aload_n 0, 1), (83, .getfield 10, 3), (86, .dup, 1), (87, .getfield 103, 3), (90, .iconst 1, 1), (91, .iadd, 1), (92, .putfield 103, 3), (95, .aload_n 0, 1), (96, .getfield 10, 3), (99, .getfield 103, 3), (102, .iconst 1, 1), (103, .isub, 1), (104, .ireturn, 1)]
set_option maxRecDepth 100000 in
theorem dt_11_pit : ∀ q ∈ tab_11_pit, decode m_11_pit.2.1 q.1 = .ok q.2 := by decide +kernel
def f_11_pit (a0 : Nat) (a1 : Int32) (a2 : Int32) (a3 : Int32) (a4 : Int32) (μ : mm) : Option (Int32 × mm) :=
  (f_9_hasVillage (rf a0 0) a1 μ).bind fun x2 =>
  if x2 = 0 then
    some ((-1), μ)
  else
    (f_11_isIn a2 1 50 μ).bind fun x4 =>
    if x4 = 0 then
      some ((-1), μ)
    else
      (f_11_isIn a3 0 50 μ).bind fun x6 =>
      if x6 = 0 then
        some ((-1), μ)
      else
        (f_11_isIn a4 1 9999 μ).bind fun x8 =>
        if x8 = 0 then
          some ((-1), μ)
        else
          if (μ (rf a0 0) 2) < 4 then
            (lda (rf (rf a0 0) 8) (μ (rf a0 0) 2)).bind fun r9 =>
            (f_4_dig r9 a1 a2 a3 a4 μ).bind fun μ12 =>
            (pf μ12 (rf a0 0) 2 ((μ12 (rf a0 0) 2) + 1)).bind fun μ13 =>
            some (((μ13 (rf a0 0) 2) - 1), μ13)
          else
            some ((-2), μ)
set_option maxRecDepth 100000 in
set_option maxHeartbeats 4000000 in
theorem ok_11_pit {l : Launch} {E : ce} {d : Nat}  {a0 : Nat} {a1 : Int32} {a2 : Int32} {a3 : Int32} {a4 : Int32} {μ : mm} {r : Int32 × mm} {Q : Option Value → mm → Prop} (h : f_11_pit a0 a1 a2 a3 a4 μ = some r) (k0 : kd a0 = 11) (hQ : Q (some (.int r.1)) r.2) : Ct l E (d + 2) yX11_pit m_11_pit [.ref a0, .int a1, .int a2, .int a3, .int a4] μ Q := by
  refine Ct_of (lv := [some (.ref a0), some (.int a1), some (.int a2), some (.int a3), some (.int a4)]) (by decide) rfl (Nat.le_of_ble_eq_true rfl) rfl ?_
  unfold f_11_pit at h
  refine R_aload_n (dd dt_11_pit 0 rfl) 0 rfl rfl ?_
  refine g_11_10 rfl k0 (dd dt_11_pit 1 rfl) ?_
  refine R_iload_n (dd dt_11_pit 2 rfl) 1 rfl rfl ?_
  obtain ⟨x2, e1, h⟩ := bi_el h
  refine c_11_96 (As := [.int a1]) (st1 := [.int x2]) rfl (fun Q1 hq => ok_9_hasVillage e1 (ty_11_0 k0) hq) (ty_11_0 k0) rfl rfl (Nat.le_of_ble_eq_true rfl) (dd dt_11_pit 3 rfl) rfl ?_
  refine R_ifeq (dd dt_11_pit 4 rfl) (tgt := 43) rfl (fun hc => ?_) (fun hc => ?_)
  · rw [if_pos hc] at h
    refine R_iconst (v := (-1)) (dd dt_11_pit 20 rfl) ic_m1 ?_
    obtain rfl := Option.some.inj h
    exact R_iret rfl (dd dt_11_pit 21 rfl) hQ
  · rw [if_neg hc] at h
    refine R_iload_n (dd dt_11_pit 5 rfl) 2 rfl rfl ?_
    refine R_iconst (v := 1) (dd dt_11_pit 6 rfl) ic_1 ?_
    refine R_bipush (v := 50) (dd dt_11_pit 7 rfl) bp_50 ?_
    obtain ⟨x4, e3, h⟩ := bi_el h
    refine c_11_83 (As := [.int a2, .int 1, .int 50]) (st1 := [.int x4]) rfl (fun Q1 hq => ok_11_isIn e3 hq) rfl rfl (Nat.le_of_ble_eq_true rfl) (dd dt_11_pit 8 rfl) rfl ?_
    refine R_ifeq (dd dt_11_pit 9 rfl) (tgt := 43) rfl (fun hc => ?_) (fun hc => ?_)
    · rw [if_pos hc] at h
      refine R_iconst (v := (-1)) (dd dt_11_pit 20 rfl) ic_m1 ?_
      obtain rfl := Option.some.inj h
      exact R_iret rfl (dd dt_11_pit 21 rfl) hQ
    · rw [if_neg hc] at h
      refine R_iload_n (dd dt_11_pit 10 rfl) 3 rfl rfl ?_
      refine R_iconst (v := 0) (dd dt_11_pit 11 rfl) ic_0 ?_
      refine R_bipush (v := 50) (dd dt_11_pit 12 rfl) bp_50 ?_
      obtain ⟨x6, e5, h⟩ := bi_el h
      refine c_11_83 (As := [.int a3, .int 0, .int 50]) (st1 := [.int x6]) rfl (fun Q1 hq => ok_11_isIn e5 hq) rfl rfl (Nat.le_of_ble_eq_true rfl) (dd dt_11_pit 13 rfl) rfl ?_
      refine R_ifeq (dd dt_11_pit 14 rfl) (tgt := 43) rfl (fun hc => ?_) (fun hc => ?_)
      · rw [if_pos hc] at h
        refine R_iconst (v := (-1)) (dd dt_11_pit 20 rfl) ic_m1 ?_
        obtain rfl := Option.some.inj h
        exact R_iret rfl (dd dt_11_pit 21 rfl) hQ
      · rw [if_neg hc] at h
        refine R_iload (dd dt_11_pit 15 rfl) rfl ?_
        refine R_iconst (v := 1) (dd dt_11_pit 16 rfl) ic_1 ?_
        refine R_sipush (v := 9999) (dd dt_11_pit 17 rfl) sp_9999 ?_
        obtain ⟨x8, e7, h⟩ := bi_el h
        refine c_11_83 (As := [.int a4, .int 1, .int 9999]) (st1 := [.int x8]) rfl (fun Q1 hq => ok_11_isIn e7 hq) rfl rfl (Nat.le_of_ble_eq_true rfl) (dd dt_11_pit 18 rfl) rfl ?_
        refine R_ifne (dd dt_11_pit 19 rfl) (tgt := 45) rfl (fun hc => ?_) (fun hc => ?_)
        · rw [if_neg hc] at h
          refine R_aload_n (dd dt_11_pit 22 rfl) 0 rfl rfl ?_
          refine g_11_10 rfl k0 (dd dt_11_pit 23 rfl) ?_
          refine g_11_103 rfl (ty_11_0 k0) (dd dt_11_pit 24 rfl) ?_
          refine R_iconst (v := 4) (dd dt_11_pit 25 rfl) ic_4 ?_
          refine R_cmplt (dd dt_11_pit 26 rfl) (tgt := 59) rfl (fun hc => ?_) (fun hc => ?_)
          · rw [if_pos hc] at h
            refine R_aload_n (dd dt_11_pit 29 rfl) 0 rfl rfl ?_
            refine g_11_10 rfl k0 (dd dt_11_pit 30 rfl) ?_
            refine g_11_106 rfl (ty_11_0 k0) (dd dt_11_pit 31 rfl) ?_
            refine R_aload_n (dd dt_11_pit 32 rfl) 0 rfl rfl ?_
            refine g_11_10 rfl k0 (dd dt_11_pit 33 rfl) ?_
            refine g_11_103 rfl (ty_11_0 k0) (dd dt_11_pit 34 rfl) ?_
            obtain ⟨r9, e10, h⟩ := bi_el h
            refine R_aald (t0 := 4) e10 (ty_9_8 (ty_11_0 k0)) (by decide) (by decide) rfl rfl (dd dt_11_pit 35 rfl) ?_
            refine R_iload_n (dd dt_11_pit 36 rfl) 1 rfl rfl ?_
            refine R_iload_n (dd dt_11_pit 37 rfl) 2 rfl rfl ?_
            refine R_iload_n (dd dt_11_pit 38 rfl) 3 rfl rfl ?_
            refine R_iload (dd dt_11_pit 39 rfl) rfl ?_
            obtain ⟨μ12, e11, h⟩ := bi_el h
            refine c_11_110 (As := [.int a1, .int a2, .int a3, .int a4]) (st1 := []) rfl (fun Q1 hq => ok_4_dig e11 (tl_24 e10 (ty_9_8 (ty_11_0 k0))) hq) (tl_24 e10 (ty_9_8 (ty_11_0 k0))) rfl rfl (Nat.le_of_ble_eq_true rfl) (dd dt_11_pit 40 rfl) rfl ?_
            refine R_aload_n (dd dt_11_pit 41 rfl) 0 rfl rfl ?_
            refine g_11_10 rfl k0 (dd dt_11_pit 42 rfl) ?_
            refine R_dup (dd dt_11_pit 43 rfl) rfl ?_
            refine g_11_103 rfl (ty_11_0 k0) (dd dt_11_pit 44 rfl) ?_
            refine R_iconst (v := 1) (dd dt_11_pit 45 rfl) ic_1 ?_
            refine R_iadd (dd dt_11_pit 46 rfl) ?_
            obtain ⟨μ13, e14, h⟩ := bi_el h
            refine p_11_103 rfl (ty_11_0 k0) (dd dt_11_pit 47 rfl) e14 ?_
            refine R_aload_n (dd dt_11_pit 48 rfl) 0 rfl rfl ?_
            refine g_11_10 rfl k0 (dd dt_11_pit 49 rfl) ?_
            refine g_11_103 rfl (ty_11_0 k0) (dd dt_11_pit 50 rfl) ?_
            refine R_iconst (v := 1) (dd dt_11_pit 51 rfl) ic_1 ?_
            refine R_isub (dd dt_11_pit 52 rfl) ?_
            obtain rfl := Option.some.inj h
            exact R_iret rfl (dd dt_11_pit 53 rfl) hQ
          · rw [if_neg hc] at h
            refine R_bipush (v := (-2)) (dd dt_11_pit 27 rfl) bp_m2 ?_
            obtain rfl := Option.some.inj h
            exact R_iret rfl (dd dt_11_pit 28 rfl) hQ
        · rw [if_pos hc] at h
          refine R_iconst (v := (-1)) (dd dt_11_pit 20 rfl) ic_m1 ?_
          obtain rfl := Option.some.inj h
          exact R_iret rfl (dd dt_11_pit 21 rfl) hQ
/-! LongStrike$Shop.open(II)V -/
def tab_6_open : List (Nat × Instr × Nat) := [(0, .aload_n 0, 1), (1, .iload_n 1, 1), (2, .putfield 7, 3), (5, .aload_n 0, 1), (6, .iload_n 2, 1), (7, .putfield 13, 3), (10, .aload_n 0, 1), (11, .iconst 0, 1), (12, .putfield 16, 3), (15, .return_, 1)]
set_option maxRecDepth 100000 in
theorem dt_6_open : ∀ q ∈ tab_6_open, decode m_6_open.2.1 q.1 = .ok q.2 := by decide +kernel
def f_6_open (a0 : Nat) (a1 : Int32) (a2 : Int32) (μ : mm) : Option (mm) :=
  (pf μ a0 0 a1).bind fun μ1 =>
  (pf μ1 a0 1 a2).bind fun μ3 =>
  (pf μ3 a0 2 0).bind fun μ5 =>
  some μ5
set_option maxRecDepth 100000 in
set_option maxHeartbeats 4000000 in
theorem ok_6_open {l : Launch} {E : ce} {d : Nat}  {a0 : Nat} {a1 : Int32} {a2 : Int32} {μ : mm} {r : mm} {Q : Option Value → mm → Prop} (h : f_6_open a0 a1 a2 μ = some r) (k0 : kd a0 = 6) (hQ : Q none r) : Ct l E d yX6_open m_6_open [.ref a0, .int a1, .int a2] μ Q := by
  refine Ct_of (lv := [some (.ref a0), some (.int a1), some (.int a2)]) (by decide) rfl (Nat.le_of_ble_eq_true rfl) rfl ?_
  unfold f_6_open at h
  refine R_aload_n (dd dt_6_open 0 rfl) 0 rfl rfl ?_
  refine R_iload_n (dd dt_6_open 1 rfl) 1 rfl rfl ?_
  obtain ⟨μ1, e2, h⟩ := bi_el h
  refine p_6_7 rfl k0 (dd dt_6_open 2 rfl) e2 ?_
  refine R_aload_n (dd dt_6_open 3 rfl) 0 rfl rfl ?_
  refine R_iload_n (dd dt_6_open 4 rfl) 2 rfl rfl ?_
  obtain ⟨μ3, e4, h⟩ := bi_el h
  refine p_6_13 rfl k0 (dd dt_6_open 5 rfl) e4 ?_
  refine R_aload_n (dd dt_6_open 6 rfl) 0 rfl rfl ?_
  refine R_iconst (v := 0) (dd dt_6_open 7 rfl) ic_0 ?_
  obtain ⟨μ5, e6, h⟩ := bi_el h
  refine p_6_16 rfl k0 (dd dt_6_open 8 rfl) e6 ?_
  obtain rfl := Option.some.inj h
  exact R_vret rfl (dd dt_6_open 9 rfl) hQ
/-! LongStrike.shop(II)I -/
def tab_11_shop : List (Nat × Instr × Nat) := [(0, .aload_n 0, 1), (1, .getfield 10, 3), (4, .iload_n 1, 1), (5, .invokevirtual 96, 3), (8, .ifCond .eq 14, 3), (11, .iload_n 2, 1), (12, .iconst 0, 1), (13, .sipush 999, 3), (16, .invokestatic 83, 3), (19, .ifCond .ne 5, 3), (22, .iconst (-1), 1), (23, .ireturn, 1), (24, .aload_n 0, 1), (25, .getfield 10, 3), (28, .getfield 116, 3), (31, .iconst 4, 1), (32, .if_icmp .lt 6, 3), (35, .bipush (-2), 2), (37, .ireturn, 1), (38, .aload_n 0, 1), (39, .getfield 10, 3), (42, .getfield 119, 3), (45, .aload_n 0, 1), (46, .getfield 10, 3), (49, .getfield 116, 3), (52, .aaload, 1), (53, .iload_n 1, 1), (54, .iload_n 2, 1), (55, .invokevirtual 123, 3), (58, .aload_n 0, 1), (59, .getfield 10, 3), (62, .dup, 1), (63, .getfield 116, 3), (66, .iconst 1, 1), (67, .iadd, 1), (68, .putfield 116, 3), (71, .aload_n 0, 1), (72, .getfield 10, 3), (75, .getfield 116, 3), (78, .iconst 1, 1), (79, .isub, 1), (80, .ireturn, 1)]
set_option maxRecDepth 100000 in
theorem dt_11_shop : ∀ q ∈ tab_11_shop, decode m_11_shop.2.1 q.1 = .ok q.2 := by decide +kernel
def f_11_shop (a0 : Nat) (a1 : Int32) (a2 : Int32) (μ : mm) : Option (Int32 × mm) :=
  (f_9_hasVillage (rf a0 0) a1 μ).bind fun x2 =>
  if x2 = 0 then
    some ((-1), μ)
  else
    (f_11_isIn a2 0 999 μ).bind fun x4 =>
    if x4 = 0 then
      some ((-1), μ)
    else
      if (μ (rf a0 0) 3) < 4 then
        (lda (rf (rf a0 0) 9) (μ (rf a0 0) 3)).bind fun r5 =>
        (f_6_open r5 a1 a2 μ).bind fun μ8 =>
        (pf μ8 (rf a0 0) 3 ((μ8 (rf a0 0) 3) + 1)).bind fun μ9 =>
        some (((μ9 (rf a0 0) 3) - 1), μ9)
      else
        some ((-2), μ)
set_option maxRecDepth 100000 in
set_option maxHeartbeats 4000000 in
theorem ok_11_shop {l : Launch} {E : ce} {d : Nat}  {a0 : Nat} {a1 : Int32} {a2 : Int32} {μ : mm} {r : Int32 × mm} {Q : Option Value → mm → Prop} (h : f_11_shop a0 a1 a2 μ = some r) (k0 : kd a0 = 11) (hQ : Q (some (.int r.1)) r.2) : Ct l E (d + 2) yX11_shop m_11_shop [.ref a0, .int a1, .int a2] μ Q := by
  refine Ct_of (lv := [some (.ref a0), some (.int a1), some (.int a2)]) (by decide) rfl (Nat.le_of_ble_eq_true rfl) rfl ?_
  unfold f_11_shop at h
  refine R_aload_n (dd dt_11_shop 0 rfl) 0 rfl rfl ?_
  refine g_11_10 rfl k0 (dd dt_11_shop 1 rfl) ?_
  refine R_iload_n (dd dt_11_shop 2 rfl) 1 rfl rfl ?_
  obtain ⟨x2, e1, h⟩ := bi_el h
  refine c_11_96 (As := [.int a1]) (st1 := [.int x2]) rfl (fun Q1 hq => ok_9_hasVillage e1 (ty_11_0 k0) hq) (ty_11_0 k0) rfl rfl (Nat.le_of_ble_eq_true rfl) (dd dt_11_shop 3 rfl) rfl ?_
  refine R_ifeq (dd dt_11_shop 4 rfl) (tgt := 22) rfl (fun hc => ?_) (fun hc => ?_)
  · rw [if_pos hc] at h
    refine R_iconst (v := (-1)) (dd dt_11_shop 10 rfl) ic_m1 ?_
    obtain rfl := Option.some.inj h
    exact R_iret rfl (dd dt_11_shop 11 rfl) hQ
  · rw [if_neg hc] at h
    refine R_iload_n (dd dt_11_shop 5 rfl) 2 rfl rfl ?_
    refine R_iconst (v := 0) (dd dt_11_shop 6 rfl) ic_0 ?_
    refine R_sipush (v := 999) (dd dt_11_shop 7 rfl) sp_999 ?_
    obtain ⟨x4, e3, h⟩ := bi_el h
    refine c_11_83 (As := [.int a2, .int 0, .int 999]) (st1 := [.int x4]) rfl (fun Q1 hq => ok_11_isIn e3 hq) rfl rfl (Nat.le_of_ble_eq_true rfl) (dd dt_11_shop 8 rfl) rfl ?_
    refine R_ifne (dd dt_11_shop 9 rfl) (tgt := 24) rfl (fun hc => ?_) (fun hc => ?_)
    · rw [if_neg hc] at h
      refine R_aload_n (dd dt_11_shop 12 rfl) 0 rfl rfl ?_
      refine g_11_10 rfl k0 (dd dt_11_shop 13 rfl) ?_
      refine g_11_116 rfl (ty_11_0 k0) (dd dt_11_shop 14 rfl) ?_
      refine R_iconst (v := 4) (dd dt_11_shop 15 rfl) ic_4 ?_
      refine R_cmplt (dd dt_11_shop 16 rfl) (tgt := 38) rfl (fun hc => ?_) (fun hc => ?_)
      · rw [if_pos hc] at h
        refine R_aload_n (dd dt_11_shop 19 rfl) 0 rfl rfl ?_
        refine g_11_10 rfl k0 (dd dt_11_shop 20 rfl) ?_
        refine g_11_119 rfl (ty_11_0 k0) (dd dt_11_shop 21 rfl) ?_
        refine R_aload_n (dd dt_11_shop 22 rfl) 0 rfl rfl ?_
        refine g_11_10 rfl k0 (dd dt_11_shop 23 rfl) ?_
        refine g_11_116 rfl (ty_11_0 k0) (dd dt_11_shop 24 rfl) ?_
        obtain ⟨r5, e6, h⟩ := bi_el h
        refine R_aald (t0 := 5) e6 (ty_9_9 (ty_11_0 k0)) (by decide) (by decide) rfl rfl (dd dt_11_shop 25 rfl) ?_
        refine R_iload_n (dd dt_11_shop 26 rfl) 1 rfl rfl ?_
        refine R_iload_n (dd dt_11_shop 27 rfl) 2 rfl rfl ?_
        obtain ⟨μ8, e7, h⟩ := bi_el h
        refine c_11_123 (As := [.int a1, .int a2]) (st1 := []) rfl (fun Q1 hq => ok_6_open e7 (tl_25 e6 (ty_9_9 (ty_11_0 k0))) hq) (tl_25 e6 (ty_9_9 (ty_11_0 k0))) rfl rfl (Nat.le_of_ble_eq_true rfl) (dd dt_11_shop 28 rfl) rfl ?_
        refine R_aload_n (dd dt_11_shop 29 rfl) 0 rfl rfl ?_
        refine g_11_10 rfl k0 (dd dt_11_shop 30 rfl) ?_
        refine R_dup (dd dt_11_shop 31 rfl) rfl ?_
        refine g_11_116 rfl (ty_11_0 k0) (dd dt_11_shop 32 rfl) ?_
        refine R_iconst (v := 1) (dd dt_11_shop 33 rfl) ic_1 ?_
        refine R_iadd (dd dt_11_shop 34 rfl) ?_
        obtain ⟨μ9, e10, h⟩ := bi_el h
        refine p_11_116 rfl (ty_11_0 k0) (dd dt_11_shop 35 rfl) e10 ?_
        refine R_aload_n (dd dt_11_shop 36 rfl) 0 rfl rfl ?_
        refine g_11_10 rfl k0 (dd dt_11_shop 37 rfl) ?_
        refine g_11_116 rfl (ty_11_0 k0) (dd dt_11_shop 38 rfl) ?_
        refine R_iconst (v := 1) (dd dt_11_shop 39 rfl) ic_1 ?_
        refine R_isub (dd dt_11_shop 40 rfl) ?_
        obtain rfl := Option.some.inj h
        exact R_iret rfl (dd dt_11_shop 41 rfl) hQ
      · rw [if_neg hc] at h
        refine R_bipush (v := (-2)) (dd dt_11_shop 17 rfl) bp_m2 ?_
        obtain rfl := Option.some.inj h
        exact R_iret rfl (dd dt_11_shop 18 rfl) hQ
    · rw [if_pos hc] at h
      refine R_iconst (v := (-1)) (dd dt_11_shop 10 rfl) ic_m1 ?_
      obtain rfl := Option.some.inj h
      exact R_iret rfl (dd dt_11_shop 11 rfl) hQ
/-! LongStrike$Household.settle(IIIII)V -/
def tab_1_settle : List (Nat × Instr × Nat) := [(0, .aload_n 0, 1), (1, .iload_n 1, 1), (2, .putfield 7, 3), (5, .aload_n 0, 1), (6, .iload_n 2, 1), (7, .putfield 13, 3), (10, .aload_n 0, 1), (11, .iload_n 3, 1), (12, .putfield 16, 3), (15, .aload_n 0, 1), (16, .iload 4, 2), (18, .sipush 1000, 3), (21, .idiv, 1), (22, .putfield 19, 3), (25, .aload_n 0, 1), (26, .iload 4, 2), (28, .sipush 1000, 3), (31, .irem, 1), (32, .bipush 10, 2), (34, .idiv, 1), (35, .putfield 22, 3), (38, .aload_n 0, 1), (39, .iload 5, 2), (41, .putfield 25, 3), (44, .aload_n 0, 1), (45, .iconst 0, 1), (46, .putfield 28, 3), (49, .aload_n 0, 1), (50, .iconst 0, 1), (51, .putfield 31, 3), (54, .aload_n 0, 1), (55, .iconst 0, 1), (56, .putfield 34, 3), (59, .aload_n 0, 1), (60, .iconst 0, 1), (61, .putfield 37, 3), (64, .aload_n 0, 1), (65, .iconst 0, 1), (66, .putfield 40, 3), (69, .aload_n 0, 1), (70, .iconst 0, 1), (71, .putfield 44, 3), (74, .return_, 1)]
set_option maxRecDepth 100000 in
theorem dt_1_settle : ∀ q ∈ tab_1_settle, decode m_1_settle.2.1 q.1 = .ok q.2 := by decide +kernel
def f_1_settle (a0 : Nat) (a1 : Int32) (a2 : Int32) (a3 : Int32) (a4 : Int32) (a5 : Int32) (μ : mm) : Option (mm) :=
  (pf μ a0 0 a1).bind fun μ1 =>
  (pf μ1 a0 1 a2).bind fun μ3 =>
  (pf μ3 a0 2 a3).bind fun μ5 =>
  (pf μ5 a0 3 (a4 / 1000)).bind fun μ7 =>
  (pf μ7 a0 4 ((a4 - a4 / 1000 * 1000) / 10)).bind fun μ9 =>
  (pf μ9 a0 5 a5).bind fun μ11 =>
  (pf μ11 a0 6 0).bind fun μ13 =>
  (pf μ13 a0 7 0).bind fun μ15 =>
  (pf μ15 a0 8 0).bind fun μ17 =>
  (pf μ17 a0 9 0).bind fun μ19 =>
  (pf μ19 a0 10 0).bind fun μ21 =>
  (pf μ21 a0 11 0).bind fun μ23 =>
  some μ23
set_option maxRecDepth 100000 in
set_option maxHeartbeats 4000000 in
theorem ok_1_settle {l : Launch} {E : ce} {d : Nat}  {a0 : Nat} {a1 : Int32} {a2 : Int32} {a3 : Int32} {a4 : Int32} {a5 : Int32} {μ : mm} {r : mm} {Q : Option Value → mm → Prop} (h : f_1_settle a0 a1 a2 a3 a4 a5 μ = some r) (k0 : kd a0 = 1) (hQ : Q none r) : Ct l E d yX1_settle m_1_settle [.ref a0, .int a1, .int a2, .int a3, .int a4, .int a5] μ Q := by
  refine Ct_of (lv := [some (.ref a0), some (.int a1), some (.int a2), some (.int a3), some (.int a4), some (.int a5)]) (by decide) rfl (Nat.le_of_ble_eq_true rfl) rfl ?_
  unfold f_1_settle at h
  refine R_aload_n (dd dt_1_settle 0 rfl) 0 rfl rfl ?_
  refine R_iload_n (dd dt_1_settle 1 rfl) 1 rfl rfl ?_
  obtain ⟨μ1, e2, h⟩ := bi_el h
  refine p_1_7 rfl k0 (dd dt_1_settle 2 rfl) e2 ?_
  refine R_aload_n (dd dt_1_settle 3 rfl) 0 rfl rfl ?_
  refine R_iload_n (dd dt_1_settle 4 rfl) 2 rfl rfl ?_
  obtain ⟨μ3, e4, h⟩ := bi_el h
  refine p_1_13 rfl k0 (dd dt_1_settle 5 rfl) e4 ?_
  refine R_aload_n (dd dt_1_settle 6 rfl) 0 rfl rfl ?_
  refine R_iload_n (dd dt_1_settle 7 rfl) 3 rfl rfl ?_
  obtain ⟨μ5, e6, h⟩ := bi_el h
  refine p_1_16 rfl k0 (dd dt_1_settle 8 rfl) e6 ?_
  refine R_aload_n (dd dt_1_settle 9 rfl) 0 rfl rfl ?_
  refine R_iload (dd dt_1_settle 10 rfl) rfl ?_
  refine R_sipush (v := 1000) (dd dt_1_settle 11 rfl) sp_1000 ?_
  refine R_idiv (dd dt_1_settle 12 rfl) (by decide) ?_
  obtain ⟨μ7, e8, h⟩ := bi_el h
  refine p_1_19 rfl k0 (dd dt_1_settle 13 rfl) e8 ?_
  refine R_aload_n (dd dt_1_settle 14 rfl) 0 rfl rfl ?_
  refine R_iload (dd dt_1_settle 15 rfl) rfl ?_
  refine R_sipush (v := 1000) (dd dt_1_settle 16 rfl) sp_1000 ?_
  refine R_irem (dd dt_1_settle 17 rfl) (by decide) ?_
  refine R_bipush (v := 10) (dd dt_1_settle 18 rfl) bp_10 ?_
  refine R_idiv (dd dt_1_settle 19 rfl) (by decide) ?_
  obtain ⟨μ9, e10, h⟩ := bi_el h
  refine p_1_22 rfl k0 (dd dt_1_settle 20 rfl) e10 ?_
  refine R_aload_n (dd dt_1_settle 21 rfl) 0 rfl rfl ?_
  refine R_iload (dd dt_1_settle 22 rfl) rfl ?_
  obtain ⟨μ11, e12, h⟩ := bi_el h
  refine p_1_25 rfl k0 (dd dt_1_settle 23 rfl) e12 ?_
  refine R_aload_n (dd dt_1_settle 24 rfl) 0 rfl rfl ?_
  refine R_iconst (v := 0) (dd dt_1_settle 25 rfl) ic_0 ?_
  obtain ⟨μ13, e14, h⟩ := bi_el h
  refine p_1_28 rfl k0 (dd dt_1_settle 26 rfl) e14 ?_
  refine R_aload_n (dd dt_1_settle 27 rfl) 0 rfl rfl ?_
  refine R_iconst (v := 0) (dd dt_1_settle 28 rfl) ic_0 ?_
  obtain ⟨μ15, e16, h⟩ := bi_el h
  refine p_1_31 rfl k0 (dd dt_1_settle 29 rfl) e16 ?_
  refine R_aload_n (dd dt_1_settle 30 rfl) 0 rfl rfl ?_
  refine R_iconst (v := 0) (dd dt_1_settle 31 rfl) ic_0 ?_
  obtain ⟨μ17, e18, h⟩ := bi_el h
  refine p_1_34 rfl k0 (dd dt_1_settle 32 rfl) e18 ?_
  refine R_aload_n (dd dt_1_settle 33 rfl) 0 rfl rfl ?_
  refine R_iconst (v := 0) (dd dt_1_settle 34 rfl) ic_0 ?_
  obtain ⟨μ19, e20, h⟩ := bi_el h
  refine p_1_37 rfl k0 (dd dt_1_settle 35 rfl) e20 ?_
  refine R_aload_n (dd dt_1_settle 36 rfl) 0 rfl rfl ?_
  refine R_iconst (v := 0) (dd dt_1_settle 37 rfl) ic_0 ?_
  obtain ⟨μ21, e22, h⟩ := bi_el h
  refine p_1_40 rfl k0 (by decide) (dd dt_1_settle 38 rfl) e22 ?_
  refine R_aload_n (dd dt_1_settle 39 rfl) 0 rfl rfl ?_
  refine R_iconst (v := 0) (dd dt_1_settle 40 rfl) ic_0 ?_
  obtain ⟨μ23, e24, h⟩ := bi_el h
  refine p_1_44 rfl k0 (by decide) (dd dt_1_settle 41 rfl) e24 ?_
  obtain rfl := Option.some.inj h
  exact R_vret rfl (dd dt_1_settle 42 rfl) hQ
/-! LongStrike$Valley.hasPit(I)Z -/
def tab_9_hasPit : List (Nat × Instr × Nat) := [(0, .iload_n 1, 1), (1, .iconst 0, 1), (2, .aload_n 0, 1), (3, .getfield 18, 3), (6, .iconst 1, 1), (7, .isub, 1), (8, .invokestatic 142, 3), (11, .ireturn, 1)]
set_option maxRecDepth 100000 in
theorem dt_9_hasPit : ∀ q ∈ tab_9_hasPit, decode m_9_hasPit.2.1 q.1 = .ok q.2 := by decide +kernel
def f_9_hasPit (a0 : Nat) (a1 : Int32) (μ : mm) : Option (Int32) :=
  (f_11_isIn a1 0 ((μ a0 2) - 1) μ).bind fun x2 =>
  (gb x2).bind fun _ =>
  some x2
set_option maxRecDepth 100000 in
set_option maxHeartbeats 4000000 in
theorem ok_9_hasPit {l : Launch} {E : ce} {d : Nat}  {a0 : Nat} {a1 : Int32} {μ : mm} {r : Int32} {Q : Option Value → mm → Prop} (h : f_9_hasPit a0 a1 μ = some r) (k0 : kd a0 = 9) (hQ : Q (some (.int r)) μ) : Ct l E (d + 1) yX9_hasPit m_9_hasPit [.ref a0, .int a1] μ Q := by
  refine Ct_of (lv := [some (.ref a0), some (.int a1)]) (by decide) rfl (Nat.le_of_ble_eq_true rfl) rfl ?_
  unfold f_9_hasPit at h
  refine R_iload_n (dd dt_9_hasPit 0 rfl) 1 rfl rfl ?_
  refine R_iconst (v := 0) (dd dt_9_hasPit 1 rfl) ic_0 ?_
  refine R_aload_n (dd dt_9_hasPit 2 rfl) 0 rfl rfl ?_
  refine g_9_18 rfl k0 (dd dt_9_hasPit 3 rfl) ?_
  refine R_iconst (v := 1) (dd dt_9_hasPit 4 rfl) ic_1 ?_
  refine R_isub (dd dt_9_hasPit 5 rfl) ?_
  obtain ⟨x2, e1, h⟩ := bi_el h
  refine c_9_142 (As := [.int a1, .int 0, .int ((μ a0 2) - 1)]) (st1 := [.int x2]) rfl (fun Q1 hq => ok_11_isIn e1 hq) rfl rfl (Nat.le_of_ble_eq_true rfl) (dd dt_9_hasPit 6 rfl) rfl ?_
  obtain ⟨_, q3, h⟩ := bi_el h
  obtain rfl := Option.some.inj h
  exact R_zret rfl (bo_narrow (gb_el q3).1) (dd dt_9_hasPit 7 rfl) hQ
/-! LongStrike.household(IIIII)I -/
def tab_11_household : List (Nat × Instr × Nat) := [(0, .aload_n 0, 1), (1, .getfield 10, 3), (4, .iload_n 1, 1), (5, .invokevirtual 96, 3), (8, .ifCond .eq 14, 3), (11, .aload_n 0, 1), (12, .getfield 10, 3), (15, .iload_n 2, 1), (16, .invokevirtual 129, 3), (19, .ifCond .ne 5, 3), (22, .iconst (-1), 1), (23, .ireturn, 1), (24, .iload_n 3, 1), (25, .iconst 1, 1), (26, .bipush 9, 2), (28, .invokestatic 83, 3), (31, .ifCond .eq 26, 3), (34, .iload 4, 2), (36, .iconst 0, 1), (37, .sipush 9999, 3), (40, .invokestatic 83, 3), (43, .ifCond .eq 14, 3), (46, .iload 5, 2), (48, .iconst 0, 1), (49, .bipush 99, 2), (51, .invokestatic 83, 3), (54, .ifCond .ne 5, 3), (57, .iconst (-1), 1), (58, .ireturn, 1), (59, .aload_n 0, 1), (60, .getfield 10, 3), (63, .getfield 132, 3), (66, .bipush 16, 2), (68, .if_icmp .lt 6, 3), (71, .bipush (-2), 2), (73, .ireturn, 1), (74, .aload_n 0, 1), (75, .getfield 10, 3), (78, .getfield 135, 3), (81, .aload_n 0, 1), (82, .getfield 10, 3), (85, .getfield 132, 3), (88, .aaload, 1), (89, .iload_n 1, 1), (90, .iload_n 2, 1), (91, .iload_n 3, 1), (92, .iload 4, 2), (94, .iload 5, 2), (96, .invokevirtual 139, 3), (99, .aload_n 0, 1), (100, .getfield 10, 3), (103, .dup, 1), (104, .getfield 132, 3), (107, .iconst 1, 1), (108, .iadd, 1), (109, .putfield 132, 3), (112, .aload_n 0, 1), (113, .getfield 10, 3), (116, .getfield 132, 3), (119, .iconst 1, 1), (120, .isub, 1), (121, .ireturn, 1)]
set_option maxRecDepth 100000 in
theorem dt_11_household : ∀ q ∈ tab_11_household, decode m_11_household.2.1 q.1 = .ok q.2 := by decide +kernel
def f_11_household (a0 : Nat) (a1 : Int32) (a2 : Int32) (a3 : Int32) (a4 : Int32) (a5 : Int32) (μ : mm) : Option (Int32 × mm) :=
  (f_9_hasVillage (rf a0 0) a1 μ).bind fun x2 =>
  if x2 = 0 then
    some ((-1), μ)
  else
    (f_9_hasPit (rf a0 0) a2 μ).bind fun x4 =>
    if x4 = 0 then
      some ((-1), μ)
    else
      (f_11_isIn a3 1 9 μ).bind fun x6 =>
      if x6 = 0 then
        some ((-1), μ)
      else
        (f_11_isIn a4 0 9999 μ).bind fun x8 =>
        if x8 = 0 then
          some ((-1), μ)
        else
          (f_11_isIn a5 0 99 μ).bind fun x10 =>
          if x10 = 0 then
            some ((-1), μ)
          else
            if (μ (rf a0 0) 4) < 16 then
              (lda (rf (rf a0 0) 10) (μ (rf a0 0) 4)).bind fun r11 =>
              (f_1_settle r11 a1 a2 a3 a4 a5 μ).bind fun μ14 =>
              (pf μ14 (rf a0 0) 4 ((μ14 (rf a0 0) 4) + 1)).bind fun μ15 =>
              some (((μ15 (rf a0 0) 4) - 1), μ15)
            else
              some ((-2), μ)
set_option maxRecDepth 100000 in
set_option maxHeartbeats 4000000 in
theorem ok_11_household {l : Launch} {E : ce} {d : Nat}  {a0 : Nat} {a1 : Int32} {a2 : Int32} {a3 : Int32} {a4 : Int32} {a5 : Int32} {μ : mm} {r : Int32 × mm} {Q : Option Value → mm → Prop} (h : f_11_household a0 a1 a2 a3 a4 a5 μ = some r) (k0 : kd a0 = 11) (hQ : Q (some (.int r.1)) r.2) : Ct l E (d + 2) yX11_household m_11_household [.ref a0, .int a1, .int a2, .int a3, .int a4, .int a5] μ Q := by
  refine Ct_of (lv := [some (.ref a0), some (.int a1), some (.int a2), some (.int a3), some (.int a4), some (.int a5)]) (by decide) rfl (Nat.le_of_ble_eq_true rfl) rfl ?_
  unfold f_11_household at h
  refine R_aload_n (dd dt_11_household 0 rfl) 0 rfl rfl ?_
  refine g_11_10 rfl k0 (dd dt_11_household 1 rfl) ?_
  refine R_iload_n (dd dt_11_household 2 rfl) 1 rfl rfl ?_
  obtain ⟨x2, e1, h⟩ := bi_el h
  refine c_11_96 (As := [.int a1]) (st1 := [.int x2]) rfl (fun Q1 hq => ok_9_hasVillage e1 (ty_11_0 k0) hq) (ty_11_0 k0) rfl rfl (Nat.le_of_ble_eq_true rfl) (dd dt_11_household 3 rfl) rfl ?_
  refine R_ifeq (dd dt_11_household 4 rfl) (tgt := 22) rfl (fun hc => ?_) (fun hc => ?_)
  · rw [if_pos hc] at h
    refine R_iconst (v := (-1)) (dd dt_11_household 10 rfl) ic_m1 ?_
    obtain rfl := Option.some.inj h
    exact R_iret rfl (dd dt_11_household 11 rfl) hQ
  · rw [if_neg hc] at h
    refine R_aload_n (dd dt_11_household 5 rfl) 0 rfl rfl ?_
    refine g_11_10 rfl k0 (dd dt_11_household 6 rfl) ?_
    refine R_iload_n (dd dt_11_household 7 rfl) 2 rfl rfl ?_
    obtain ⟨x4, e3, h⟩ := bi_el h
    refine c_11_129 (As := [.int a2]) (st1 := [.int x4]) rfl (fun Q1 hq => ok_9_hasPit e3 (ty_11_0 k0) hq) (ty_11_0 k0) rfl rfl (Nat.le_of_ble_eq_true rfl) (dd dt_11_household 8 rfl) rfl ?_
    refine R_ifne (dd dt_11_household 9 rfl) (tgt := 24) rfl (fun hc => ?_) (fun hc => ?_)
    · rw [if_neg hc] at h
      refine R_iload_n (dd dt_11_household 12 rfl) 3 rfl rfl ?_
      refine R_iconst (v := 1) (dd dt_11_household 13 rfl) ic_1 ?_
      refine R_bipush (v := 9) (dd dt_11_household 14 rfl) bp_9 ?_
      obtain ⟨x6, e5, h⟩ := bi_el h
      refine c_11_83 (As := [.int a3, .int 1, .int 9]) (st1 := [.int x6]) rfl (fun Q1 hq => ok_11_isIn e5 hq) rfl rfl (Nat.le_of_ble_eq_true rfl) (dd dt_11_household 15 rfl) rfl ?_
      refine R_ifeq (dd dt_11_household 16 rfl) (tgt := 57) rfl (fun hc => ?_) (fun hc => ?_)
      · rw [if_pos hc] at h
        refine R_iconst (v := (-1)) (dd dt_11_household 27 rfl) ic_m1 ?_
        obtain rfl := Option.some.inj h
        exact R_iret rfl (dd dt_11_household 28 rfl) hQ
      · rw [if_neg hc] at h
        refine R_iload (dd dt_11_household 17 rfl) rfl ?_
        refine R_iconst (v := 0) (dd dt_11_household 18 rfl) ic_0 ?_
        refine R_sipush (v := 9999) (dd dt_11_household 19 rfl) sp_9999 ?_
        obtain ⟨x8, e7, h⟩ := bi_el h
        refine c_11_83 (As := [.int a4, .int 0, .int 9999]) (st1 := [.int x8]) rfl (fun Q1 hq => ok_11_isIn e7 hq) rfl rfl (Nat.le_of_ble_eq_true rfl) (dd dt_11_household 20 rfl) rfl ?_
        refine R_ifeq (dd dt_11_household 21 rfl) (tgt := 57) rfl (fun hc => ?_) (fun hc => ?_)
        · rw [if_pos hc] at h
          refine R_iconst (v := (-1)) (dd dt_11_household 27 rfl) ic_m1 ?_
          obtain rfl := Option.some.inj h
          exact R_iret rfl (dd dt_11_household 28 rfl) hQ
        · rw [if_neg hc] at h
          refine R_iload (dd dt_11_household 22 rfl) rfl ?_
          refine R_iconst (v := 0) (dd dt_11_household 23 rfl) ic_0 ?_
          refine R_bipush (v := 99) (dd dt_11_household 24 rfl) bp_99 ?_
          obtain ⟨x10, e9, h⟩ := bi_el h
          refine c_11_83 (As := [.int a5, .int 0, .int 99]) (st1 := [.int x10]) rfl (fun Q1 hq => ok_11_isIn e9 hq) rfl rfl (Nat.le_of_ble_eq_true rfl) (dd dt_11_household 25 rfl) rfl ?_
          refine R_ifne (dd dt_11_household 26 rfl) (tgt := 59) rfl (fun hc => ?_) (fun hc => ?_)
          · rw [if_neg hc] at h
            refine R_aload_n (dd dt_11_household 29 rfl) 0 rfl rfl ?_
            refine g_11_10 rfl k0 (dd dt_11_household 30 rfl) ?_
            refine g_11_132 rfl (ty_11_0 k0) (dd dt_11_household 31 rfl) ?_
            refine R_bipush (v := 16) (dd dt_11_household 32 rfl) bp_16 ?_
            refine R_cmplt (dd dt_11_household 33 rfl) (tgt := 74) rfl (fun hc => ?_) (fun hc => ?_)
            · rw [if_pos hc] at h
              refine R_aload_n (dd dt_11_household 36 rfl) 0 rfl rfl ?_
              refine g_11_10 rfl k0 (dd dt_11_household 37 rfl) ?_
              refine g_11_135 rfl (ty_11_0 k0) (dd dt_11_household 38 rfl) ?_
              refine R_aload_n (dd dt_11_household 39 rfl) 0 rfl rfl ?_
              refine g_11_10 rfl k0 (dd dt_11_household 40 rfl) ?_
              refine g_11_132 rfl (ty_11_0 k0) (dd dt_11_household 41 rfl) ?_
              obtain ⟨r11, e12, h⟩ := bi_el h
              refine R_aald (t0 := 6) e12 (ty_9_10 (ty_11_0 k0)) (by decide) (by decide) rfl rfl (dd dt_11_household 42 rfl) ?_
              refine R_iload_n (dd dt_11_household 43 rfl) 1 rfl rfl ?_
              refine R_iload_n (dd dt_11_household 44 rfl) 2 rfl rfl ?_
              refine R_iload_n (dd dt_11_household 45 rfl) 3 rfl rfl ?_
              refine R_iload (dd dt_11_household 46 rfl) rfl ?_
              refine R_iload (dd dt_11_household 47 rfl) rfl ?_
              obtain ⟨μ14, e13, h⟩ := bi_el h
              refine c_11_139 (As := [.int a1, .int a2, .int a3, .int a4, .int a5]) (st1 := []) rfl (fun Q1 hq => ok_1_settle e13 (tl_26 e12 (ty_9_10 (ty_11_0 k0))) hq) (tl_26 e12 (ty_9_10 (ty_11_0 k0))) rfl rfl (Nat.le_of_ble_eq_true rfl) (dd dt_11_household 48 rfl) rfl ?_
              refine R_aload_n (dd dt_11_household 49 rfl) 0 rfl rfl ?_
              refine g_11_10 rfl k0 (dd dt_11_household 50 rfl) ?_
              refine R_dup (dd dt_11_household 51 rfl) rfl ?_
              refine g_11_132 rfl (ty_11_0 k0) (dd dt_11_household 52 rfl) ?_
              refine R_iconst (v := 1) (dd dt_11_household 53 rfl) ic_1 ?_
              refine R_iadd (dd dt_11_household 54 rfl) ?_
              obtain ⟨μ15, e16, h⟩ := bi_el h
              refine p_11_132 rfl (ty_11_0 k0) (dd dt_11_household 55 rfl) e16 ?_
              refine R_aload_n (dd dt_11_household 56 rfl) 0 rfl rfl ?_
              refine g_11_10 rfl k0 (dd dt_11_household 57 rfl) ?_
              refine g_11_132 rfl (ty_11_0 k0) (dd dt_11_household 58 rfl) ?_
              refine R_iconst (v := 1) (dd dt_11_household 59 rfl) ic_1 ?_
              refine R_isub (dd dt_11_household 60 rfl) ?_
              obtain rfl := Option.some.inj h
              exact R_iret rfl (dd dt_11_household 61 rfl) hQ
            · rw [if_neg hc] at h
              refine R_bipush (v := (-2)) (dd dt_11_household 34 rfl) bp_m2 ?_
              obtain rfl := Option.some.inj h
              exact R_iret rfl (dd dt_11_household 35 rfl) hQ
          · rw [if_pos hc] at h
            refine R_iconst (v := (-1)) (dd dt_11_household 27 rfl) ic_m1 ?_
            obtain rfl := Option.some.inj h
            exact R_iret rfl (dd dt_11_household 28 rfl) hQ
    · rw [if_pos hc] at h
      refine R_iconst (v := (-1)) (dd dt_11_household 10 rfl) ic_m1 ?_
      obtain rfl := Option.some.inj h
      exact R_iret rfl (dd dt_11_household 11 rfl) hQ
/-! LongStrike$Valley.hasHousehold(I)Z -/
def tab_9_hasHousehold : List (Nat × Instr × Nat) := [(0, .iload_n 1, 1), (1, .iconst 0, 1), (2, .aload_n 0, 1), (3, .getfield 24, 3), (6, .iconst 1, 1), (7, .isub, 1), (8, .invokestatic 142, 3), (11, .ireturn, 1)]
set_option maxRecDepth 100000 in
theorem dt_9_hasHousehold : ∀ q ∈ tab_9_hasHousehold, decode m_9_hasHousehold.2.1 q.1 = .ok q.2 := by decide +kernel
def f_9_hasHousehold (a0 : Nat) (a1 : Int32) (μ : mm) : Option (Int32) :=
  (f_11_isIn a1 0 ((μ a0 4) - 1) μ).bind fun x2 =>
  (gb x2).bind fun _ =>
  some x2
set_option maxRecDepth 100000 in
set_option maxHeartbeats 4000000 in
theorem ok_9_hasHousehold {l : Launch} {E : ce} {d : Nat}  {a0 : Nat} {a1 : Int32} {μ : mm} {r : Int32} {Q : Option Value → mm → Prop} (h : f_9_hasHousehold a0 a1 μ = some r) (k0 : kd a0 = 9) (hQ : Q (some (.int r)) μ) : Ct l E (d + 1) yX9_hasHousehold m_9_hasHousehold [.ref a0, .int a1] μ Q := by
  refine Ct_of (lv := [some (.ref a0), some (.int a1)]) (by decide) rfl (Nat.le_of_ble_eq_true rfl) rfl ?_
  unfold f_9_hasHousehold at h
  refine R_iload_n (dd dt_9_hasHousehold 0 rfl) 1 rfl rfl ?_
  refine R_iconst (v := 0) (dd dt_9_hasHousehold 1 rfl) ic_0 ?_
  refine R_aload_n (dd dt_9_hasHousehold 2 rfl) 0 rfl rfl ?_
  refine g_9_24 rfl k0 (dd dt_9_hasHousehold 3 rfl) ?_
  refine R_iconst (v := 1) (dd dt_9_hasHousehold 4 rfl) ic_1 ?_
  refine R_isub (dd dt_9_hasHousehold 5 rfl) ?_
  obtain ⟨x2, e1, h⟩ := bi_el h
  refine c_9_142 (As := [.int a1, .int 0, .int ((μ a0 4) - 1)]) (st1 := [.int x2]) rfl (fun Q1 hq => ok_11_isIn e1 hq) rfl rfl (Nat.le_of_ble_eq_true rfl) (dd dt_9_hasHousehold 6 rfl) rfl ?_
  obtain ⟨_, q3, h⟩ := bi_el h
  obtain rfl := Option.some.inj h
  exact R_zret rfl (bo_narrow (gb_el q3).1) (dd dt_9_hasHousehold 7 rfl) hQ
/-! LongStrike$Valley.mayVote(LLongStrike$Household;)Z -/
def tab_9_mayVote : List (Nat × Instr × Nat) := [(0, .aload_n 0, 1), (1, .getfield 59, 3), (4, .iconst 0, 1), (5, .aaload, 1), (6, .iconst 5, 1), (7, .invokevirtual 150, 3), (10, .iconst (-1), 1), (11, .if_icmp .eq 18, 3), (14, .aload_n 0, 1), (15, .getfield 59, 3), (18, .iconst 0, 1), (19, .aaload, 1), (20, .iconst 5, 1), (21, .aload_n 1, 1), (22, .invokevirtual 154, 3), (25, .iconst (-1), 1), (26, .if_icmp .eq 7, 3), (29, .iconst 1, 1), (30, .goto 4, 3), (33, .iconst 0, 1), (34, .ireturn, 1)]
set_option maxRecDepth 100000 in
theorem dt_9_mayVote : ∀ q ∈ tab_9_mayVote, decode m_9_mayVote.2.1 q.1 = .ok q.2 := by decide +kernel
def f_9_mayVote (a0 : Nat) (a1 : Nat) (μ : mm) : Option (Int32) :=
  (lda (rf a0 11) 0).bind fun r1 =>
  (f_5_firstOf r1 5 μ).bind fun x4 =>
  if x4 = (-1) then
    some 1
  else
    (lda (rf a0 11) 0).bind fun r5 =>
    (f_5_firstHolding r5 5 a1 μ).bind fun x8 =>
    if x8 = (-1) then
      some 0
    else
      some 1
set_option maxRecDepth 100000 in
set_option maxHeartbeats 4000000 in
theorem ok_9_mayVote {l : Launch} {E : ce} {d : Nat}  {a0 : Nat} {a1 : Nat} {μ : mm} {r : Int32} {Q : Option Value → mm → Prop} (h : f_9_mayVote a0 a1 μ = some r) (k0 : kd a0 = 9) (k1 : kd a1 = 1) (hQ : Q (some (.int r)) μ) : Ct l E (d + 3) yX9_mayVote m_9_mayVote [.ref a0, .ref a1] μ Q := by
  refine Ct_of (lv := [some (.ref a0), some (.ref a1)]) (by decide) rfl (Nat.le_of_ble_eq_true rfl) rfl ?_
  unfold f_9_mayVote at h
  refine R_aload_n (dd dt_9_mayVote 0 rfl) 0 rfl rfl ?_
  refine g_9_59 rfl k0 (dd dt_9_mayVote 1 rfl) ?_
  refine R_iconst (v := 0) (dd dt_9_mayVote 2 rfl) ic_0 ?_
  obtain ⟨r1, e2, h⟩ := bi_el h
  refine R_aald (t0 := 7) e2 (ty_9_11 k0) (by decide) (by decide) rfl rfl (dd dt_9_mayVote 3 rfl) ?_
  refine R_iconst (v := 5) (dd dt_9_mayVote 4 rfl) ic_5 ?_
  obtain ⟨x4, e3, h⟩ := bi_el h
  refine c_9_150 (As := [.int 5]) (st1 := [.int x4]) rfl (fun Q1 hq => ok_5_firstOf e3 (tl_27 e2 (ty_9_11 k0)) hq) (tl_27 e2 (ty_9_11 k0)) rfl rfl (Nat.le_of_ble_eq_true rfl) (dd dt_9_mayVote 5 rfl) rfl ?_
  refine R_iconst (v := (-1)) (dd dt_9_mayVote 6 rfl) ic_m1 ?_
  refine R_cmpeq (dd dt_9_mayVote 7 rfl) (tgt := 29) rfl (fun hc => ?_) (fun hc => ?_)
  · rw [if_pos hc] at h
    refine R_iconst (v := 1) (dd dt_9_mayVote 17 rfl) ic_1 ?_
    refine R_goto (dd dt_9_mayVote 18 rfl) (tgt := 34) rfl ?_
    obtain rfl := Option.some.inj h
    exact R_zret rfl (by decide) (dd dt_9_mayVote 20 rfl) hQ
  · rw [if_neg hc] at h
    refine R_aload_n (dd dt_9_mayVote 8 rfl) 0 rfl rfl ?_
    refine g_9_59 rfl k0 (dd dt_9_mayVote 9 rfl) ?_
    refine R_iconst (v := 0) (dd dt_9_mayVote 10 rfl) ic_0 ?_
    obtain ⟨r5, e6, h⟩ := bi_el h
    refine R_aald (t0 := 7) e6 (ty_9_11 k0) (by decide) (by decide) rfl rfl (dd dt_9_mayVote 11 rfl) ?_
    refine R_iconst (v := 5) (dd dt_9_mayVote 12 rfl) ic_5 ?_
    refine R_aload_n (dd dt_9_mayVote 13 rfl) 1 rfl rfl ?_
    obtain ⟨x8, e7, h⟩ := bi_el h
    refine c_9_154 (As := [.int 5, .ref a1]) (st1 := [.int x8]) rfl (fun Q1 hq => ok_5_firstHolding e7 (tl_27 e6 (ty_9_11 k0)) k1 hq) (tl_27 e6 (ty_9_11 k0)) rfl rfl (Nat.le_of_ble_eq_true rfl) (dd dt_9_mayVote 14 rfl) rfl ?_
    refine R_iconst (v := (-1)) (dd dt_9_mayVote 15 rfl) ic_m1 ?_
    refine R_cmpeq (dd dt_9_mayVote 16 rfl) (tgt := 33) rfl (fun hc => ?_) (fun hc => ?_)
    · rw [if_pos hc] at h
      refine R_iconst (v := 0) (dd dt_9_mayVote 19 rfl) ic_0 ?_
      obtain rfl := Option.some.inj h
      exact R_zret rfl (by decide) (dd dt_9_mayVote 20 rfl) hQ
    · rw [if_neg hc] at h
      refine R_iconst (v := 1) (dd dt_9_mayVote 17 rfl) ic_1 ?_
      refine R_goto (dd dt_9_mayVote 18 rfl) (tgt := 34) rfl ?_
      obtain rfl := Option.some.inj h
      exact R_zret rfl (by decide) (dd dt_9_mayVote 20 rfl) hQ
/-! LongStrike$Valley.rankOf(LLongStrike$Household;)I -/
def tab_9_rankOf : List (Nat × Instr × Nat) := [(0, .aload_n 0, 1), (1, .getfield 59, 3), (4, .iconst 0, 1), (5, .aaload, 1), (6, .iconst 1, 1), (7, .aload_n 1, 1), (8, .bipush 9, 2), (10, .invokevirtual 146, 3), (13, .ireturn, 1)]
set_option maxRecDepth 100000 in
theorem dt_9_rankOf : ∀ q ∈ tab_9_rankOf, decode m_9_rankOf.2.1 q.1 = .ok q.2 := by decide +kernel
def f_9_rankOf (a0 : Nat) (a1 : Nat) (μ : mm) : Option (Int32) :=
  (lda (rf a0 11) 0).bind fun r1 =>
  (f_5_numberFor r1 1 a1 9 μ).bind fun x4 =>
  some x4
set_option maxRecDepth 100000 in
set_option maxHeartbeats 4000000 in
theorem ok_9_rankOf {l : Launch} {E : ce} {d : Nat}  {a0 : Nat} {a1 : Nat} {μ : mm} {r : Int32} {Q : Option Value → mm → Prop} (h : f_9_rankOf a0 a1 μ = some r) (k0 : kd a0 = 9) (k1 : kd a1 = 1) (hQ : Q (some (.int r)) μ) : Ct l E (d + 4) yX9_rankOf m_9_rankOf [.ref a0, .ref a1] μ Q := by
  refine Ct_of (lv := [some (.ref a0), some (.ref a1)]) (by decide) rfl (Nat.le_of_ble_eq_true rfl) rfl ?_
  unfold f_9_rankOf at h
  refine R_aload_n (dd dt_9_rankOf 0 rfl) 0 rfl rfl ?_
  refine g_9_59 rfl k0 (dd dt_9_rankOf 1 rfl) ?_
  refine R_iconst (v := 0) (dd dt_9_rankOf 2 rfl) ic_0 ?_
  obtain ⟨r1, e2, h⟩ := bi_el h
  refine R_aald (t0 := 7) e2 (ty_9_11 k0) (by decide) (by decide) rfl rfl (dd dt_9_rankOf 3 rfl) ?_
  refine R_iconst (v := 1) (dd dt_9_rankOf 4 rfl) ic_1 ?_
  refine R_aload_n (dd dt_9_rankOf 5 rfl) 1 rfl rfl ?_
  refine R_bipush (v := 9) (dd dt_9_rankOf 6 rfl) bp_9 ?_
  obtain ⟨x4, e3, h⟩ := bi_el h
  refine c_9_146 (As := [.int 1, .ref a1, .int 9]) (st1 := [.int x4]) rfl (fun Q1 hq => ok_5_numberFor e3 (tl_27 e2 (ty_9_11 k0)) k1 hq) (tl_27 e2 (ty_9_11 k0)) rfl rfl (Nat.le_of_ble_eq_true rfl) (dd dt_9_rankOf 7 rfl) rfl ?_
  obtain rfl := Option.some.inj h
  exact R_iret rfl (dd dt_9_rankOf 8 rfl) hQ
/-! LongStrike$Valley.ticketOf(LLongStrike$Household;)I -/
def tab_9_ticketOf : List (Nat × Instr × Nat) := [(0, .aload_n 0, 1), (1, .getfield 59, 3), (4, .iconst 0, 1), (5, .aaload, 1), (6, .iconst 0, 1), (7, .aload_n 1, 1), (8, .iconst 0, 1), (9, .invokevirtual 146, 3), (12, .ireturn, 1)]
set_option maxRecDepth 100000 in
theorem dt_9_ticketOf : ∀ q ∈ tab_9_ticketOf, decode m_9_ticketOf.2.1 q.1 = .ok q.2 := by decide +kernel
def f_9_ticketOf (a0 : Nat) (a1 : Nat) (μ : mm) : Option (Int32) :=
  (lda (rf a0 11) 0).bind fun r1 =>
  (f_5_numberFor r1 0 a1 0 μ).bind fun x4 =>
  some x4
set_option maxRecDepth 100000 in
set_option maxHeartbeats 4000000 in
theorem ok_9_ticketOf {l : Launch} {E : ce} {d : Nat}  {a0 : Nat} {a1 : Nat} {μ : mm} {r : Int32} {Q : Option Value → mm → Prop} (h : f_9_ticketOf a0 a1 μ = some r) (k0 : kd a0 = 9) (k1 : kd a1 = 1) (hQ : Q (some (.int r)) μ) : Ct l E (d + 4) yX9_ticketOf m_9_ticketOf [.ref a0, .ref a1] μ Q := by
  refine Ct_of (lv := [some (.ref a0), some (.ref a1)]) (by decide) rfl (Nat.le_of_ble_eq_true rfl) rfl ?_
  unfold f_9_ticketOf at h
  refine R_aload_n (dd dt_9_ticketOf 0 rfl) 0 rfl rfl ?_
  refine g_9_59 rfl k0 (dd dt_9_ticketOf 1 rfl) ?_
  refine R_iconst (v := 0) (dd dt_9_ticketOf 2 rfl) ic_0 ?_
  obtain ⟨r1, e2, h⟩ := bi_el h
  refine R_aald (t0 := 7) e2 (ty_9_11 k0) (by decide) (by decide) rfl rfl (dd dt_9_ticketOf 3 rfl) ?_
  refine R_iconst (v := 0) (dd dt_9_ticketOf 4 rfl) ic_0 ?_
  refine R_aload_n (dd dt_9_ticketOf 5 rfl) 1 rfl rfl ?_
  refine R_iconst (v := 0) (dd dt_9_ticketOf 6 rfl) ic_0 ?_
  obtain ⟨x4, e3, h⟩ := bi_el h
  refine c_9_146 (As := [.int 0, .ref a1, .int 0]) (st1 := [.int x4]) rfl (fun Q1 hq => ok_5_numberFor e3 (tl_27 e2 (ty_9_11 k0)) k1 hq) (tl_27 e2 (ty_9_11 k0)) rfl rfl (Nat.le_of_ble_eq_true rfl) (dd dt_9_ticketOf 7 rfl) rfl ?_
  obtain rfl := Option.some.inj h
  exact R_iret rfl (dd dt_9_ticketOf 8 rfl) hQ
