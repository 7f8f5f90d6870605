/-! LongStrikeModel.heardNow(I)I -/
def tab_12_heardNow : List (Nat × Instr × Nat) := [(0, .iconst 0, 1), (1, .istore_n 2, 1), (2, .iconst 0, 1), (3, .istore_n 3, 1), (4, .iload_n 3, 1), (5, .aload_n 0, 1), (6, .getfield 9, 3), (9, .bipush 12, 2), (11, .iaload, 1), (12, .if_icmp .ge 75, 3), (15, .aload_n 0, 1), (16, .iload_n 1, 1), (17, .bipush 11, 2), (19, .invokevirtual 98, 3), (22, .ifCond .ne 65, 3), (25, .iload_n 2, 1), (26, .aload_n 0, 1), (27, .getfield 9, 3), (30, .sipush 771, 3), (33, .iconst 3, 1), (34, .iload_n 3, 1), (35, .imul, 1), (36, .iadd, 1), (37, .iconst 1, 1), (38, .iadd, 1), (39, .iaload, 1), (40, .aload_n 0, 1), (41, .iload_n 3, 1), (42, .aload_n 0, 1), (43, .iload_n 1, 1), (44, .iconst 0, 1), (45, .invokevirtual 98, 3), (48, .invokevirtual 237, 3), (51, .iadd, 1), (52, .aload_n 0, 1), (53, .getfield 9, 3), (56, .iconst 0, 1), (57, .iaload, 1), (58, .if_icmp .ne 20, 3), (61, .aload_n 0, 1), (62, .getfield 9, 3), (65, .sipush 771, 3), (68, .iconst 3, 1), (69, .iload_n 3, 1), (70, .imul, 1), (71, .iadd, 1), (72, .iconst 2, 1), (73, .iadd, 1), (74, .iaload, 1), (75, .goto 4, 3), (78, .iconst 0, 1), (79, .iadd, 1), (80, .istore_n 2, 1), (81, .iinc 3 1, 3), (84, .goto (-80), 3), (87, .iload_n 2, 1), (88, .ireturn, 1)]
set_option maxRecDepth 100000 in
theorem dt_12_heardNow : ∀ q ∈ tab_12_heardNow, decode m_12_heardNow.2.1 q.1 = .ok q.2 := by decide +kernel
def f_12_heardNow_l4 (a0 : Nat) (a1 : Int32) (μ : mm) : Nat → Int32 → Int32 → Option (Int32)
  | 0, _, _ => none
  | n + 1, v2, v3 => (ld μ (rf a0 0) 12).bind fun x1 =>
    if x1 ≤ v3 then
      some v2
    else
      (f_12_house a0 a1 11 μ).bind fun x4 =>
      if x4 = 0 then
        (ld μ (rf a0 0) ((771 + (3 * v3)) + 1)).bind fun x5 =>
        (f_12_house a0 a1 0 μ).bind fun x8 =>
        (f_12_wayOfNews a0 v3 x8 μ).bind fun x10 =>
        (ld μ (rf a0 0) 0).bind fun x11 =>
        if (x5 + x10) = x11 then
          (ld μ (rf a0 0) ((771 + (3 * v3)) + 2)).bind fun x13 =>
          f_12_heardNow_l4 a0 a1 μ n (v2 + x13) (v3 + 1)
        else
          f_12_heardNow_l4 a0 a1 μ n (v2 + 0) (v3 + 1)
      else
        some v2
set_option maxRecDepth 100000 in
theorem ok_12_heardNow_l4 {l : Launch} {E : ce} {d : Nat} {Q : Option Value → mm → Prop} (a0 : Nat) (a1 : Int32) (μ : mm) (k0 : kd a0 = 12) : ∀ (n : Nat) (v2 : Int32) (v3 : Int32) (z : Int32), f_12_heardNow_l4 a0 a1 μ n v2 v3 = some z → Rj l E (d + 2) m_12_heardNow 87 [none, none, some (.int z), none] [] μ Q → Rj l E (d + 2) m_12_heardNow 4 [some (.ref a0), some (.int a1), some (.int v2), some (.int v3)] [] μ Q
  | 0, _, _, z, h, _ => by
    rw [f_12_heardNow_l4] at h
    cases h
  | n + 1, v2, v3, z, h, KX => by
    rw [f_12_heardNow_l4] at h
    refine R_iload_n (dd dt_12_heardNow 4 rfl) 3 rfl rfl ?_
    refine R_aload_n (dd dt_12_heardNow 5 rfl) 0 rfl rfl ?_
    refine g_12_9 rfl k0 (dd dt_12_heardNow 6 rfl) ?_
    refine R_bipush (v := 12) (dd dt_12_heardNow 7 rfl) bp_12 ?_
    obtain ⟨x1, e2, h⟩ := bi_el h
    refine R_ild e2 (ty_12_0 k0) (dd dt_12_heardNow 8 rfl) ?_
    refine R_cmpge (dd dt_12_heardNow 9 rfl) (tgt := 87) rfl (fun hc => ?_) (fun hc => ?_)
    · rw [if_pos hc] at h
      obtain rfl := Option.some.inj h
      exact R_mask [false, false, true, false] rfl KX
    · rw [if_neg hc] at h
      refine R_aload_n (dd dt_12_heardNow 10 rfl) 0 rfl rfl ?_
      refine R_iload_n (dd dt_12_heardNow 11 rfl) 1 rfl rfl ?_
      refine R_bipush (v := 11) (dd dt_12_heardNow 12 rfl) bp_11 ?_
      obtain ⟨x4, e3, h⟩ := bi_el h
      refine c_12_98 (As := [.int a1, .int 11]) (st1 := [.int x4]) rfl (fun Q1 hq => ok_12_house e3 k0 hq) k0 rfl rfl (Nat.le_of_ble_eq_true rfl) (dd dt_12_heardNow 13 rfl) rfl ?_
      refine R_ifne (dd dt_12_heardNow 14 rfl) (tgt := 87) rfl (fun hc => ?_) (fun hc => ?_)
      · rw [if_neg hc] at h
        obtain rfl := Option.some.inj h
        exact R_mask [false, false, true, false] rfl KX
      · rw [if_pos hc] at h
        refine R_iload_n (dd dt_12_heardNow 15 rfl) 2 rfl rfl ?_
        refine R_aload_n (dd dt_12_heardNow 16 rfl) 0 rfl rfl ?_
        refine g_12_9 rfl k0 (dd dt_12_heardNow 17 rfl) ?_
        refine R_sipush (v := 771) (dd dt_12_heardNow 18 rfl) sp_771 ?_
        refine R_iconst (v := 3) (dd dt_12_heardNow 19 rfl) ic_3 ?_
        refine R_iload_n (dd dt_12_heardNow 20 rfl) 3 rfl rfl ?_
        refine R_imul (dd dt_12_heardNow 21 rfl) ?_
        refine R_iadd (dd dt_12_heardNow 22 rfl) ?_
        refine R_iconst (v := 1) (dd dt_12_heardNow 23 rfl) ic_1 ?_
        refine R_iadd (dd dt_12_heardNow 24 rfl) ?_
        obtain ⟨x5, e6, h⟩ := bi_el h
        refine R_ild e6 (ty_12_0 k0) (dd dt_12_heardNow 25 rfl) ?_
        refine R_aload_n (dd dt_12_heardNow 26 rfl) 0 rfl rfl ?_
        refine R_iload_n (dd dt_12_heardNow 27 rfl) 3 rfl rfl ?_
        refine R_aload_n (dd dt_12_heardNow 28 rfl) 0 rfl rfl ?_
        refine R_iload_n (dd dt_12_heardNow 29 rfl) 1 rfl rfl ?_
        refine R_iconst (v := 0) (dd dt_12_heardNow 30 rfl) ic_0 ?_
        obtain ⟨x8, e7, h⟩ := bi_el h
        refine c_12_98 (As := [.int a1, .int 0]) (st1 := [.int x8, .int v3, .ref a0, .int x5, .int v2]) rfl (fun Q1 hq => ok_12_house e7 k0 hq) k0 rfl rfl (Nat.le_of_ble_eq_true rfl) (dd dt_12_heardNow 31 rfl) rfl ?_
        obtain ⟨x10, e9, h⟩ := bi_el h
        refine c_12_237 (As := [.int v3, .int x8]) (st1 := [.int x10, .int x5, .int v2]) rfl (fun Q1 hq => ok_12_wayOfNews e9 k0 hq) k0 rfl rfl (Nat.le_of_ble_eq_true rfl) (dd dt_12_heardNow 32 rfl) rfl ?_
        refine R_iadd (dd dt_12_heardNow 33 rfl) ?_
        refine R_aload_n (dd dt_12_heardNow 34 rfl) 0 rfl rfl ?_
        refine g_12_9 rfl k0 (dd dt_12_heardNow 35 rfl) ?_
        refine R_iconst (v := 0) (dd dt_12_heardNow 36 rfl) ic_0 ?_
        obtain ⟨x11, e12, h⟩ := bi_el h
        refine R_ild e12 (ty_12_0 k0) (dd dt_12_heardNow 37 rfl) ?_
        refine R_cmpne (dd dt_12_heardNow 38 rfl) (tgt := 78) rfl (fun hc => ?_) (fun hc => ?_)
        · rw [if_neg hc] at h
          refine R_iconst (v := 0) (dd dt_12_heardNow 50 rfl) ic_0 ?_
          refine R_iadd (dd dt_12_heardNow 51 rfl) ?_
          refine R_istore_n (lv' := [some (.ref a0), some (.int a1), some (.int (v2 + 0)), some (.int v3)]) (dd dt_12_heardNow 52 rfl) 2 rfl (by decide) rfl rfl ?_
          refine R_iinc (v := 1) (lv' := [some (.ref a0), some (.int a1), some (.int (v2 + 0)), some (.int (v3 + 1))]) (dd dt_12_heardNow 53 rfl) (by decide) rfl rfl ic_1 rfl ?_
          refine R_goto (dd dt_12_heardNow 54 rfl) (tgt := 4) rfl ?_
          exact R_mask [true, true, true, true] rfl (ok_12_heardNow_l4 a0 a1 μ k0 n (v2 + 0) (v3 + 1) _ h KX)
        · rw [if_pos hc] at h
          refine R_aload_n (dd dt_12_heardNow 39 rfl) 0 rfl rfl ?_
          refine g_12_9 rfl k0 (dd dt_12_heardNow 40 rfl) ?_
          refine R_sipush (v := 771) (dd dt_12_heardNow 41 rfl) sp_771 ?_
          refine R_iconst (v := 3) (dd dt_12_heardNow 42 rfl) ic_3 ?_
          refine R_iload_n (dd dt_12_heardNow 43 rfl) 3 rfl rfl ?_
          refine R_imul (dd dt_12_heardNow 44 rfl) ?_
          refine R_iadd (dd dt_12_heardNow 45 rfl) ?_
          refine R_iconst (v := 2) (dd dt_12_heardNow 46 rfl) ic_2 ?_
          refine R_iadd (dd dt_12_heardNow 47 rfl) ?_
          obtain ⟨x13, e14, h⟩ := bi_el h
          refine R_ild e14 (ty_12_0 k0) (dd dt_12_heardNow 48 rfl) ?_
          refine R_goto (dd dt_12_heardNow 49 rfl) (tgt := 79) rfl ?_
          refine R_iadd (dd dt_12_heardNow 51 rfl) ?_
          refine R_istore_n (lv' := [some (.ref a0), some (.int a1), some (.int (v2 + x13)), some (.int v3)]) (dd dt_12_heardNow 52 rfl) 2 rfl (by decide) rfl rfl ?_
          refine R_iinc (v := 1) (lv' := [some (.ref a0), some (.int a1), some (.int (v2 + x13)), some (.int (v3 + 1))]) (dd dt_12_heardNow 53 rfl) (by decide) rfl rfl ic_1 rfl ?_
          refine R_goto (dd dt_12_heardNow 54 rfl) (tgt := 4) rfl ?_
          exact R_mask [true, true, true, true] rfl (ok_12_heardNow_l4 a0 a1 μ k0 n (v2 + x13) (v3 + 1) _ h KX)
def f_12_heardNow (a0 : Nat) (a1 : Int32) (μ : mm) : Option (Int32) :=
  (f_12_heardNow_l4 a0 a1 μ FU 0 0).bind fun z1 =>
  some z1
set_option maxRecDepth 100000 in
set_option maxHeartbeats 4000000 in
theorem ok_12_heardNow {l : Launch} {E : ce} {d : Nat}  {a0 : Nat} {a1 : Int32} {μ : mm} {r : Int32} {Q : Option Value → mm → Prop} (h : f_12_heardNow a0 a1 μ = some r) (k0 : kd a0 = 12) (hQ : Q (some (.int r)) μ) : Ct l E (d + 2) yX12_heardNow m_12_heardNow [.ref a0, .int a1] μ Q := by
  refine Ct_of (lv := [some (.ref a0), some (.int a1), none, none]) (by decide) rfl (Nat.le_of_ble_eq_true rfl) rfl ?_
  unfold f_12_heardNow at h
  refine R_iconst (v := 0) (dd dt_12_heardNow 0 rfl) ic_0 ?_
  refine R_istore_n (lv' := [some (.ref a0), some (.int a1), some (.int 0), none]) (dd dt_12_heardNow 1 rfl) 2 rfl (by decide) rfl rfl ?_
  refine R_iconst (v := 0) (dd dt_12_heardNow 2 rfl) ic_0 ?_
  refine R_istore_n (lv' := [some (.ref a0), some (.int a1), some (.int 0), some (.int 0)]) (dd dt_12_heardNow 3 rfl) 3 rfl (by decide) rfl rfl ?_
  obtain ⟨z1, e2, h⟩ := bi_el h
  refine R_mask [true, true, true, true] rfl (ok_12_heardNow_l4 a0 a1 μ k0 FU 0 0 _ e2 ?_)
  refine R_iload_n (dd dt_12_heardNow 55 rfl) 2 rfl rfl ?_
  obtain rfl := Option.some.inj h
  exact R_iret rfl (dd dt_12_heardNow 56 rfl) hQ
/-! LongStrikeModel.lent(II)I -/
def tab_12_lent : List (Nat × Instr × Nat) := [(0, .iload_n 2, 1), (1, .istore_n 3, 1), (2, .iconst 0, 1), (3, .istore 4, 2), (5, .iload 4, 2), (7, .aload_n 0, 1), (8, .getfield 9, 3), (11, .bipush 10, 2), (13, .iaload, 1), (14, .if_icmp .ge 87, 3), (17, .aload_n 0, 1), (18, .getfield 9, 3), (21, .iload 4, 2), (23, .iconst 1, 1), (24, .invokestatic 95, 3), (27, .iaload, 1), (28, .aload_n 0, 1), (29, .getfield 9, 3), (32, .iload 4, 2), (34, .iconst 2, 1), (35, .invokestatic 95, 3), (38, .iaload, 1), (39, .isub, 1), (40, .istore 5, 2), (42, .aload_n 0, 1), (43, .getfield 9, 3), (46, .iload 4, 2), (48, .iconst 0, 1), (49, .invokestatic 95, 3), (52, .iaload, 1), (53, .aload_n 0, 1), (54, .iload_n 1, 1), (55, .iconst 0, 1), (56, .invokevirtual 98, 3), (59, .if_icmp .ne 12, 3), (62, .iload_n 3, 1), (63, .iload 5, 2), (65, .invokestatic 127, 3), (68, .goto 4, 3), (71, .iconst 0, 1), (72, .istore 6, 2), (74, .aload_n 0, 1), (75, .getfield 9, 3), (78, .iload 4, 2), (80, .iconst 2, 1), (81, .invokestatic 95, 3), (84, .dup2, 1), (85, .iaload, 1), (86, .iload 6, 2), (88, .iadd, 1), (89, .iastore, 1), (90, .iload_n 3, 1), (91, .iload 6, 2), (93, .isub, 1), (94, .istore_n 3, 1), (95, .iinc 4 1, 3), (98, .goto (-93), 3), (101, .iload_n 2, 1), (102, .iload_n 3, 1), (103, .isub, 1), (104, .ireturn, 1)]
set_option maxRecDepth 100000 in
theorem dt_12_lent : ∀ q ∈ tab_12_lent, decode m_12_lent.2.1 q.1 = .ok q.2 := by decide +kernel
def f_12_lent_l5 (a0 : Nat) (a1 : Int32) (a2 : Int32) : Nat → Int32 → Int32 → mm → Option (Int32 × mm)
  | 0, _, _, _ => none
  | n + 1, v3, v4, μ => (ld μ (rf a0 0) 10).bind fun x1 =>
    if x1 ≤ v4 then
      some (v3, μ)
    else
      (f_12_ofShop v4 1 μ).bind fun x4 =>
      (ld μ (rf a0 0) x4).bind fun x5 =>
      (f_12_ofShop v4 2 μ).bind fun x8 =>
      (ld μ (rf a0 0) x8).bind fun x9 =>
      (f_12_ofShop v4 0 μ).bind fun x12 =>
      (ld μ (rf a0 0) x12).bind fun x13 =>
      (f_12_house a0 a1 0 μ).bind fun x16 =>
      (if x13 = x16 then
          some (mn v3 (x5 - x9))
        else
          some 0).bind fun (z17 : Int32) =>
      (f_12_ofShop v4 2 μ).bind fun x19 =>
      (ld μ (rf a0 0) x19).bind fun x20 =>
      (sto μ (rf a0 0) x19 (x20 + z17)).bind fun μ22 =>
      f_12_lent_l5 a0 a1 a2 n (v3 - z17) (v4 + 1) μ22
set_option maxRecDepth 100000 in
theorem ok_12_lent_l5 {l : Launch} {E : ce} {d : Nat} {Q : Option Value → mm → Prop} (a0 : Nat) (a1 : Int32) (a2 : Int32) (k0 : kd a0 = 12) : ∀ (n : Nat) (v3 : Int32) (v4 : Int32) (μ : mm) (z : Int32 × mm), f_12_lent_l5 a0 a1 a2 n v3 v4 μ = some z → Rj l E (d + 1) m_12_lent 101 [none, none, some (.int a2), some (.int z.1), none, none, none] [] z.2 Q → Rj l E (d + 1) m_12_lent 5 [some (.ref a0), some (.int a1), some (.int a2), some (.int v3), some (.int v4), none, none] [] μ Q
  | 0, _, _, _, z, h, _ => by
    rw [f_12_lent_l5] at h
    cases h
  | n + 1, v3, v4, μ, z, h, KX => by
    rw [f_12_lent_l5] at h
    refine R_iload (dd dt_12_lent 4 rfl) rfl ?_
    refine R_aload_n (dd dt_12_lent 5 rfl) 0 rfl rfl ?_
    refine g_12_9 rfl k0 (dd dt_12_lent 6 rfl) ?_
    refine R_bipush (v := 10) (dd dt_12_lent 7 rfl) bp_10 ?_
    obtain ⟨x1, e2, h⟩ := bi_el h
    refine R_ild e2 (ty_12_0 k0) (dd dt_12_lent 8 rfl) ?_
    refine R_cmpge (dd dt_12_lent 9 rfl) (tgt := 101) rfl (fun hc => ?_) (fun hc => ?_)
    · rw [if_pos hc] at h
      obtain rfl := Option.some.inj h
      exact R_mask [false, false, true, true, false, false, false] rfl KX
    · rw [if_neg hc] at h
      refine R_aload_n (dd dt_12_lent 10 rfl) 0 rfl rfl ?_
      refine g_12_9 rfl k0 (dd dt_12_lent 11 rfl) ?_
      refine R_iload (dd dt_12_lent 12 rfl) rfl ?_
      refine R_iconst (v := 1) (dd dt_12_lent 13 rfl) ic_1 ?_
      obtain ⟨x4, e3, h⟩ := bi_el h
      refine c_12_95 (As := [.int v4, .int 1]) (st1 := [.int x4, .ref (rf a0 0)]) rfl (fun Q1 hq => ok_12_ofShop e3 hq) rfl rfl (Nat.le_of_ble_eq_true rfl) (dd dt_12_lent 14 rfl) rfl ?_
      obtain ⟨x5, e6, h⟩ := bi_el h
      refine R_ild e6 (ty_12_0 k0) (dd dt_12_lent 15 rfl) ?_
      refine R_aload_n (dd dt_12_lent 16 rfl) 0 rfl rfl ?_
      refine g_12_9 rfl k0 (dd dt_12_lent 17 rfl) ?_
      refine R_iload (dd dt_12_lent 18 rfl) rfl ?_
      refine R_iconst (v := 2) (dd dt_12_lent 19 rfl) ic_2 ?_
      obtain ⟨x8, e7, h⟩ := bi_el h
      refine c_12_95 (As := [.int v4, .int 2]) (st1 := [.int x8, .ref (rf a0 0), .int x5]) rfl (fun Q1 hq => ok_12_ofShop e7 hq) rfl rfl (Nat.le_of_ble_eq_true rfl) (dd dt_12_lent 20 rfl) rfl ?_
      obtain ⟨x9, e10, h⟩ := bi_el h
      refine R_ild e10 (ty_12_0 k0) (dd dt_12_lent 21 rfl) ?_
      refine R_isub (dd dt_12_lent 22 rfl) ?_
      refine R_istore (lv' := [some (.ref a0), some (.int a1), some (.int a2), some (.int v3), some (.int v4), some (.int (x5 - x9)), none]) (dd dt_12_lent 23 rfl) (by decide) rfl rfl ?_
      refine R_aload_n (dd dt_12_lent 24 rfl) 0 rfl rfl ?_
      refine g_12_9 rfl k0 (dd dt_12_lent 25 rfl) ?_
      refine R_iload (dd dt_12_lent 26 rfl) rfl ?_
      refine R_iconst (v := 0) (dd dt_12_lent 27 rfl) ic_0 ?_
      obtain ⟨x12, e11, h⟩ := bi_el h
      refine c_12_95 (As := [.int v4, .int 0]) (st1 := [.int x12, .ref (rf a0 0)]) rfl (fun Q1 hq => ok_12_ofShop e11 hq) rfl rfl (Nat.le_of_ble_eq_true rfl) (dd dt_12_lent 28 rfl) rfl ?_
      obtain ⟨x13, e14, h⟩ := bi_el h
      refine R_ild e14 (ty_12_0 k0) (dd dt_12_lent 29 rfl) ?_
      refine R_aload_n (dd dt_12_lent 30 rfl) 0 rfl rfl ?_
      refine R_iload_n (dd dt_12_lent 31 rfl) 1 rfl rfl ?_
      refine R_iconst (v := 0) (dd dt_12_lent 32 rfl) ic_0 ?_
      obtain ⟨x16, e15, h⟩ := bi_el h
      refine c_12_98 (As := [.int a1, .int 0]) (st1 := [.int x16, .int x13]) rfl (fun Q1 hq => ok_12_house e15 k0 hq) k0 rfl rfl (Nat.le_of_ble_eq_true rfl) (dd dt_12_lent 33 rfl) rfl ?_
      obtain ⟨z17, hz17, h⟩ := bi_el h
      have K17 : Rj l E (d + 1) m_12_lent 72 [some (.ref a0), some (.int a1), some (.int a2), some (.int v3), some (.int v4), none, none] [.int z17] μ Q := by
        clear hz17
        refine R_istore (lv' := [some (.ref a0), some (.int a1), some (.int a2), some (.int v3), some (.int v4), none, some (.int z17)]) (dd dt_12_lent 40 rfl) (by decide) rfl rfl ?_
        refine R_aload_n (dd dt_12_lent 41 rfl) 0 rfl rfl ?_
        refine g_12_9 rfl k0 (dd dt_12_lent 42 rfl) ?_
        refine R_iload (dd dt_12_lent 43 rfl) rfl ?_
        refine R_iconst (v := 2) (dd dt_12_lent 44 rfl) ic_2 ?_
        obtain ⟨x19, e18, h⟩ := bi_el h
        refine c_12_95 (As := [.int v4, .int 2]) (st1 := [.int x19, .ref (rf a0 0)]) rfl (fun Q1 hq => ok_12_ofShop e18 hq) rfl rfl (Nat.le_of_ble_eq_true rfl) (dd dt_12_lent 45 rfl) rfl ?_
        refine R_dup2 (dd dt_12_lent 46 rfl) rfl rfl ?_
        obtain ⟨x20, e21, h⟩ := bi_el h
        refine R_ild e21 (ty_12_0 k0) (dd dt_12_lent 47 rfl) ?_
        refine R_iload (dd dt_12_lent 48 rfl) rfl ?_
        refine R_iadd (dd dt_12_lent 49 rfl) ?_
        obtain ⟨μ22, e23, h⟩ := bi_el h
        refine R_isto e23 (ty_12_0 k0) (dd dt_12_lent 50 rfl) ?_
        refine R_iload_n (dd dt_12_lent 51 rfl) 3 rfl rfl ?_
        refine R_iload (dd dt_12_lent 52 rfl) rfl ?_
        refine R_isub (dd dt_12_lent 53 rfl) ?_
        refine R_istore_n (lv' := [some (.ref a0), some (.int a1), some (.int a2), some (.int (v3 - z17)), some (.int v4), none, some (.int z17)]) (dd dt_12_lent 54 rfl) 3 rfl (by decide) rfl rfl ?_
        refine R_iinc (v := 1) (lv' := [some (.ref a0), some (.int a1), some (.int a2), some (.int (v3 - z17)), some (.int (v4 + 1)), none, some (.int z17)]) (dd dt_12_lent 55 rfl) (by decide) rfl rfl ic_1 rfl ?_
        refine R_goto (dd dt_12_lent 56 rfl) (tgt := 5) rfl ?_
        exact R_mask [true, true, true, true, true, false, false] rfl (ok_12_lent_l5 a0 a1 a2 k0 n (v3 - z17) (v4 + 1) μ22 _ h KX)
      clear h
      have h := hz17
      clear hz17
      refine R_cmpne (dd dt_12_lent 34 rfl) (tgt := 71) rfl (fun hc => ?_) (fun hc => ?_)
      · rw [if_neg hc] at h
        refine R_iconst (v := 0) (dd dt_12_lent 39 rfl) ic_0 ?_
        obtain rfl := Option.some.inj h
        exact R_mask [true, true, true, true, true, false, false] rfl K17
      · rw [if_pos hc] at h
        refine R_iload_n (dd dt_12_lent 35 rfl) 3 rfl rfl ?_
        refine R_iload (dd dt_12_lent 36 rfl) rfl ?_
        refine R_mmin ml_12_127 (Nat.le_of_ble_eq_true rfl) (dd dt_12_lent 37 rfl) ?_
        refine R_goto (dd dt_12_lent 38 rfl) (tgt := 72) rfl ?_
        obtain rfl := Option.some.inj h
        exact R_mask [true, true, true, true, true, false, false] rfl K17
def f_12_lent (a0 : Nat) (a1 : Int32) (a2 : Int32) (μ : mm) : Option (Int32 × mm) :=
  (f_12_lent_l5 a0 a1 a2 FU a2 0 μ).bind fun z1 =>
  some ((a2 - z1.1), z1.2)
set_option maxRecDepth 100000 in
set_option maxHeartbeats 4000000 in
theorem ok_12_lent {l : Launch} {E : ce} {d : Nat}  {a0 : Nat} {a1 : Int32} {a2 : Int32} {μ : mm} {r : Int32 × mm} {Q : Option Value → mm → Prop} (h : f_12_lent a0 a1 a2 μ = some r) (k0 : kd a0 = 12) (hQ : Q (some (.int r.1)) r.2) : Ct l E (d + 1) yX12_lent m_12_lent [.ref a0, .int a1, .int a2] μ Q := by
  refine Ct_of (lv := [some (.ref a0), some (.int a1), some (.int a2), none, none, none, none]) (by decide) rfl (Nat.le_of_ble_eq_true rfl) rfl ?_
  unfold f_12_lent at h
  refine R_iload_n (dd dt_12_lent 0 rfl) 2 rfl rfl ?_
  refine R_istore_n (lv' := [some (.ref a0), some (.int a1), some (.int a2), some (.int a2), none, none, none]) (dd dt_12_lent 1 rfl) 3 rfl (by decide) rfl rfl ?_
  refine R_iconst (v := 0) (dd dt_12_lent 2 rfl) ic_0 ?_
  refine R_istore (lv' := [some (.ref a0), some (.int a1), some (.int a2), some (.int a2), some (.int 0), none, none]) (dd dt_12_lent 3 rfl) (by decide) rfl rfl ?_
  obtain ⟨z1, e2, h⟩ := bi_el h
  refine R_mask [true, true, true, true, true, false, false] rfl (ok_12_lent_l5 a0 a1 a2 k0 FU a2 0 μ _ e2 ?_)
  refine R_iload_n (dd dt_12_lent 57 rfl) 2 rfl rfl ?_
  refine R_iload_n (dd dt_12_lent 58 rfl) 3 rfl rfl ?_
  refine R_isub (dd dt_12_lent 59 rfl) ?_
  obtain rfl := Option.some.inj h
  exact R_iret rfl (dd dt_12_lent 60 rfl) hQ
/-! LongStrikeModel.eats(IZ)V -/
def tab_12_eats : List (Nat × Instr × Nat) := [(0, .bipush 96, 2), (2, .bipush 12, 2), (4, .iload_n 1, 1), (5, .imul, 1), (6, .iadd, 1), (7, .istore_n 3, 1), (8, .iconst 0, 1), (9, .aload_n 0, 1), (10, .getfield 9, 3), (13, .iload_n 3, 1), (14, .iconst 2, 1), (15, .iadd, 1), (16, .iaload, 1), (17, .aload_n 0, 1), (18, .getfield 9, 3), (21, .iload_n 3, 1), (22, .bipush 11, 2), (24, .iadd, 1), (25, .iaload, 1), (26, .iconst 1, 1), (27, .if_icmp .ne 7, 3), (30, .iconst 0, 1), (31, .goto 11, 3), (34, .aload_n 0, 1), (35, .getfield 9, 3), (38, .iload_n 3, 1), (39, .iconst 3, 1), (40, .iadd, 1), (41, .iaload, 1), (42, .isub, 1), (43, .invokestatic 118, 3), (46, .istore 4, 2), (48, .iload 4, 2), (50, .aload_n 0, 1), (51, .getfield 9, 3), (54, .iload_n 3, 1), (55, .bipush 6, 2), (57, .iadd, 1), (58, .iaload, 1), (59, .invokestatic 127, 3), (62, .istore 5, 2), (64, .aload_n 0, 1), (65, .getfield 9, 3), (68, .iload_n 3, 1), (69, .bipush 6, 2), (71, .iadd, 1), (72, .dup2, 1), (73, .iaload, 1), (74, .iload 5, 2), (76, .isub, 1), (77, .iastore, 1), (78, .iload 4, 2), (80, .iload 5, 2), (82, .isub, 1), (83, .istore 4, 2), (85, .aload_n 0, 1), (86, .iload_n 1, 1), (87, .iload 4, 2), (89, .invokevirtual 240, 3), (92, .istore 6, 2), (94, .aload_n 0, 1), (95, .getfield 9, 3), (98, .iload_n 3, 1), (99, .bipush 7, 2), (101, .iadd, 1), (102, .dup2, 1), (103, .iaload, 1), (104, .iload 6, 2), (106, .iadd, 1), (107, .iastore, 1), (108, .iload 4, 2), (110, .iload 6, 2), (112, .if_icmp .le 7, 3), (115, .iconst 1, 1), (116, .goto 4, 3), (119, .iconst 0, 1), (120, .istore 7, 2), (122, .aload_n 0, 1), (123, .getfield 9, 3), (126, .iload_n 3, 1), (127, .iconst 4, 1), (128, .iadd, 1), (129, .iaload, 1), (130, .ifCond .ne 17, 3), (133, .aload_n 0, 1), (134, .getfield 9, 3), (137, .iconst 3, 1), (138, .iaload, 1), (139, .iconst 1, 1), (140, .if_icmp .ne 7, 3), (143, .iconst 1, 1), (144, .goto 4, 3), (147, .iconst 0, 1), (148, .istore 8, 2), (150, .aload_n 0, 1), (151, .getfield 9, 3), (154, .iload_n 3, 1), (155, .iconst 4, 1), (156, .iadd, 1), (157, .iconst 0, 1), (158, .aload_n 0, 1), (159, .getfield 9, 3), (162, .iload_n 3, 1), (163, .iconst 4, 1), (164, .iadd, 1), (165, .iaload, 1), (166, .iconst 1, 1), (167, .isub, 1), (168, .invokestatic 118, 3), (171, .iastore, 1), (172, .aload_n 0, 1), (173, .getfield 9, 3), (176, .iload_n 3, 1), (177, .bipush 8, 2), (179, .iadd, 1), (180, .dup2, 1), (181, .iaload, 1), (182, .iload 7, 2), (184, .ifCond .eq 7, 3), (187, .iconst 1, 1), (188, .goto 4, 3), (191, .iconst 0, 1), (192, .iadd, 1), (193, .iastore, 1), (194, .aload_n 0, 1), (195, .getfield 9, 3), (198, .iload_n 3, 1), (199, .bipush 9, 2), (201, .iadd, 1), (202, .dup2, 1), (203, .iaload, 1), (204, .iload 8, 2), (206, .ifCond .eq 7, 3), (209, .iconst 1, 1), (210, .goto 4, 3), (213, .iconst 0, 1), (214, .iadd, 1), (215, .iastore, 1), (216, .aload_n 0, 1), (217, .getfield 9, 3), (220, .iload_n 3, 1), (221, .iconst 5, 1), (222, .iadd, 1), (223, .iaload, 1), (224, .iload 7, 2), (226, .ifCond .eq 7, 3), (229, .iconst 2, 1), (230, .goto 4, 3), (233, .iconst 0, 1), (234, .isub, 1), (235, .iload 8, 2), (237, .ifCond .eq 7, 3), (240, .iconst 1, 1), (241, .goto 4, 3), (244, .iconst 0, 1), (245, .isub, 1), (246, .iload 7, 2), (248, .ifCond .ne 8, 3), (251, .iload 8, 2), (253, .ifCond .eq 7, 3), (256, .iconst 0, 1), (257, .goto 4, 3), (260, .iconst 1, 1), (261, .iadd, 1), (262, .iload_n 2, 1), (263, .ifCond .eq 11, 3), (266, .aload_n 0, 1), (267, .iload_n 1, 1), (268, .invokevirtual 243, 3), (271, .goto 4, 3), (274, .iconst 0, 1), (275, .iadd, 1), (276, .istore 9, 2), (278, .aload_n 0, 1), (279, .getfield 9, 3), (282, .iload_n 3, 1), (283, .iconst 5, 1), (284, .iadd, 1), (285, .iconst 0, 1), (286, .bipush 99, 2), (288, .iload 9, 2), (290, .invokestatic 127, 3), (293, .invokestatic 118, 3), (296, .iastore, 1), (297, .return_, 1)]
set_option maxRecDepth 100000 in
theorem dt_12_eats : ∀ q ∈ tab_12_eats, decode m_12_eats.2.1 q.1 = .ok q.2 := by decide +kernel
def f_12_eats (a0 : Nat) (a1 : Int32) (a2 : Int32) (μ : mm) : Option (mm) :=
  (ld μ (rf a0 0) ((96 + (12 * a1)) + 2)).bind fun x1 =>
  (ld μ (rf a0 0) ((96 + (12 * a1)) + 11)).bind fun x3 =>
  (if x3 = 1 then
      some 0
    else
      (ld μ (rf a0 0) ((96 + (12 * a1)) + 3)).bind fun x5 =>
      some x5).bind fun (z7 : Int32) =>
  (ld μ (rf a0 0) ((96 + (12 * a1)) + 6)).bind fun x8 =>
  (ld μ (rf a0 0) ((96 + (12 * a1)) + 6)).bind fun x10 =>
  (sto μ (rf a0 0) ((96 + (12 * a1)) + 6) (x10 - (mn (mx 0 (x1 - z7)) x8))).bind fun μ12 =>
  (f_12_lent a0 a1 ((mx 0 (x1 - z7)) - (mn (mx 0 (x1 - z7)) x8)) μ12).bind fun z15 =>
  (ld z15.2 (rf a0 0) ((96 + (12 * a1)) + 7)).bind fun x16 =>
  (sto z15.2 (rf a0 0) ((96 + (12 * a1)) + 7) (x16 + z15.1)).bind fun μ18 =>
  (if ((mx 0 (x1 - z7)) - (mn (mx 0 (x1 - z7)) x8)) ≤ z15.1 then
      some 0
    else
      some 1).bind fun (z20 : Int32) =>
  (ld μ18 (rf a0 0) ((96 + (12 * a1)) + 4)).bind fun x21 =>
  (if x21 = 0 then
      (ld μ18 (rf a0 0) 3).bind fun x23 =>
      if x23 = 1 then
        some 1
      else
        some 0
    else
      some 0).bind fun (z25 : Int32) =>
  (ld μ18 (rf a0 0) ((96 + (12 * a1)) + 4)).bind fun x26 =>
  (sto μ18 (rf a0 0) ((96 + (12 * a1)) + 4) (mx 0 (x26 - 1))).bind fun μ28 =>
  (ld μ28 (rf a0 0) ((96 + (12 * a1)) + 8)).bind fun x30 =>
  (if z20 = 0 then
      some 0
    else
      some 1).bind fun (z32 : Int32) =>
  (sto μ28 (rf a0 0) ((96 + (12 * a1)) + 8) (x30 + z32)).bind fun μ33 =>
  (ld μ33 (rf a0 0) ((96 + (12 * a1)) + 9)).bind fun x35 =>
  (if z25 = 0 then
      some 0
    else
      some 1).bind fun (z37 : Int32) =>
  (sto μ33 (rf a0 0) ((96 + (12 * a1)) + 9) (x35 + z37)).bind fun μ38 =>
  (ld μ38 (rf a0 0) ((96 + (12 * a1)) + 5)).bind fun x40 =>
  (if z20 = 0 then
      some 0
    else
      some 2).bind fun (z42 : Int32) =>
  (if z25 = 0 then
      some 0
    else
      some 1).bind fun (z43 : Int32) =>
  (if z20 = 0 then
      if z25 = 0 then
        some 1
      else
        some 0
    else
      some 0).bind fun (z44 : Int32) =>
  (if a2 = 0 then
      some 0
    else
      (f_12_heardNow a0 a1 μ38).bind fun x46 =>
      some x46).bind fun (z47 : Int32) =>
  (sto μ38 (rf a0 0) ((96 + (12 * a1)) + 5) (mx 0 (mn 99 ((((x40 - z42) - z43) + z44) + z47)))).bind fun μ48 =>
  some μ48
set_option maxRecDepth 100000 in
set_option maxHeartbeats 4000000 in
theorem ok_12_eats {l : Launch} {E : ce} {d : Nat}  {a0 : Nat} {a1 : Int32} {a2 : Int32} {μ : mm} {r : mm} {Q : Option Value → mm → Prop} (h : f_12_eats a0 a1 a2 μ = some r) (k0 : kd a0 = 12) (hQ : Q none r) : Ct l E (d + 3) yX12_eats m_12_eats [.ref a0, .int a1, .int a2] μ Q := by
  refine Ct_of (lv := [some (.ref a0), some (.int a1), some (.int a2), none, none, none, none, none, none, none]) (by decide) rfl (Nat.le_of_ble_eq_true rfl) rfl ?_
  unfold f_12_eats at h
  refine R_bipush (v := 96) (dd dt_12_eats 0 rfl) bp_96 ?_
  refine R_bipush (v := 12) (dd dt_12_eats 1 rfl) bp_12 ?_
  refine R_iload_n (dd dt_12_eats 2 rfl) 1 rfl rfl ?_
  refine R_imul (dd dt_12_eats 3 rfl) ?_
  refine R_iadd (dd dt_12_eats 4 rfl) ?_
  refine R_istore_n (lv' := [some (.ref a0), some (.int a1), some (.int a2), some (.int (96 + (12 * a1))), none, none, none, none, none, none]) (dd dt_12_eats 5 rfl) 3 rfl (by decide) rfl rfl ?_
  refine R_iconst (v := 0) (dd dt_12_eats 6 rfl) ic_0 ?_
  refine R_aload_n (dd dt_12_eats 7 rfl) 0 rfl rfl ?_
  refine g_12_9 rfl k0 (dd dt_12_eats 8 rfl) ?_
  refine R_iload_n (dd dt_12_eats 9 rfl) 3 rfl rfl ?_
  refine R_iconst (v := 2) (dd dt_12_eats 10 rfl) ic_2 ?_
  refine R_iadd (dd dt_12_eats 11 rfl) ?_
  obtain ⟨x1, e2, h⟩ := bi_el h
  refine R_ild e2 (ty_12_0 k0) (dd dt_12_eats 12 rfl) ?_
  refine R_aload_n (dd dt_12_eats 13 rfl) 0 rfl rfl ?_
  refine g_12_9 rfl k0 (dd dt_12_eats 14 rfl) ?_
  refine R_iload_n (dd dt_12_eats 15 rfl) 3 rfl rfl ?_
  refine R_bipush (v := 11) (dd dt_12_eats 16 rfl) bp_11 ?_
  refine R_iadd (dd dt_12_eats 17 rfl) ?_
  obtain ⟨x3, e4, h⟩ := bi_el h
  refine R_ild e4 (ty_12_0 k0) (dd dt_12_eats 18 rfl) ?_
  refine R_iconst (v := 1) (dd dt_12_eats 19 rfl) ic_1 ?_
  obtain ⟨z7, hz7, h⟩ := bi_el h
  have K7 : Rj l E (d + 3) m_12_eats 42 [some (.ref a0), some (.int a1), some (.int a2), some (.int (96 + (12 * a1))), none, none, none, none, none, none] [.int z7, .int x1, .int 0] μ Q := by
    clear hz7
    refine R_isub (dd dt_12_eats 29 rfl) ?_
    refine R_mmax ml_12_118 (Nat.le_of_ble_eq_true rfl) (dd dt_12_eats 30 rfl) ?_
    refine R_istore (lv' := [some (.ref a0), some (.int a1), some (.int a2), some (.int (96 + (12 * a1))), some (.int (mx 0 (x1 - z7))), none, none, none, none, none]) (dd dt_12_eats 31 rfl) (by decide) rfl rfl ?_
    refine R_iload (dd dt_12_eats 32 rfl) rfl ?_
    refine R_aload_n (dd dt_12_eats 33 rfl) 0 rfl rfl ?_
    refine g_12_9 rfl k0 (dd dt_12_eats 34 rfl) ?_
    refine R_iload_n (dd dt_12_eats 35 rfl) 3 rfl rfl ?_
    refine R_bipush (v := 6) (dd dt_12_eats 36 rfl) bp_6 ?_
    refine R_iadd (dd dt_12_eats 37 rfl) ?_
    obtain ⟨x8, e9, h⟩ := bi_el h
    refine R_ild e9 (ty_12_0 k0) (dd dt_12_eats 38 rfl) ?_
    refine R_mmin ml_12_127 (Nat.le_of_ble_eq_true rfl) (dd dt_12_eats 39 rfl) ?_
    refine R_istore (lv' := [some (.ref a0), some (.int a1), some (.int a2), some (.int (96 + (12 * a1))), some (.int (mx 0 (x1 - z7))), some (.int (mn (mx 0 (x1 - z7)) x8)), none, none, none, none]) (dd dt_12_eats 40 rfl) (by decide) rfl rfl ?_
    refine R_aload_n (dd dt_12_eats 41 rfl) 0 rfl rfl ?_
    refine g_12_9 rfl k0 (dd dt_12_eats 42 rfl) ?_
    refine R_iload_n (dd dt_12_eats 43 rfl) 3 rfl rfl ?_
    refine R_bipush (v := 6) (dd dt_12_eats 44 rfl) bp_6 ?_
    refine R_iadd (dd dt_12_eats 45 rfl) ?_
    refine R_dup2 (dd dt_12_eats 46 rfl) rfl rfl ?_
    obtain ⟨x10, e11, h⟩ := bi_el h
    refine R_ild e11 (ty_12_0 k0) (dd dt_12_eats 47 rfl) ?_
    refine R_iload (dd dt_12_eats 48 rfl) rfl ?_
    refine R_isub (dd dt_12_eats 49 rfl) ?_
    obtain ⟨μ12, e13, h⟩ := bi_el h
    refine R_isto e13 (ty_12_0 k0) (dd dt_12_eats 50 rfl) ?_
    refine R_iload (dd dt_12_eats 51 rfl) rfl ?_
    refine R_iload (dd dt_12_eats 52 rfl) rfl ?_
    refine R_isub (dd dt_12_eats 53 rfl) ?_
    refine R_istore (lv' := [some (.ref a0), some (.int a1), some (.int a2), some (.int (96 + (12 * a1))), some (.int ((mx 0 (x1 - z7)) - (mn (mx 0 (x1 - z7)) x8))), some (.int (mn (mx 0 (x1 - z7)) x8)), none, none, none, none]) (dd dt_12_eats 54 rfl) (by decide) rfl rfl ?_
    refine R_aload_n (dd dt_12_eats 55 rfl) 0 rfl rfl ?_
    refine R_iload_n (dd dt_12_eats 56 rfl) 1 rfl rfl ?_
    refine R_iload (dd dt_12_eats 57 rfl) rfl ?_
    obtain ⟨z15, e14, h⟩ := bi_el h
    refine c_12_240 (As := [.int a1, .int ((mx 0 (x1 - z7)) - (mn (mx 0 (x1 - z7)) x8))]) (st1 := [.int z15.1]) rfl (fun Q1 hq => ok_12_lent e14 k0 hq) k0 rfl rfl (Nat.le_of_ble_eq_true rfl) (dd dt_12_eats 58 rfl) rfl ?_
    refine R_istore (lv' := [some (.ref a0), some (.int a1), some (.int a2), some (.int (96 + (12 * a1))), some (.int ((mx 0 (x1 - z7)) - (mn (mx 0 (x1 - z7)) x8))), some (.int (mn (mx 0 (x1 - z7)) x8)), some (.int z15.1), none, none, none]) (dd dt_12_eats 59 rfl) (by decide) rfl rfl ?_
    refine R_aload_n (dd dt_12_eats 60 rfl) 0 rfl rfl ?_
    refine g_12_9 rfl k0 (dd dt_12_eats 61 rfl) ?_
    refine R_iload_n (dd dt_12_eats 62 rfl) 3 rfl rfl ?_
    refine R_bipush (v := 7) (dd dt_12_eats 63 rfl) bp_7 ?_
    refine R_iadd (dd dt_12_eats 64 rfl) ?_
    refine R_dup2 (dd dt_12_eats 65 rfl) rfl rfl ?_
    obtain ⟨x16, e17, h⟩ := bi_el h
    refine R_ild e17 (ty_12_0 k0) (dd dt_12_eats 66 rfl) ?_
    refine R_iload (dd dt_12_eats 67 rfl) rfl ?_
    refine R_iadd (dd dt_12_eats 68 rfl) ?_
    obtain ⟨μ18, e19, h⟩ := bi_el h
    refine R_isto e19 (ty_12_0 k0) (dd dt_12_eats 69 rfl) ?_
    refine R_iload (dd dt_12_eats 70 rfl) rfl ?_
    refine R_iload (dd dt_12_eats 71 rfl) rfl ?_
    obtain ⟨z20, hz20, h⟩ := bi_el h
    have K20 : Rj l E (d + 3) m_12_eats 120 [some (.ref a0), some (.int a1), some (.int a2), some (.int (96 + (12 * a1))), none, none, none, none, none, none] [.int z20] μ18 Q := by
      clear hz20
      refine R_istore (lv' := [some (.ref a0), some (.int a1), some (.int a2), some (.int (96 + (12 * a1))), none, none, none, some (.int z20), none, none]) (dd dt_12_eats 76 rfl) (by decide) rfl rfl ?_
      refine R_aload_n (dd dt_12_eats 77 rfl) 0 rfl rfl ?_
      refine g_12_9 rfl k0 (dd dt_12_eats 78 rfl) ?_
      refine R_iload_n (dd dt_12_eats 79 rfl) 3 rfl rfl ?_
      refine R_iconst (v := 4) (dd dt_12_eats 80 rfl) ic_4 ?_
      refine R_iadd (dd dt_12_eats 81 rfl) ?_
      obtain ⟨x21, e22, h⟩ := bi_el h
      refine R_ild e22 (ty_12_0 k0) (dd dt_12_eats 82 rfl) ?_
      obtain ⟨z25, hz25, h⟩ := bi_el h
      have K25 : Rj l E (d + 3) m_12_eats 148 [some (.ref a0), some (.int a1), some (.int a2), some (.int (96 + (12 * a1))), none, none, none, some (.int z20), none, none] [.int z25] μ18 Q := by
        clear hz25
        refine R_istore (lv' := [some (.ref a0), some (.int a1), some (.int a2), some (.int (96 + (12 * a1))), none, none, none, some (.int z20), some (.int z25), none]) (dd dt_12_eats 93 rfl) (by decide) rfl rfl ?_
        refine R_aload_n (dd dt_12_eats 94 rfl) 0 rfl rfl ?_
        refine g_12_9 rfl k0 (dd dt_12_eats 95 rfl) ?_
        refine R_iload_n (dd dt_12_eats 96 rfl) 3 rfl rfl ?_
        refine R_iconst (v := 4) (dd dt_12_eats 97 rfl) ic_4 ?_
        refine R_iadd (dd dt_12_eats 98 rfl) ?_
        refine R_iconst (v := 0) (dd dt_12_eats 99 rfl) ic_0 ?_
        refine R_aload_n (dd dt_12_eats 100 rfl) 0 rfl rfl ?_
        refine g_12_9 rfl k0 (dd dt_12_eats 101 rfl) ?_
        refine R_iload_n (dd dt_12_eats 102 rfl) 3 rfl rfl ?_
        refine R_iconst (v := 4) (dd dt_12_eats 103 rfl) ic_4 ?_
        refine R_iadd (dd dt_12_eats 104 rfl) ?_
        obtain ⟨x26, e27, h⟩ := bi_el h
        refine R_ild e27 (ty_12_0 k0) (dd dt_12_eats 105 rfl) ?_
        refine R_iconst (v := 1) (dd dt_12_eats 106 rfl) ic_1 ?_
        refine R_isub (dd dt_12_eats 107 rfl) ?_
        refine R_mmax ml_12_118 (Nat.le_of_ble_eq_true rfl) (dd dt_12_eats 108 rfl) ?_
        obtain ⟨μ28, e29, h⟩ := bi_el h
        refine R_isto e29 (ty_12_0 k0) (dd dt_12_eats 109 rfl) ?_
        refine R_aload_n (dd dt_12_eats 110 rfl) 0 rfl rfl ?_
        refine g_12_9 rfl k0 (dd dt_12_eats 111 rfl) ?_
        refine R_iload_n (dd dt_12_eats 112 rfl) 3 rfl rfl ?_
        refine R_bipush (v := 8) (dd dt_12_eats 113 rfl) bp_8 ?_
        refine R_iadd (dd dt_12_eats 114 rfl) ?_
        refine R_dup2 (dd dt_12_eats 115 rfl) rfl rfl ?_
        obtain ⟨x30, e31, h⟩ := bi_el h
        refine R_ild e31 (ty_12_0 k0) (dd dt_12_eats 116 rfl) ?_
        refine R_iload (dd dt_12_eats 117 rfl) rfl ?_
        obtain ⟨z32, hz32, h⟩ := bi_el h
        have K32 : Rj l E (d + 3) m_12_eats 192 [some (.ref a0), some (.int a1), some (.int a2), some (.int (96 + (12 * a1))), none, none, none, some (.int z20), some (.int z25), none] [.int z32, .int x30, .int ((96 + (12 * a1)) + 8), .ref (rf a0 0)] μ28 Q := by
          clear hz32
          refine R_iadd (dd dt_12_eats 122 rfl) ?_
          obtain ⟨μ33, e34, h⟩ := bi_el h
          refine R_isto e34 (ty_12_0 k0) (dd dt_12_eats 123 rfl) ?_
          refine R_aload_n (dd dt_12_eats 124 rfl) 0 rfl rfl ?_
          refine g_12_9 rfl k0 (dd dt_12_eats 125 rfl) ?_
          refine R_iload_n (dd dt_12_eats 126 rfl) 3 rfl rfl ?_
          refine R_bipush (v := 9) (dd dt_12_eats 127 rfl) bp_9 ?_
          refine R_iadd (dd dt_12_eats 128 rfl) ?_
          refine R_dup2 (dd dt_12_eats 129 rfl) rfl rfl ?_
          obtain ⟨x35, e36, h⟩ := bi_el h
          refine R_ild e36 (ty_12_0 k0) (dd dt_12_eats 130 rfl) ?_
          refine R_iload (dd dt_12_eats 131 rfl) rfl ?_
          obtain ⟨z37, hz37, h⟩ := bi_el h
          have K37 : Rj l E (d + 3) m_12_eats 214 [some (.ref a0), some (.int a1), some (.int a2), some (.int (96 + (12 * a1))), none, none, none, some (.int z20), some (.int z25), none] [.int z37, .int x35, .int ((96 + (12 * a1)) + 9), .ref (rf a0 0)] μ33 Q := by
            clear hz37
            refine R_iadd (dd dt_12_eats 136 rfl) ?_
            obtain ⟨μ38, e39, h⟩ := bi_el h
            refine R_isto e39 (ty_12_0 k0) (dd dt_12_eats 137 rfl) ?_
            refine R_aload_n (dd dt_12_eats 138 rfl) 0 rfl rfl ?_
            refine g_12_9 rfl k0 (dd dt_12_eats 139 rfl) ?_
            refine R_iload_n (dd dt_12_eats 140 rfl) 3 rfl rfl ?_
            refine R_iconst (v := 5) (dd dt_12_eats 141 rfl) ic_5 ?_
            refine R_iadd (dd dt_12_eats 142 rfl) ?_
            obtain ⟨x40, e41, h⟩ := bi_el h
            refine R_ild e41 (ty_12_0 k0) (dd dt_12_eats 143 rfl) ?_
            refine R_iload (dd dt_12_eats 144 rfl) rfl ?_
            obtain ⟨z42, hz42, h⟩ := bi_el h
            have K42 : Rj l E (d + 3) m_12_eats 234 [some (.ref a0), some (.int a1), some (.int a2), some (.int (96 + (12 * a1))), none, none, none, some (.int z20), some (.int z25), none] [.int z42, .int x40] μ38 Q := by
              clear hz42
              refine R_isub (dd dt_12_eats 149 rfl) ?_
              refine R_iload (dd dt_12_eats 150 rfl) rfl ?_
              obtain ⟨z43, hz43, h⟩ := bi_el h
              have K43 : Rj l E (d + 3) m_12_eats 245 [some (.ref a0), some (.int a1), some (.int a2), some (.int (96 + (12 * a1))), none, none, none, some (.int z20), some (.int z25), none] [.int z43, .int (x40 - z42)] μ38 Q := by
                clear hz43
                refine R_isub (dd dt_12_eats 155 rfl) ?_
                refine R_iload (dd dt_12_eats 156 rfl) rfl ?_
                obtain ⟨z44, hz44, h⟩ := bi_el h
                have K44 : Rj l E (d + 3) m_12_eats 261 [some (.ref a0), some (.int a1), some (.int a2), some (.int (96 + (12 * a1))), none, none, none, none, none, none] [.int z44, .int ((x40 - z42) - z43)] μ38 Q := by
                  clear hz44
                  refine R_iadd (dd dt_12_eats 163 rfl) ?_
                  refine R_iload_n (dd dt_12_eats 164 rfl) 2 rfl rfl ?_
                  obtain ⟨z47, hz47, h⟩ := bi_el h
                  have K47 : Rj l E (d + 3) m_12_eats 275 [some (.ref a0), none, none, some (.int (96 + (12 * a1))), none, none, none, none, none, none] [.int z47, .int (((x40 - z42) - z43) + z44)] μ38 Q := by
                    clear hz47
                    refine R_iadd (dd dt_12_eats 171 rfl) ?_
                    refine R_istore (lv' := [some (.ref a0), none, none, some (.int (96 + (12 * a1))), none, none, none, none, none, some (.int ((((x40 - z42) - z43) + z44) + z47))]) (dd dt_12_eats 172 rfl) (by decide) rfl rfl ?_
                    refine R_aload_n (dd dt_12_eats 173 rfl) 0 rfl rfl ?_
                    refine g_12_9 rfl k0 (dd dt_12_eats 174 rfl) ?_
                    refine R_iload_n (dd dt_12_eats 175 rfl) 3 rfl rfl ?_
                    refine R_iconst (v := 5) (dd dt_12_eats 176 rfl) ic_5 ?_
                    refine R_iadd (dd dt_12_eats 177 rfl) ?_
                    refine R_iconst (v := 0) (dd dt_12_eats 178 rfl) ic_0 ?_
                    refine R_bipush (v := 99) (dd dt_12_eats 179 rfl) bp_99 ?_
                    refine R_iload (dd dt_12_eats 180 rfl) rfl ?_
                    refine R_mmin ml_12_127 (Nat.le_of_ble_eq_true rfl) (dd dt_12_eats 181 rfl) ?_
                    refine R_mmax ml_12_118 (Nat.le_of_ble_eq_true rfl) (dd dt_12_eats 182 rfl) ?_
                    obtain ⟨μ48, e49, h⟩ := bi_el h
                    refine R_isto e49 (ty_12_0 k0) (dd dt_12_eats 183 rfl) ?_
                    obtain rfl := Option.some.inj h
                    exact R_vret rfl (dd dt_12_eats 184 rfl) hQ
                  clear h
                  have h := hz47
                  clear hz47
                  refine R_ifeq (dd dt_12_eats 165 rfl) (tgt := 274) rfl (fun hc => ?_) (fun hc => ?_)
                  · rw [if_pos hc] at h
                    refine R_iconst (v := 0) (dd dt_12_eats 170 rfl) ic_0 ?_
                    obtain rfl := Option.some.inj h
                    exact R_mask [true, false, false, true, false, false, false, false, false, false] rfl K47
                  · rw [if_neg hc] at h
                    refine R_aload_n (dd dt_12_eats 166 rfl) 0 rfl rfl ?_
                    refine R_iload_n (dd dt_12_eats 167 rfl) 1 rfl rfl ?_
                    obtain ⟨x46, e45, h⟩ := bi_el h
                    refine c_12_243 (As := [.int a1]) (st1 := [.int x46, .int (((x40 - z42) - z43) + z44)]) rfl (fun Q1 hq => ok_12_heardNow e45 k0 hq) k0 rfl rfl (Nat.le_of_ble_eq_true rfl) (dd dt_12_eats 168 rfl) rfl ?_
                    refine R_goto (dd dt_12_eats 169 rfl) (tgt := 275) rfl ?_
                    obtain rfl := Option.some.inj h
                    exact R_mask [true, false, false, true, false, false, false, false, false, false] rfl K47
                clear h
                have h := hz44
                clear hz44
                refine R_ifne (dd dt_12_eats 157 rfl) (tgt := 256) rfl (fun hc => ?_) (fun hc => ?_)
                · rw [if_neg hc] at h
                  refine R_iconst (v := 0) (dd dt_12_eats 160 rfl) ic_0 ?_
                  refine R_goto (dd dt_12_eats 161 rfl) (tgt := 261) rfl ?_
                  obtain rfl := Option.some.inj h
                  exact R_mask [true, true, true, true, false, false, false, false, false, false] rfl K44
                · rw [if_pos hc] at h
                  refine R_iload (dd dt_12_eats 158 rfl) rfl ?_
                  refine R_ifeq (dd dt_12_eats 159 rfl) (tgt := 260) rfl (fun hc => ?_) (fun hc => ?_)
                  · rw [if_pos hc] at h
                    refine R_iconst (v := 1) (dd dt_12_eats 162 rfl) ic_1 ?_
                    obtain rfl := Option.some.inj h
                    exact R_mask [true, true, true, true, false, false, false, false, false, false] rfl K44
                  · rw [if_neg hc] at h
                    refine R_iconst (v := 0) (dd dt_12_eats 160 rfl) ic_0 ?_
                    refine R_goto (dd dt_12_eats 161 rfl) (tgt := 261) rfl ?_
                    obtain rfl := Option.some.inj h
                    exact R_mask [true, true, true, true, false, false, false, false, false, false] rfl K44
              clear h
              have h := hz43
              clear hz43
              refine R_ifeq (dd dt_12_eats 151 rfl) (tgt := 244) rfl (fun hc => ?_) (fun hc => ?_)
              · rw [if_pos hc] at h
                refine R_iconst (v := 0) (dd dt_12_eats 154 rfl) ic_0 ?_
                obtain rfl := Option.some.inj h
                exact R_mask [true, true, true, true, false, false, false, true, true, false] rfl K43
              · rw [if_neg hc] at h
                refine R_iconst (v := 1) (dd dt_12_eats 152 rfl) ic_1 ?_
                refine R_goto (dd dt_12_eats 153 rfl) (tgt := 245) rfl ?_
                obtain rfl := Option.some.inj h
                exact R_mask [true, true, true, true, false, false, false, true, true, false] rfl K43
            clear h
            have h := hz42
            clear hz42
            refine R_ifeq (dd dt_12_eats 145 rfl) (tgt := 233) rfl (fun hc => ?_) (fun hc => ?_)
            · rw [if_pos hc] at h
              refine R_iconst (v := 0) (dd dt_12_eats 148 rfl) ic_0 ?_
              obtain rfl := Option.some.inj h
              exact R_mask [true, true, true, true, false, false, false, true, true, false] rfl K42
            · rw [if_neg hc] at h
              refine R_iconst (v := 2) (dd dt_12_eats 146 rfl) ic_2 ?_
              refine R_goto (dd dt_12_eats 147 rfl) (tgt := 234) rfl ?_
              obtain rfl := Option.some.inj h
              exact R_mask [true, true, true, true, false, false, false, true, true, false] rfl K42
          clear h
          have h := hz37
          clear hz37
          refine R_ifeq (dd dt_12_eats 132 rfl) (tgt := 213) rfl (fun hc => ?_) (fun hc => ?_)
          · rw [if_pos hc] at h
            refine R_iconst (v := 0) (dd dt_12_eats 135 rfl) ic_0 ?_
            obtain rfl := Option.some.inj h
            exact R_mask [true, true, true, true, false, false, false, true, true, false] rfl K37
          · rw [if_neg hc] at h
            refine R_iconst (v := 1) (dd dt_12_eats 133 rfl) ic_1 ?_
            refine R_goto (dd dt_12_eats 134 rfl) (tgt := 214) rfl ?_
            obtain rfl := Option.some.inj h
            exact R_mask [true, true, true, true, false, false, false, true, true, false] rfl K37
        clear h
        have h := hz32
        clear hz32
        refine R_ifeq (dd dt_12_eats 118 rfl) (tgt := 191) rfl (fun hc => ?_) (fun hc => ?_)
        · rw [if_pos hc] at h
          refine R_iconst (v := 0) (dd dt_12_eats 121 rfl) ic_0 ?_
          obtain rfl := Option.some.inj h
          exact R_mask [true, true, true, true, false, false, false, true, true, false] rfl K32
        · rw [if_neg hc] at h
          refine R_iconst (v := 1) (dd dt_12_eats 119 rfl) ic_1 ?_
          refine R_goto (dd dt_12_eats 120 rfl) (tgt := 192) rfl ?_
          obtain rfl := Option.some.inj h
          exact R_mask [true, true, true, true, false, false, false, true, true, false] rfl K32
      clear h
      have h := hz25
      clear hz25
      refine R_ifne (dd dt_12_eats 83 rfl) (tgt := 147) rfl (fun hc => ?_) (fun hc => ?_)
      · rw [if_neg hc] at h
        refine R_iconst (v := 0) (dd dt_12_eats 92 rfl) ic_0 ?_
        obtain rfl := Option.some.inj h
        exact R_mask [true, true, true, true, false, false, false, true, false, false] rfl K25
      · rw [if_pos hc] at h
        refine R_aload_n (dd dt_12_eats 84 rfl) 0 rfl rfl ?_
        refine g_12_9 rfl k0 (dd dt_12_eats 85 rfl) ?_
        refine R_iconst (v := 3) (dd dt_12_eats 86 rfl) ic_3 ?_
        obtain ⟨x23, e24, h⟩ := bi_el h
        refine R_ild e24 (ty_12_0 k0) (dd dt_12_eats 87 rfl) ?_
        refine R_iconst (v := 1) (dd dt_12_eats 88 rfl) ic_1 ?_
        refine R_cmpne (dd dt_12_eats 89 rfl) (tgt := 147) rfl (fun hc => ?_) (fun hc => ?_)
        · rw [if_neg hc] at h
          refine R_iconst (v := 0) (dd dt_12_eats 92 rfl) ic_0 ?_
          obtain rfl := Option.some.inj h
          exact R_mask [true, true, true, true, false, false, false, true, false, false] rfl K25
        · rw [if_pos hc] at h
          refine R_iconst (v := 1) (dd dt_12_eats 90 rfl) ic_1 ?_
          refine R_goto (dd dt_12_eats 91 rfl) (tgt := 148) rfl ?_
          obtain rfl := Option.some.inj h
          exact R_mask [true, true, true, true, false, false, false, true, false, false] rfl K25
    clear h
    have h := hz20
    clear hz20
    refine R_cmple (dd dt_12_eats 72 rfl) (tgt := 119) rfl (fun hc => ?_) (fun hc => ?_)
    · rw [if_pos hc] at h
      refine R_iconst (v := 0) (dd dt_12_eats 75 rfl) ic_0 ?_
      obtain rfl := Option.some.inj h
      exact R_mask [true, true, true, true, false, false, false, false, false, false] rfl K20
    · rw [if_neg hc] at h
      refine R_iconst (v := 1) (dd dt_12_eats 73 rfl) ic_1 ?_
      refine R_goto (dd dt_12_eats 74 rfl) (tgt := 120) rfl ?_
      obtain rfl := Option.some.inj h
      exact R_mask [true, true, true, true, false, false, false, false, false, false] rfl K20
  clear h
  have h := hz7
  clear hz7
  refine R_cmpne (dd dt_12_eats 20 rfl) (tgt := 34) rfl (fun hc => ?_) (fun hc => ?_)
  · rw [if_neg hc] at h
    refine R_aload_n (dd dt_12_eats 23 rfl) 0 rfl rfl ?_
    refine g_12_9 rfl k0 (dd dt_12_eats 24 rfl) ?_
    refine R_iload_n (dd dt_12_eats 25 rfl) 3 rfl rfl ?_
    refine R_iconst (v := 3) (dd dt_12_eats 26 rfl) ic_3 ?_
    refine R_iadd (dd dt_12_eats 27 rfl) ?_
    obtain ⟨x5, e6, h⟩ := bi_el h
    refine R_ild e6 (ty_12_0 k0) (dd dt_12_eats 28 rfl) ?_
    obtain rfl := Option.some.inj h
    exact R_mask [true, true, true, true, false, false, false, false, false, false] rfl K7
  · rw [if_pos hc] at h
    refine R_iconst (v := 0) (dd dt_12_eats 21 rfl) ic_0 ?_
    refine R_goto (dd dt_12_eats 22 rfl) (tgt := 42) rfl ?_
    obtain rfl := Option.some.inj h
    exact R_mask [true, true, true, true, false, false, false, false, false, false] rfl K7
/-! LongStrikeModel.findDraws()V -/
def tab_12_findDraws : List (Nat × Instr × Nat) := [(0, .iconst 0, 1), (1, .istore_n 1, 1), (2, .iload_n 1, 1), (3, .aload_n 0, 1), (4, .getfield 9, 3), (7, .bipush 11, 2), (9, .iaload, 1), (10, .if_icmp .ge 53, 3), (13, .aload_n 0, 1), (14, .getfield 41, 3), (17, .iload_n 1, 1), (18, .aload_n 0, 1), (19, .iload_n 1, 1), (20, .bipush 10, 2), (22, .invokevirtual 98, 3), (25, .iconst 1, 1), (26, .if_icmp .ne 7, 3), (29, .iconst 0, 1), (30, .goto 8, 3), (33, .aload_n 0, 1), (34, .iload_n 1, 1), (35, .invokevirtual 101, 3), (38, .iastore, 1), (39, .aload_n 0, 1), (40, .getfield 44, 3), (43, .iload_n 1, 1), (44, .aload_n 0, 1), (45, .iload_n 1, 1), (46, .invokevirtual 105, 3), (49, .iastore, 1), (50, .aload_n 0, 1), (51, .getfield 47, 3), (54, .iload_n 1, 1), (55, .iconst 0, 1), (56, .iastore, 1), (57, .iinc 1 1, 3), (60, .goto (-58), 3), (63, .aload_n 0, 1), (64, .getfield 9, 3), (67, .iconst 1, 1), (68, .iaload, 1), (69, .istore_n 1, 1), (70, .iconst 1, 1), (71, .istore_n 2, 1), (72, .iconst 0, 1), (73, .istore_n 3, 1), (74, .iload_n 3, 1), (75, .bipush 9, 2), (77, .if_icmp .gt 230, 3), (80, .iload_n 2, 1), (81, .ifCond .eq 226, 3), (84, .iconst 0, 1), (85, .istore 4, 2), (87, .iconst 0, 1), (88, .istore 5, 2), (90, .iload 5, 2), (92, .aload_n 0, 1), (93, .getfield 9, 3), (96, .bipush 11, 2), (98, .iaload, 1), (99, .if_icmp .ge 36, 3), (102, .iload 4, 2), (104, .aload_n 0, 1), (105, .getfield 44, 3), (108, .iload 5, 2), (110, .iaload, 1), (111, .iload_n 3, 1), (112, .if_icmp .ne 13, 3), (115, .aload_n 0, 1), (116, .getfield 41, 3), (119, .iload 5, 2), (121, .iaload, 1), (122, .goto 4, 3), (125, .iconst 0, 1), (126, .iadd, 1), (127, .istore 4, 2), (129, .iinc 5 1, 3), (132, .goto (-42), 3), (135, .iload 4, 2), (137, .iload_n 1, 1), (138, .if_icmp .gt 7, 3), (141, .iconst 1, 1), (142, .goto 4, 3), (145, .iconst 0, 1), (146, .istore_n 2, 1), (147, .iload_n 1, 1), (148, .istore 5, 2), (150, .iconst 0, 1), (151, .istore 6, 2), (153, .iload 6, 2), (155, .aload_n 0, 1), (156, .getfield 9, 3), (159, .bipush 11, 2), (161, .iaload, 1), (162, .if_icmp .ge 68, 3), (165, .aload_n 0, 1), (166, .getfield 44, 3), (169, .iload 6, 2), (171, .iaload, 1), (172, .iload_n 3, 1), (173, .if_icmp .ne 51, 3), (176, .aload_n 0, 1), (177, .getfield 47, 3), (180, .iload 6, 2), (182, .iload_n 2, 1), (183, .ifCond .eq 13, 3), (186, .aload_n 0, 1), (187, .getfield 41, 3), (190, .iload 6, 2), (192, .iaload, 1), (193, .goto 20, 3), (196, .aload_n 0, 1), (197, .getfield 41, 3), (200, .iload 6, 2), (202, .iaload, 1), (203, .i2l, 1), (204, .iload 5, 2), (206, .i2l, 1), (207, .lmul, 1), (208, .iload 4, 2), (210, .i2l, 1), (211, .ldiv, 1), (212, .l2i, 1), (213, .iastore, 1), (214, .iload_n 1, 1), (215, .aload_n 0, 1), (216, .getfield 47, 3), (219, .iload 6, 2), (221, .iaload, 1), (222, .isub, 1), (223, .istore_n 1, 1), (224, .iinc 6 1, 3), (227, .goto (-74), 3), (230, .iconst 0, 1), (231, .istore 6, 2), (233, .iload 6, 2), (235, .aload_n 0, 1), (236, .getfield 9, 3), (239, .bipush 11, 2), (241, .iaload, 1), (242, .if_icmp .ge 59, 3), (245, .iload_n 2, 1), (246, .ifCond .ne 55, 3), (249, .aload_n 0, 1), (250, .getfield 44, 3), (253, .iload 6, 2), (255, .iaload, 1), (256, .iload_n 3, 1), (257, .if_icmp .ne 38, 3), (260, .iload_n 1, 1), (261, .ifCond .le 34, 3), (264, .aload_n 0, 1), (265, .getfield 47, 3), (268, .iload 6, 2), (270, .iaload, 1), (271, .aload_n 0, 1), (272, .getfield 41, 3), (275, .iload 6, 2), (277, .iaload, 1), (278, .if_icmp .ge 17, 3), (281, .aload_n 0, 1), (282, .getfield 47, 3), (285, .iload 6, 2), (287, .dup2, 1), (288, .iaload, 1), (289, .iconst 1, 1), (290, .iadd, 1), (291, .iastore, 1), (292, .iinc 1 (-1), 3), (295, .iinc 6 1, 3), (298, .goto (-65), 3), (301, .iinc 3 1, 3), (304, .goto (-230), 3), (307, .return_, 1)]
set_option maxRecDepth 100000 in
theorem dt_12_findDraws : ∀ q ∈ tab_12_findDraws, decode m_12_findDraws.2.1 q.1 = .ok q.2 := by decide +kernel
def f_12_findDraws_l2 (a0 : Nat) : Nat → Int32 → mm → Option (mm)
  | 0, _, _ => none
  | n + 1, v1, μ => (ld μ (rf a0 0) 11).bind fun x1 =>
    if x1 ≤ v1 then
      some μ
    else
      (f_12_house a0 v1 10 μ).bind fun x4 =>
      (if x4 = 1 then
          some (0, μ)
        else
          (f_12_ticket a0 v1 μ).bind fun z6 =>
          some (z6.1, z6.2)).bind fun (z7 : Int32 × mm) =>
      (sto z7.2 (rf a0 20) v1 z7.1).bind fun μ8 =>
      (f_12_rank a0 v1 μ8).bind fun z11 =>
      (sto z11.2 (rf a0 21) v1 z11.1).bind fun μ12 =>
      (sto μ12 (rf a0 22) v1 0).bind fun μ14 =>
      f_12_findDraws_l2 a0 n (v1 + 1) μ14
set_option maxRecDepth 100000 in
theorem ok_12_findDraws_l2 {l : Launch} {E : ce} {d : Nat} {Q : Option Value → mm → Prop} (a0 : Nat) (k0 : kd a0 = 12) : ∀ (n : Nat) (v1 : Int32) (μ : mm) (z : mm), f_12_findDraws_l2 a0 n v1 μ = some z → Rj l E (d + 4) m_12_findDraws 63 [some (.ref a0), none, none, none, none, none, none] [] z Q → Rj l E (d + 4) m_12_findDraws 2 [some (.ref a0), some (.int v1), none, none, none, none, none] [] μ Q
  | 0, _, _, z, h, _ => by
    rw [f_12_findDraws_l2] at h
    cases h
  | n + 1, v1, μ, z, h, KX => by
    rw [f_12_findDraws_l2] at h
    refine R_iload_n (dd dt_12_findDraws 2 rfl) 1 rfl rfl ?_
    refine R_aload_n (dd dt_12_findDraws 3 rfl) 0 rfl rfl ?_
    refine g_12_9 rfl k0 (dd dt_12_findDraws 4 rfl) ?_
    refine R_bipush (v := 11) (dd dt_12_findDraws 5 rfl) bp_11 ?_
    obtain ⟨x1, e2, h⟩ := bi_el h
    refine R_ild e2 (ty_12_0 k0) (dd dt_12_findDraws 6 rfl) ?_
    refine R_cmpge (dd dt_12_findDraws 7 rfl) (tgt := 63) rfl (fun hc => ?_) (fun hc => ?_)
    · rw [if_pos hc] at h
      obtain rfl := Option.some.inj h
      exact R_mask [true, false, false, false, false, false, false] rfl KX
    · rw [if_neg hc] at h
      refine R_aload_n (dd dt_12_findDraws 8 rfl) 0 rfl rfl ?_
      refine g_12_41 rfl k0 (dd dt_12_findDraws 9 rfl) ?_
      refine R_iload_n (dd dt_12_findDraws 10 rfl) 1 rfl rfl ?_
      refine R_aload_n (dd dt_12_findDraws 11 rfl) 0 rfl rfl ?_
      refine R_iload_n (dd dt_12_findDraws 12 rfl) 1 rfl rfl ?_
      refine R_bipush (v := 10) (dd dt_12_findDraws 13 rfl) bp_10 ?_
      obtain ⟨x4, e3, h⟩ := bi_el h
      refine c_12_98 (As := [.int v1, .int 10]) (st1 := [.int x4, .int v1, .ref (rf a0 20)]) rfl (fun Q1 hq => ok_12_house e3 k0 hq) k0 rfl rfl (Nat.le_of_ble_eq_true rfl) (dd dt_12_findDraws 14 rfl) rfl ?_
      refine R_iconst (v := 1) (dd dt_12_findDraws 15 rfl) ic_1 ?_
      obtain ⟨z7, hz7, h⟩ := bi_el h
      have K7 : Rj l E (d + 4) m_12_findDraws 38 [some (.ref a0), some (.int v1), none, none, none, none, none] [.int z7.1, .int v1, .ref (rf a0 20)] z7.2 Q := by
        clear hz7
        obtain ⟨μ8, e9, h⟩ := bi_el h
        refine R_isto e9 (ty_12_20 k0) (dd dt_12_findDraws 22 rfl) ?_
        refine R_aload_n (dd dt_12_findDraws 23 rfl) 0 rfl rfl ?_
        refine g_12_44 rfl k0 (dd dt_12_findDraws 24 rfl) ?_
        refine R_iload_n (dd dt_12_findDraws 25 rfl) 1 rfl rfl ?_
        refine R_aload_n (dd dt_12_findDraws 26 rfl) 0 rfl rfl ?_
        refine R_iload_n (dd dt_12_findDraws 27 rfl) 1 rfl rfl ?_
        obtain ⟨z11, e10, h⟩ := bi_el h
        refine c_12_105 (As := [.int v1]) (st1 := [.int z11.1, .int v1, .ref (rf a0 21)]) rfl (fun Q1 hq => ok_12_rank e10 k0 hq) k0 rfl rfl (Nat.le_of_ble_eq_true rfl) (dd dt_12_findDraws 28 rfl) rfl ?_
        obtain ⟨μ12, e13, h⟩ := bi_el h
        refine R_isto e13 (ty_12_21 k0) (dd dt_12_findDraws 29 rfl) ?_
        refine R_aload_n (dd dt_12_findDraws 30 rfl) 0 rfl rfl ?_
        refine g_12_47 rfl k0 (dd dt_12_findDraws 31 rfl) ?_
        refine R_iload_n (dd dt_12_findDraws 32 rfl) 1 rfl rfl ?_
        refine R_iconst (v := 0) (dd dt_12_findDraws 33 rfl) ic_0 ?_
        obtain ⟨μ14, e15, h⟩ := bi_el h
        refine R_isto e15 (ty_12_22 k0) (dd dt_12_findDraws 34 rfl) ?_
        refine R_iinc (v := 1) (lv' := [some (.ref a0), some (.int (v1 + 1)), none, none, none, none, none]) (dd dt_12_findDraws 35 rfl) (by decide) rfl rfl ic_1 rfl ?_
        refine R_goto (dd dt_12_findDraws 36 rfl) (tgt := 2) rfl ?_
        exact R_mask [true, true, false, false, false, false, false] rfl (ok_12_findDraws_l2 a0 k0 n (v1 + 1) μ14 _ h KX)
      clear h
      have h := hz7
      clear hz7
      refine R_cmpne (dd dt_12_findDraws 16 rfl) (tgt := 33) rfl (fun hc => ?_) (fun hc => ?_)
      · rw [if_neg hc] at h
        refine R_aload_n (dd dt_12_findDraws 19 rfl) 0 rfl rfl ?_
        refine R_iload_n (dd dt_12_findDraws 20 rfl) 1 rfl rfl ?_
        obtain ⟨z6, e5, h⟩ := bi_el h
        refine c_12_101 (As := [.int v1]) (st1 := [.int z6.1, .int v1, .ref (rf a0 20)]) rfl (fun Q1 hq => ok_12_ticket e5 k0 hq) k0 rfl rfl (Nat.le_of_ble_eq_true rfl) (dd dt_12_findDraws 21 rfl) rfl ?_
        obtain rfl := Option.some.inj h
        exact R_mask [true, true, false, false, false, false, false] rfl K7
      · rw [if_pos hc] at h
        refine R_iconst (v := 0) (dd dt_12_findDraws 17 rfl) ic_0 ?_
        refine R_goto (dd dt_12_findDraws 18 rfl) (tgt := 38) rfl ?_
        obtain rfl := Option.some.inj h
        exact R_mask [true, true, false, false, false, false, false] rfl K7
def f_12_findDraws_l90 (a0 : Nat) (a1 : Int32) (a3 : Int32) (μ : mm) : Nat → Int32 → Int32 → Option (Int32)
  | 0, _, _ => none
  | n + 1, v4, v5 => (ld μ (rf a0 0) 11).bind fun x1 =>
    if x1 ≤ v5 then
      some v4
    else
      (ld μ (rf a0 21) v5).bind fun x3 =>
      if x3 = a3 then
        (ld μ (rf a0 20) v5).bind fun x5 =>
        f_12_findDraws_l90 a0 a1 a3 μ n (v4 + x5) (v5 + 1)
      else
        f_12_findDraws_l90 a0 a1 a3 μ n (v4 + 0) (v5 + 1)
set_option maxRecDepth 100000 in
theorem ok_12_findDraws_l90 {l : Launch} {E : ce} {d : Nat} {Q : Option Value → mm → Prop} (a0 : Nat) (a1 : Int32) (a3 : Int32) (μ : mm) (k0 : kd a0 = 12) : ∀ (n : Nat) (v4 : Int32) (v5 : Int32) (z : Int32), f_12_findDraws_l90 a0 a1 a3 μ n v4 v5 = some z → Rj l E (d + 4) m_12_findDraws 135 [some (.ref a0), some (.int a1), none, some (.int a3), some (.int z), none, none] [] μ Q → Rj l E (d + 4) m_12_findDraws 90 [some (.ref a0), some (.int a1), none, some (.int a3), some (.int v4), some (.int v5), none] [] μ Q
  | 0, _, _, z, h, _ => by
    rw [f_12_findDraws_l90] at h
    cases h
  | n + 1, v4, v5, z, h, KX => by
    rw [f_12_findDraws_l90] at h
    refine R_iload (dd dt_12_findDraws 55 rfl) rfl ?_
    refine R_aload_n (dd dt_12_findDraws 56 rfl) 0 rfl rfl ?_
    refine g_12_9 rfl k0 (dd dt_12_findDraws 57 rfl) ?_
    refine R_bipush (v := 11) (dd dt_12_findDraws 58 rfl) bp_11 ?_
    obtain ⟨x1, e2, h⟩ := bi_el h
    refine R_ild e2 (ty_12_0 k0) (dd dt_12_findDraws 59 rfl) ?_
    refine R_cmpge (dd dt_12_findDraws 60 rfl) (tgt := 135) rfl (fun hc => ?_) (fun hc => ?_)
    · rw [if_pos hc] at h
      obtain rfl := Option.some.inj h
      exact R_mask [true, true, false, true, true, false, false] rfl KX
    · rw [if_neg hc] at h
      refine R_iload (dd dt_12_findDraws 61 rfl) rfl ?_
      refine R_aload_n (dd dt_12_findDraws 62 rfl) 0 rfl rfl ?_
      refine g_12_44 rfl k0 (dd dt_12_findDraws 63 rfl) ?_
      refine R_iload (dd dt_12_findDraws 64 rfl) rfl ?_
      obtain ⟨x3, e4, h⟩ := bi_el h
      refine R_ild e4 (ty_12_21 k0) (dd dt_12_findDraws 65 rfl) ?_
      refine R_iload_n (dd dt_12_findDraws 66 rfl) 3 rfl rfl ?_
      refine R_cmpne (dd dt_12_findDraws 67 rfl) (tgt := 125) rfl (fun hc => ?_) (fun hc => ?_)
      · rw [if_neg hc] at h
        refine R_iconst (v := 0) (dd dt_12_findDraws 73 rfl) ic_0 ?_
        refine R_iadd (dd dt_12_findDraws 74 rfl) ?_
        refine R_istore (lv' := [some (.ref a0), some (.int a1), none, some (.int a3), some (.int (v4 + 0)), some (.int v5), none]) (dd dt_12_findDraws 75 rfl) (by decide) rfl rfl ?_
        refine R_iinc (v := 1) (lv' := [some (.ref a0), some (.int a1), none, some (.int a3), some (.int (v4 + 0)), some (.int (v5 + 1)), none]) (dd dt_12_findDraws 76 rfl) (by decide) rfl rfl ic_1 rfl ?_
        refine R_goto (dd dt_12_findDraws 77 rfl) (tgt := 90) rfl ?_
        exact R_mask [true, true, false, true, true, true, false] rfl (ok_12_findDraws_l90 a0 a1 a3 μ k0 n (v4 + 0) (v5 + 1) _ h KX)
      · rw [if_pos hc] at h
        refine R_aload_n (dd dt_12_findDraws 68 rfl) 0 rfl rfl ?_
        refine g_12_41 rfl k0 (dd dt_12_findDraws 69 rfl) ?_
        refine R_iload (dd dt_12_findDraws 70 rfl) rfl ?_
        obtain ⟨x5, e6, h⟩ := bi_el h
        refine R_ild e6 (ty_12_20 k0) (dd dt_12_findDraws 71 rfl) ?_
        refine R_goto (dd dt_12_findDraws 72 rfl) (tgt := 126) rfl ?_
        refine R_iadd (dd dt_12_findDraws 74 rfl) ?_
        refine R_istore (lv' := [some (.ref a0), some (.int a1), none, some (.int a3), some (.int (v4 + x5)), some (.int v5), none]) (dd dt_12_findDraws 75 rfl) (by decide) rfl rfl ?_
        refine R_iinc (v := 1) (lv' := [some (.ref a0), some (.int a1), none, some (.int a3), some (.int (v4 + x5)), some (.int (v5 + 1)), none]) (dd dt_12_findDraws 76 rfl) (by decide) rfl rfl ic_1 rfl ?_
        refine R_goto (dd dt_12_findDraws 77 rfl) (tgt := 90) rfl ?_
        exact R_mask [true, true, false, true, true, true, false] rfl (ok_12_findDraws_l90 a0 a1 a3 μ k0 n (v4 + x5) (v5 + 1) _ h KX)
def f_12_findDraws_l153 (a0 : Nat) (a2 : Int32) (a3 : Int32) (a4 : Int32) (a5 : Int32) : Nat → Int32 → Int32 → mm → Option (Int32 × mm)
  | 0, _, _, _ => none
  | n + 1, v1, v6, μ => (ld μ (rf a0 0) 11).bind fun x1 =>
    if x1 ≤ v6 then
      some (v1, μ)
    else
      (ld μ (rf a0 21) v6).bind fun x3 =>
      if x3 = a3 then
        (if a2 = 0 then
            (ld μ (rf a0 20) v6).bind fun x5 =>
            (gdL a4.toInt64).bind fun _ =>
            some (((x5.toInt64 * a5.toInt64) / a4.toInt64).toInt32)
          else
            (ld μ (rf a0 20) v6).bind fun x8 =>
            some x8).bind fun (z10 : Int32) =>
        (sto μ (rf a0 22) v6 z10).bind fun μ11 =>
        (ld μ11 (rf a0 22) v6).bind fun x13 =>
        f_12_findDraws_l153 a0 a2 a3 a4 a5 n (v1 - x13) (v6 + 1) μ11
      else
        f_12_findDraws_l153 a0 a2 a3 a4 a5 n v1 (v6 + 1) μ
set_option maxRecDepth 100000 in
theorem ok_12_findDraws_l153 {l : Launch} {E : ce} {d : Nat} {Q : Option Value → mm → Prop} (a0 : Nat) (a2 : Int32) (a3 : Int32) (a4 : Int32) (a5 : Int32) (k0 : kd a0 = 12) : ∀ (n : Nat) (v1 : Int32) (v6 : Int32) (μ : mm) (z : Int32 × mm), f_12_findDraws_l153 a0 a2 a3 a4 a5 n v1 v6 μ = some z → Rj l E (d + 4) m_12_findDraws 230 [some (.ref a0), some (.int z.1), some (.int a2), some (.int a3), none, none, none] [] z.2 Q → Rj l E (d + 4) m_12_findDraws 153 [some (.ref a0), some (.int v1), some (.int a2), some (.int a3), some (.int a4), some (.int a5), some (.int v6)] [] μ Q
  | 0, _, _, _, z, h, _ => by
    rw [f_12_findDraws_l153] at h
    cases h
  | n + 1, v1, v6, μ, z, h, KX => by
    rw [f_12_findDraws_l153] at h
    refine R_iload (dd dt_12_findDraws 89 rfl) rfl ?_
    refine R_aload_n (dd dt_12_findDraws 90 rfl) 0 rfl rfl ?_
    refine g_12_9 rfl k0 (dd dt_12_findDraws 91 rfl) ?_
    refine R_bipush (v := 11) (dd dt_12_findDraws 92 rfl) bp_11 ?_
    obtain ⟨x1, e2, h⟩ := bi_el h
    refine R_ild e2 (ty_12_0 k0) (dd dt_12_findDraws 93 rfl) ?_
    refine R_cmpge (dd dt_12_findDraws 94 rfl) (tgt := 230) rfl (fun hc => ?_) (fun hc => ?_)
    · rw [if_pos hc] at h
      obtain rfl := Option.some.inj h
      exact R_mask [true, true, true, true, false, false, false] rfl KX
    · rw [if_neg hc] at h
      refine R_aload_n (dd dt_12_findDraws 95 rfl) 0 rfl rfl ?_
      refine g_12_44 rfl k0 (dd dt_12_findDraws 96 rfl) ?_
      refine R_iload (dd dt_12_findDraws 97 rfl) rfl ?_
      obtain ⟨x3, e4, h⟩ := bi_el h
      refine R_ild e4 (ty_12_21 k0) (dd dt_12_findDraws 98 rfl) ?_
      refine R_iload_n (dd dt_12_findDraws 99 rfl) 3 rfl rfl ?_
      refine R_cmpne (dd dt_12_findDraws 100 rfl) (tgt := 224) rfl (fun hc => ?_) (fun hc => ?_)
      · rw [if_neg hc] at h
        refine R_iinc (v := 1) (lv' := [some (.ref a0), some (.int v1), some (.int a2), some (.int a3), some (.int a4), some (.int a5), some (.int (v6 + 1))]) (dd dt_12_findDraws 131 rfl) (by decide) rfl rfl ic_1 rfl ?_
        refine R_goto (dd dt_12_findDraws 132 rfl) (tgt := 153) rfl ?_
        exact R_mask [true, true, true, true, true, true, true] rfl (ok_12_findDraws_l153 a0 a2 a3 a4 a5 k0 n v1 (v6 + 1) μ _ h KX)
      · rw [if_pos hc] at h
        refine R_aload_n (dd dt_12_findDraws 101 rfl) 0 rfl rfl ?_
        refine g_12_47 rfl k0 (dd dt_12_findDraws 102 rfl) ?_
        refine R_iload (dd dt_12_findDraws 103 rfl) rfl ?_
        refine R_iload_n (dd dt_12_findDraws 104 rfl) 2 rfl rfl ?_
        obtain ⟨z10, hz10, h⟩ := bi_el h
        have K10 : Rj l E (d + 4) m_12_findDraws 213 [some (.ref a0), some (.int v1), some (.int a2), some (.int a3), some (.int a4), some (.int a5), some (.int v6)] [.int z10, .int v6, .ref (rf a0 22)] μ Q := by
          clear hz10
          obtain ⟨μ11, e12, h⟩ := bi_el h
          refine R_isto e12 (ty_12_22 k0) (dd dt_12_findDraws 123 rfl) ?_
          refine R_iload_n (dd dt_12_findDraws 124 rfl) 1 rfl rfl ?_
          refine R_aload_n (dd dt_12_findDraws 125 rfl) 0 rfl rfl ?_
          refine g_12_47 rfl k0 (dd dt_12_findDraws 126 rfl) ?_
          refine R_iload (dd dt_12_findDraws 127 rfl) rfl ?_
          obtain ⟨x13, e14, h⟩ := bi_el h
          refine R_ild e14 (ty_12_22 k0) (dd dt_12_findDraws 128 rfl) ?_
          refine R_isub (dd dt_12_findDraws 129 rfl) ?_
          refine R_istore_n (lv' := [some (.ref a0), some (.int (v1 - x13)), some (.int a2), some (.int a3), some (.int a4), some (.int a5), some (.int v6)]) (dd dt_12_findDraws 130 rfl) 1 rfl (by decide) rfl rfl ?_
          refine R_iinc (v := 1) (lv' := [some (.ref a0), some (.int (v1 - x13)), some (.int a2), some (.int a3), some (.int a4), some (.int a5), some (.int (v6 + 1))]) (dd dt_12_findDraws 131 rfl) (by decide) rfl rfl ic_1 rfl ?_
          refine R_goto (dd dt_12_findDraws 132 rfl) (tgt := 153) rfl ?_
          exact R_mask [true, true, true, true, true, true, true] rfl (ok_12_findDraws_l153 a0 a2 a3 a4 a5 k0 n (v1 - x13) (v6 + 1) μ11 _ h KX)
        clear h
        have h := hz10
        clear hz10
        refine R_ifeq (dd dt_12_findDraws 105 rfl) (tgt := 196) rfl (fun hc => ?_) (fun hc => ?_)
        · rw [if_pos hc] at h
          refine R_aload_n (dd dt_12_findDraws 111 rfl) 0 rfl rfl ?_
          refine g_12_41 rfl k0 (dd dt_12_findDraws 112 rfl) ?_
          refine R_iload (dd dt_12_findDraws 113 rfl) rfl ?_
          obtain ⟨x5, e6, h⟩ := bi_el h
          refine R_ild e6 (ty_12_20 k0) (dd dt_12_findDraws 114 rfl) ?_
          refine R_i2l (dd dt_12_findDraws 115 rfl) ?_
          refine R_iload (dd dt_12_findDraws 116 rfl) rfl ?_
          refine R_i2l (dd dt_12_findDraws 117 rfl) ?_
          refine R_lmul (dd dt_12_findDraws 118 rfl) ?_
          refine R_iload (dd dt_12_findDraws 119 rfl) rfl ?_
          refine R_i2l (dd dt_12_findDraws 120 rfl) ?_
          obtain ⟨_, q7, h⟩ := bi_el h
          refine R_ldiv (dd dt_12_findDraws 121 rfl) (gdL_el q7).1 ?_
          refine R_l2i (dd dt_12_findDraws 122 rfl) ?_
          obtain rfl := Option.some.inj h
          exact R_mask [true, true, true, true, true, true, true] rfl K10
        · rw [if_neg hc] at h
          refine R_aload_n (dd dt_12_findDraws 106 rfl) 0 rfl rfl ?_
          refine g_12_41 rfl k0 (dd dt_12_findDraws 107 rfl) ?_
          refine R_iload (dd dt_12_findDraws 108 rfl) rfl ?_
          obtain ⟨x8, e9, h⟩ := bi_el h
          refine R_ild e9 (ty_12_20 k0) (dd dt_12_findDraws 109 rfl) ?_
          refine R_goto (dd dt_12_findDraws 110 rfl) (tgt := 213) rfl ?_
          obtain rfl := Option.some.inj h
          exact R_mask [true, true, true, true, true, true, true] rfl K10
def f_12_findDraws_l233 (a0 : Nat) (a2 : Int32) (a3 : Int32) : Nat → Int32 → Int32 → mm → Option (Int32 × mm)
  | 0, _, _, _ => none
  | n + 1, v1, v6, μ => (ld μ (rf a0 0) 11).bind fun x1 =>
    if x1 ≤ v6 then
      some (v1, μ)
    else
      if a2 = 0 then
        (ld μ (rf a0 21) v6).bind fun x3 =>
        if x3 = a3 then
          if v1 ≤ 0 then
            f_12_findDraws_l233 a0 a2 a3 n v1 (v6 + 1) μ
          else
            (ld μ (rf a0 22) v6).bind fun x5 =>
            (ld μ (rf a0 20) v6).bind fun x7 =>
            if x7 ≤ x5 then
              f_12_findDraws_l233 a0 a2 a3 n v1 (v6 + 1) μ
            else
              (ld μ (rf a0 22) v6).bind fun x9 =>
              (sto μ (rf a0 22) v6 (x9 + 1)).bind fun μ11 =>
              f_12_findDraws_l233 a0 a2 a3 n (v1 + (-1)) (v6 + 1) μ11
        else
          f_12_findDraws_l233 a0 a2 a3 n v1 (v6 + 1) μ
      else
        some (v1, μ)
set_option maxRecDepth 100000 in
theorem ok_12_findDraws_l233 {l : Launch} {E : ce} {d : Nat} {Q : Option Value → mm → Prop} (a0 : Nat) (a2 : Int32) (a3 : Int32) (k0 : kd a0 = 12) : ∀ (n : Nat) (v1 : Int32) (v6 : Int32) (μ : mm) (z : Int32 × mm), f_12_findDraws_l233 a0 a2 a3 n v1 v6 μ = some z → Rj l E (d + 4) m_12_findDraws 301 [some (.ref a0), some (.int z.1), some (.int a2), some (.int a3), none, none, none] [] z.2 Q → Rj l E (d + 4) m_12_findDraws 233 [some (.ref a0), some (.int v1), some (.int a2), some (.int a3), none, none, some (.int v6)] [] μ Q
  | 0, _, _, _, z, h, _ => by
    rw [f_12_findDraws_l233] at h
    cases h
  | n + 1, v1, v6, μ, z, h, KX => by
    rw [f_12_findDraws_l233] at h
    refine R_iload (dd dt_12_findDraws 135 rfl) rfl ?_
    refine R_aload_n (dd dt_12_findDraws 136 rfl) 0 rfl rfl ?_
    refine g_12_9 rfl k0 (dd dt_12_findDraws 137 rfl) ?_
    refine R_bipush (v := 11) (dd dt_12_findDraws 138 rfl) bp_11 ?_
    obtain ⟨x1, e2, h⟩ := bi_el h
    refine R_ild e2 (ty_12_0 k0) (dd dt_12_findDraws 139 rfl) ?_
    refine R_cmpge (dd dt_12_findDraws 140 rfl) (tgt := 301) rfl (fun hc => ?_) (fun hc => ?_)
    · rw [if_pos hc] at h
      obtain rfl := Option.some.inj h
      exact R_mask [true, true, true, true, false, false, false] rfl KX
    · rw [if_neg hc] at h
      refine R_iload_n (dd dt_12_findDraws 141 rfl) 2 rfl rfl ?_
      refine R_ifne (dd dt_12_findDraws 142 rfl) (tgt := 301) rfl (fun hc => ?_) (fun hc => ?_)
      · rw [if_neg hc] at h
        obtain rfl := Option.some.inj h
        exact R_mask [true, true, true, true, false, false, false] rfl KX
      · rw [if_pos hc] at h
        refine R_aload_n (dd dt_12_findDraws 143 rfl) 0 rfl rfl ?_
        refine g_12_44 rfl k0 (dd dt_12_findDraws 144 rfl) ?_
        refine R_iload (dd dt_12_findDraws 145 rfl) rfl ?_
        obtain ⟨x3, e4, h⟩ := bi_el h
        refine R_ild e4 (ty_12_21 k0) (dd dt_12_findDraws 146 rfl) ?_
        refine R_iload_n (dd dt_12_findDraws 147 rfl) 3 rfl rfl ?_
        refine R_cmpne (dd dt_12_findDraws 148 rfl) (tgt := 295) rfl (fun hc => ?_) (fun hc => ?_)
        · rw [if_neg hc] at h
          refine R_iinc (v := 1) (lv' := [some (.ref a0), some (.int v1), some (.int a2), some (.int a3), none, none, some (.int (v6 + 1))]) (dd dt_12_findDraws 169 rfl) (by decide) rfl rfl ic_1 rfl ?_
          refine R_goto (dd dt_12_findDraws 170 rfl) (tgt := 233) rfl ?_
          exact R_mask [true, true, true, true, false, false, true] rfl (ok_12_findDraws_l233 a0 a2 a3 k0 n v1 (v6 + 1) μ _ h KX)
        · rw [if_pos hc] at h
          refine R_iload_n (dd dt_12_findDraws 149 rfl) 1 rfl rfl ?_
          refine R_ifle (dd dt_12_findDraws 150 rfl) (tgt := 295) rfl (fun hc => ?_) (fun hc => ?_)
          · rw [if_pos hc] at h
            refine R_iinc (v := 1) (lv' := [some (.ref a0), some (.int v1), some (.int a2), some (.int a3), none, none, some (.int (v6 + 1))]) (dd dt_12_findDraws 169 rfl) (by decide) rfl rfl ic_1 rfl ?_
            refine R_goto (dd dt_12_findDraws 170 rfl) (tgt := 233) rfl ?_
            exact R_mask [true, true, true, true, false, false, true] rfl (ok_12_findDraws_l233 a0 a2 a3 k0 n v1 (v6 + 1) μ _ h KX)
          · rw [if_neg hc] at h
            refine R_aload_n (dd dt_12_findDraws 151 rfl) 0 rfl rfl ?_
            refine g_12_47 rfl k0 (dd dt_12_findDraws 152 rfl) ?_
            refine R_iload (dd dt_12_findDraws 153 rfl) rfl ?_
            obtain ⟨x5, e6, h⟩ := bi_el h
            refine R_ild e6 (ty_12_22 k0) (dd dt_12_findDraws 154 rfl) ?_
            refine R_aload_n (dd dt_12_findDraws 155 rfl) 0 rfl rfl ?_
            refine g_12_41 rfl k0 (dd dt_12_findDraws 156 rfl) ?_
            refine R_iload (dd dt_12_findDraws 157 rfl) rfl ?_
            obtain ⟨x7, e8, h⟩ := bi_el h
            refine R_ild e8 (ty_12_20 k0) (dd dt_12_findDraws 158 rfl) ?_
            refine R_cmpge (dd dt_12_findDraws 159 rfl) (tgt := 295) rfl (fun hc => ?_) (fun hc => ?_)
            · rw [if_pos hc] at h
              refine R_iinc (v := 1) (lv' := [some (.ref a0), some (.int v1), some (.int a2), some (.int a3), none, none, some (.int (v6 + 1))]) (dd dt_12_findDraws 169 rfl) (by decide) rfl rfl ic_1 rfl ?_
              refine R_goto (dd dt_12_findDraws 170 rfl) (tgt := 233) rfl ?_
              exact R_mask [true, true, true, true, false, false, true] rfl (ok_12_findDraws_l233 a0 a2 a3 k0 n v1 (v6 + 1) μ _ h KX)
            · rw [if_neg hc] at h
              refine R_aload_n (dd dt_12_findDraws 160 rfl) 0 rfl rfl ?_
              refine g_12_47 rfl k0 (dd dt_12_findDraws 161 rfl) ?_
              refine R_iload (dd dt_12_findDraws 162 rfl) rfl ?_
              refine R_dup2 (dd dt_12_findDraws 163 rfl) rfl rfl ?_
              obtain ⟨x9, e10, h⟩ := bi_el h
              refine R_ild e10 (ty_12_22 k0) (dd dt_12_findDraws 164 rfl) ?_
              refine R_iconst (v := 1) (dd dt_12_findDraws 165 rfl) ic_1 ?_
              refine R_iadd (dd dt_12_findDraws 166 rfl) ?_
              obtain ⟨μ11, e12, h⟩ := bi_el h
              refine R_isto e12 (ty_12_22 k0) (dd dt_12_findDraws 167 rfl) ?_
              refine R_iinc (v := (-1)) (lv' := [some (.ref a0), some (.int (v1 + (-1))), some (.int a2), some (.int a3), none, none, some (.int v6)]) (dd dt_12_findDraws 168 rfl) (by decide) rfl rfl ic_m1 rfl ?_
              refine R_iinc (v := 1) (lv' := [some (.ref a0), some (.int (v1 + (-1))), some (.int a2), some (.int a3), none, none, some (.int (v6 + 1))]) (dd dt_12_findDraws 169 rfl) (by decide) rfl rfl ic_1 rfl ?_
              refine R_goto (dd dt_12_findDraws 170 rfl) (tgt := 233) rfl ?_
              exact R_mask [true, true, true, true, false, false, true] rfl (ok_12_findDraws_l233 a0 a2 a3 k0 n (v1 + (-1)) (v6 + 1) μ11 _ h KX)
def f_12_findDraws_l74 (a0 : Nat) : Nat → Int32 → Int32 → Int32 → mm → Option (mm)
  | 0, _, _, _, _ => none
  | n + 1, v1, v2, v3, μ => if 9 < v3 then
      some μ
    else
      if v2 = 0 then
        some μ
      else
        (f_12_findDraws_l90 a0 v1 v3 μ FU 0 0).bind fun z1 =>
        (if v1 < z1 then
            some 0
          else
            some 1).bind fun (z3 : Int32) =>
        (f_12_findDraws_l153 a0 z3 v3 z1 v1 FU v1 0 μ).bind fun z4 =>
        (f_12_findDraws_l233 a0 z3 v3 FU z4.1 0 z4.2).bind fun z6 =>
        f_12_findDraws_l74 a0 n z6.1 z3 (v3 + 1) z6.2
set_option maxRecDepth 100000 in
theorem ok_12_findDraws_l74 {l : Launch} {E : ce} {d : Nat} {Q : Option Value → mm → Prop} (a0 : Nat) (k0 : kd a0 = 12) : ∀ (n : Nat) (v1 : Int32) (v2 : Int32) (v3 : Int32) (μ : mm) (z : mm), f_12_findDraws_l74 a0 n v1 v2 v3 μ = some z → Rj l E (d + 4) m_12_findDraws 307 [none, none, none, none, none, none, none] [] z Q → Rj l E (d + 4) m_12_findDraws 74 [some (.ref a0), some (.int v1), some (.int v2), some (.int v3), none, none, none] [] μ Q
  | 0, _, _, _, _, z, h, _ => by
    rw [f_12_findDraws_l74] at h
    cases h
  | n + 1, v1, v2, v3, μ, z, h, KX => by
    rw [f_12_findDraws_l74] at h
    refine R_iload_n (dd dt_12_findDraws 46 rfl) 3 rfl rfl ?_
    refine R_bipush (v := 9) (dd dt_12_findDraws 47 rfl) bp_9 ?_
    refine R_cmpgt (dd dt_12_findDraws 48 rfl) (tgt := 307) rfl (fun hc => ?_) (fun hc => ?_)
    · rw [if_pos hc] at h
      obtain rfl := Option.some.inj h
      exact R_mask [false, false, false, false, false, false, false] rfl KX
    · rw [if_neg hc] at h
      refine R_iload_n (dd dt_12_findDraws 49 rfl) 2 rfl rfl ?_
      refine R_ifeq (dd dt_12_findDraws 50 rfl) (tgt := 307) rfl (fun hc => ?_) (fun hc => ?_)
      · rw [if_pos hc] at h
        obtain rfl := Option.some.inj h
        exact R_mask [false, false, false, false, false, false, false] rfl KX
      · rw [if_neg hc] at h
        refine R_iconst (v := 0) (dd dt_12_findDraws 51 rfl) ic_0 ?_
        refine R_istore (lv' := [some (.ref a0), some (.int v1), some (.int v2), some (.int v3), some (.int 0), none, none]) (dd dt_12_findDraws 52 rfl) (by decide) rfl rfl ?_
        refine R_iconst (v := 0) (dd dt_12_findDraws 53 rfl) ic_0 ?_
        refine R_istore (lv' := [some (.ref a0), some (.int v1), some (.int v2), some (.int v3), some (.int 0), some (.int 0), none]) (dd dt_12_findDraws 54 rfl) (by decide) rfl rfl ?_
        obtain ⟨z1, e2, h⟩ := bi_el h
        refine R_mask [true, true, false, true, true, true, false] rfl (ok_12_findDraws_l90 a0 v1 v3 μ k0 FU 0 0 _ e2 ?_)
        refine R_iload (dd dt_12_findDraws 78 rfl) rfl ?_
        refine R_iload_n (dd dt_12_findDraws 79 rfl) 1 rfl rfl ?_
        obtain ⟨z3, hz3, h⟩ := bi_el h
        have K3 : Rj l E (d + 4) m_12_findDraws 146 [some (.ref a0), some (.int v1), none, some (.int v3), some (.int z1), none, none] [.int z3] μ Q := by
          clear hz3
          refine R_istore_n (lv' := [some (.ref a0), some (.int v1), some (.int z3), some (.int v3), some (.int z1), none, none]) (dd dt_12_findDraws 84 rfl) 2 rfl (by decide) rfl rfl ?_
          refine R_iload_n (dd dt_12_findDraws 85 rfl) 1 rfl rfl ?_
          refine R_istore (lv' := [some (.ref a0), some (.int v1), some (.int z3), some (.int v3), some (.int z1), some (.int v1), none]) (dd dt_12_findDraws 86 rfl) (by decide) rfl rfl ?_
          refine R_iconst (v := 0) (dd dt_12_findDraws 87 rfl) ic_0 ?_
          refine R_istore (lv' := [some (.ref a0), some (.int v1), some (.int z3), some (.int v3), some (.int z1), some (.int v1), some (.int 0)]) (dd dt_12_findDraws 88 rfl) (by decide) rfl rfl ?_
          obtain ⟨z4, e5, h⟩ := bi_el h
          refine R_mask [true, true, true, true, true, true, true] rfl (ok_12_findDraws_l153 a0 z3 v3 z1 v1 k0 FU v1 0 μ _ e5 ?_)
          refine R_iconst (v := 0) (dd dt_12_findDraws 133 rfl) ic_0 ?_
          refine R_istore (lv' := [some (.ref a0), some (.int z4.1), some (.int z3), some (.int v3), none, none, some (.int 0)]) (dd dt_12_findDraws 134 rfl) (by decide) rfl rfl ?_
          obtain ⟨z6, e7, h⟩ := bi_el h
          refine R_mask [true, true, true, true, false, false, true] rfl (ok_12_findDraws_l233 a0 z3 v3 k0 FU z4.1 0 z4.2 _ e7 ?_)
          refine R_iinc (v := 1) (lv' := [some (.ref a0), some (.int z6.1), some (.int z3), some (.int (v3 + 1)), none, none, none]) (dd dt_12_findDraws 171 rfl) (by decide) rfl rfl ic_1 rfl ?_
          refine R_goto (dd dt_12_findDraws 172 rfl) (tgt := 74) rfl ?_
          exact R_mask [true, true, true, true, false, false, false] rfl (ok_12_findDraws_l74 a0 k0 n z6.1 z3 (v3 + 1) z6.2 _ h KX)
        clear h
        have h := hz3
        clear hz3
        refine R_cmpgt (dd dt_12_findDraws 80 rfl) (tgt := 145) rfl (fun hc => ?_) (fun hc => ?_)
        · rw [if_pos hc] at h
          refine R_iconst (v := 0) (dd dt_12_findDraws 83 rfl) ic_0 ?_
          obtain rfl := Option.some.inj h
          exact R_mask [true, true, false, true, true, false, false] rfl K3
        · rw [if_neg hc] at h
          refine R_iconst (v := 1) (dd dt_12_findDraws 81 rfl) ic_1 ?_
          refine R_goto (dd dt_12_findDraws 82 rfl) (tgt := 146) rfl ?_
          obtain rfl := Option.some.inj h
          exact R_mask [true, true, false, true, true, false, false] rfl K3
def f_12_findDraws (a0 : Nat) (μ : mm) : Option (mm) :=
  (f_12_findDraws_l2 a0 FU 0 μ).bind fun z1 =>
  (ld z1 (rf a0 0) 1).bind fun x3 =>
  (f_12_findDraws_l74 a0 FU x3 1 0 z1).bind fun z5 =>
  some z5
set_option maxRecDepth 100000 in
set_option maxHeartbeats 4000000 in
theorem ok_12_findDraws {l : Launch} {E : ce} {d : Nat}  {a0 : Nat} {μ : mm} {r : mm} {Q : Option Value → mm → Prop} (h : f_12_findDraws a0 μ = some r) (k0 : kd a0 = 12) (hQ : Q none r) : Ct l E (d + 4) yX12_findDraws m_12_findDraws [.ref a0] μ Q := by
  refine Ct_of (lv := [some (.ref a0), none, none, none, none, none, none]) (by decide) rfl (Nat.le_of_ble_eq_true rfl) rfl ?_
  unfold f_12_findDraws at h
  refine R_iconst (v := 0) (dd dt_12_findDraws 0 rfl) ic_0 ?_
  refine R_istore_n (lv' := [some (.ref a0), some (.int 0), none, none, none, none, none]) (dd dt_12_findDraws 1 rfl) 1 rfl (by decide) rfl rfl ?_
  obtain ⟨z1, e2, h⟩ := bi_el h
  refine R_mask [true, true, false, false, false, false, false] rfl (ok_12_findDraws_l2 a0 k0 FU 0 μ _ e2 ?_)
  refine R_aload_n (dd dt_12_findDraws 37 rfl) 0 rfl rfl ?_
  refine g_12_9 rfl k0 (dd dt_12_findDraws 38 rfl) ?_
  refine R_iconst (v := 1) (dd dt_12_findDraws 39 rfl) ic_1 ?_
  obtain ⟨x3, e4, h⟩ := bi_el h
  refine R_ild e4 (ty_12_0 k0) (dd dt_12_findDraws 40 rfl) ?_
  refine R_istore_n (lv' := [some (.ref a0), some (.int x3), none, none, none, none, none]) (dd dt_12_findDraws 41 rfl) 1 rfl (by decide) rfl rfl ?_
  refine R_iconst (v := 1) (dd dt_12_findDraws 42 rfl) ic_1 ?_
  refine R_istore_n (lv' := [some (.ref a0), some (.int x3), some (.int 1), none, none, none, none]) (dd dt_12_findDraws 43 rfl) 2 rfl (by decide) rfl rfl ?_
  refine R_iconst (v := 0) (dd dt_12_findDraws 44 rfl) ic_0 ?_
  refine R_istore_n (lv' := [some (.ref a0), some (.int x3), some (.int 1), some (.int 0), none, none, none]) (dd dt_12_findDraws 45 rfl) 3 rfl (by decide) rfl rfl ?_
  obtain ⟨z5, e6, h⟩ := bi_el h
  refine R_mask [true, true, true, true, false, false, false] rfl (ok_12_findDraws_l74 a0 k0 FU x3 1 0 z1 _ e6 ?_)
  obtain rfl := Option.some.inj h
  exact R_vret rfl (dd dt_12_findDraws 173 rfl) hQ
/-! LongStrikeModel.share()V -/
def tab_12_share : List (Nat × Instr × Nat) := [(0, .aload_n 0, 1), (1, .invokevirtual 234, 3), (4, .iconst 0, 1), (5, .istore_n 1, 1), (6, .iload_n 1, 1), (7, .aload_n 0, 1), (8, .getfield 9, 3), (11, .bipush 11, 2), (13, .iaload, 1), (14, .if_icmp .ge 42, 3), (17, .aload_n 0, 1), (18, .getfield 50, 3), (21, .iload_n 1, 1), (22, .aload_n 0, 1), (23, .iload_n 1, 1), (24, .bipush 10, 2), (26, .invokevirtual 98, 3), (29, .iconst 1, 1), (30, .if_icmp .ne 7, 3), (33, .iconst 0, 1), (34, .goto 15, 3), (37, .aload_n 0, 1), (38, .getfield 47, 3), (41, .iload_n 1, 1), (42, .iaload, 1), (43, .aload_n 0, 1), (44, .iload_n 1, 1), (45, .invokevirtual 108, 3), (48, .iadd, 1), (49, .iastore, 1), (50, .iinc 1 1, 3), (53, .goto (-47), 3), (56, .iconst 0, 1), (57, .istore_n 1, 1), (58, .iload_n 1, 1), (59, .aload_n 0, 1), (60, .getfield 9, 3), (63, .bipush 11, 2), (65, .iaload, 1), (66, .if_icmp .ge 60, 3), (69, .bipush 96, 2), (71, .bipush 12, 2), (73, .iload_n 1, 1), (74, .imul, 1), (75, .iadd, 1), (76, .bipush 6, 2), (78, .iadd, 1), (79, .istore_n 2, 1), (80, .aload_n 0, 1), (81, .getfield 9, 3), (84, .iconst 1, 1), (85, .dup2, 1), (86, .iaload, 1), (87, .aload_n 0, 1), (88, .getfield 47, 3), (91, .iload_n 1, 1), (92, .iaload, 1), (93, .isub, 1), (94, .iastore, 1), (95, .aload_n 0, 1), (96, .getfield 9, 3), (99, .iload_n 2, 1), (100, .sipush 999, 3), (103, .aload_n 0, 1), (104, .getfield 9, 3), (107, .iload_n 2, 1), (108, .iaload, 1), (109, .aload_n 0, 1), (110, .getfield 50, 3), (113, .iload_n 1, 1), (114, .iaload, 1), (115, .iadd, 1), (116, .invokestatic 127, 3), (119, .iastore, 1), (120, .iinc 1 1, 3), (123, .goto (-65), 3), (126, .return_, 1)]
set_option maxRecDepth 100000 in
theorem dt_12_share : ∀ q ∈ tab_12_share, decode m_12_share.2.1 q.1 = .ok q.2 := by decide +kernel
def f_12_share_l6 (a0 : Nat) : Nat → Int32 → mm → Option (mm)
  | 0, _, _ => none
  | n + 1, v1, μ => (ld μ (rf a0 0) 11).bind fun x1 =>
    if x1 ≤ v1 then
      some μ
    else
      (f_12_house a0 v1 10 μ).bind fun x4 =>
      (if x4 = 1 then
          some (0, μ)
        else
          (ld μ (rf a0 22) v1).bind fun x5 =>
          (f_12_relief a0 v1 μ).bind fun z8 =>
          some ((x5 + z8.1), z8.2)).bind fun (z9 : Int32 × mm) =>
      (sto z9.2 (rf a0 23) v1 z9.1).bind fun μ10 =>
      f_12_share_l6 a0 n (v1 + 1) μ10
set_option maxRecDepth 100000 in
theorem ok_12_share_l6 {l : Launch} {E : ce} {d : Nat} {Q : Option Value → mm → Prop} (a0 : Nat) (k0 : kd a0 = 12) : ∀ (n : Nat) (v1 : Int32) (μ : mm) (z : mm), f_12_share_l6 a0 n v1 μ = some z → Rj l E (d + 5) m_12_share 56 [some (.ref a0), none, none] [] z Q → Rj l E (d + 5) m_12_share 6 [some (.ref a0), some (.int v1), none] [] μ Q
  | 0, _, _, z, h, _ => by
    rw [f_12_share_l6] at h
    cases h
  | n + 1, v1, μ, z, h, KX => by
    rw [f_12_share_l6] at h
    refine R_iload_n (dd dt_12_share 4 rfl) 1 rfl rfl ?_
    refine R_aload_n (dd dt_12_share 5 rfl) 0 rfl rfl ?_
    refine g_12_9 rfl k0 (dd dt_12_share 6 rfl) ?_
    refine R_bipush (v := 11) (dd dt_12_share 7 rfl) bp_11 ?_
    obtain ⟨x1, e2, h⟩ := bi_el h
    refine R_ild e2 (ty_12_0 k0) (dd dt_12_share 8 rfl) ?_
    refine R_cmpge (dd dt_12_share 9 rfl) (tgt := 56) rfl (fun hc => ?_) (fun hc => ?_)
    · rw [if_pos hc] at h
      obtain rfl := Option.some.inj h
      exact R_mask [true, false, false] rfl KX
    · rw [if_neg hc] at h
      refine R_aload_n (dd dt_12_share 10 rfl) 0 rfl rfl ?_
      refine g_12_50 rfl k0 (dd dt_12_share 11 rfl) ?_
      refine R_iload_n (dd dt_12_share 12 rfl) 1 rfl rfl ?_
      refine R_aload_n (dd dt_12_share 13 rfl) 0 rfl rfl ?_
      refine R_iload_n (dd dt_12_share 14 rfl) 1 rfl rfl ?_
      refine R_bipush (v := 10) (dd dt_12_share 15 rfl) bp_10 ?_
      obtain ⟨x4, e3, h⟩ := bi_el h
      refine c_12_98 (As := [.int v1, .int 10]) (st1 := [.int x4, .int v1, .ref (rf a0 23)]) rfl (fun Q1 hq => ok_12_house e3 k0 hq) k0 rfl rfl (Nat.le_of_ble_eq_true rfl) (dd dt_12_share 16 rfl) rfl ?_
      refine R_iconst (v := 1) (dd dt_12_share 17 rfl) ic_1 ?_
      obtain ⟨z9, hz9, h⟩ := bi_el h
      have K9 : Rj l E (d + 5) m_12_share 49 [some (.ref a0), some (.int v1), none] [.int z9.1, .int v1, .ref (rf a0 23)] z9.2 Q := by
        clear hz9
        obtain ⟨μ10, e11, h⟩ := bi_el h
        refine R_isto e11 (ty_12_23 k0) (dd dt_12_share 29 rfl) ?_
        refine R_iinc (v := 1) (lv' := [some (.ref a0), some (.int (v1 + 1)), none]) (dd dt_12_share 30 rfl) (by decide) rfl rfl ic_1 rfl ?_
        refine R_goto (dd dt_12_share 31 rfl) (tgt := 6) rfl ?_
        exact R_mask [true, true, false] rfl (ok_12_share_l6 a0 k0 n (v1 + 1) μ10 _ h KX)
      clear h
      have h := hz9
      clear hz9
      refine R_cmpne (dd dt_12_share 18 rfl) (tgt := 37) rfl (fun hc => ?_) (fun hc => ?_)
      · rw [if_neg hc] at h
        refine R_aload_n (dd dt_12_share 21 rfl) 0 rfl rfl ?_
        refine g_12_47 rfl k0 (dd dt_12_share 22 rfl) ?_
        refine R_iload_n (dd dt_12_share 23 rfl) 1 rfl rfl ?_
        obtain ⟨x5, e6, h⟩ := bi_el h
        refine R_ild e6 (ty_12_22 k0) (dd dt_12_share 24 rfl) ?_
        refine R_aload_n (dd dt_12_share 25 rfl) 0 rfl rfl ?_
        refine R_iload_n (dd dt_12_share 26 rfl) 1 rfl rfl ?_
        obtain ⟨z8, e7, h⟩ := bi_el h
        refine c_12_108 (As := [.int v1]) (st1 := [.int z8.1, .int x5, .int v1, .ref (rf a0 23)]) rfl (fun Q1 hq => ok_12_relief e7 k0 hq) k0 rfl rfl (Nat.le_of_ble_eq_true rfl) (dd dt_12_share 27 rfl) rfl ?_
        refine R_iadd (dd dt_12_share 28 rfl) ?_
        obtain rfl := Option.some.inj h
        exact R_mask [true, true, false] rfl K9
      · rw [if_pos hc] at h
        refine R_iconst (v := 0) (dd dt_12_share 19 rfl) ic_0 ?_
        refine R_goto (dd dt_12_share 20 rfl) (tgt := 49) rfl ?_
        obtain rfl := Option.some.inj h
        exact R_mask [true, true, false] rfl K9
def f_12_share_l58 (a0 : Nat) : Nat → Int32 → mm → Option (mm)
  | 0, _, _ => none
  | n + 1, v1, μ => (ld μ (rf a0 0) 11).bind fun x1 =>
    if x1 ≤ v1 then
      some μ
    else
      (ld μ (rf a0 0) 1).bind fun x3 =>
      (ld μ (rf a0 22) v1).bind fun x5 =>
      (sto μ (rf a0 0) 1 (x3 - x5)).bind fun μ7 =>
      (ld μ7 (rf a0 0) ((96 + (12 * v1)) + 6)).bind fun x9 =>
      (ld μ7 (rf a0 23) v1).bind fun x11 =>
      (sto μ7 (rf a0 0) ((96 + (12 * v1)) + 6) (mn 999 (x9 + x11))).bind fun μ13 =>
      f_12_share_l58 a0 n (v1 + 1) μ13
set_option maxRecDepth 100000 in
theorem ok_12_share_l58 {l : Launch} {E : ce} {d : Nat} {Q : Option Value → mm → Prop} (a0 : Nat) (k0 : kd a0 = 12) : ∀ (n : Nat) (v1 : Int32) (μ : mm) (z : mm), f_12_share_l58 a0 n v1 μ = some z → Rj l E (d + 5) m_12_share 126 [none, none, none] [] z Q → Rj l E (d + 5) m_12_share 58 [some (.ref a0), some (.int v1), none] [] μ Q
  | 0, _, _, z, h, _ => by
    rw [f_12_share_l58] at h
    cases h
  | n + 1, v1, μ, z, h, KX => by
    rw [f_12_share_l58] at h
    refine R_iload_n (dd dt_12_share 34 rfl) 1 rfl rfl ?_
    refine R_aload_n (dd dt_12_share 35 rfl) 0 rfl rfl ?_
    refine g_12_9 rfl k0 (dd dt_12_share 36 rfl) ?_
    refine R_bipush (v := 11) (dd dt_12_share 37 rfl) bp_11 ?_
    obtain ⟨x1, e2, h⟩ := bi_el h
    refine R_ild e2 (ty_12_0 k0) (dd dt_12_share 38 rfl) ?_
    refine R_cmpge (dd dt_12_share 39 rfl) (tgt := 126) rfl (fun hc => ?_) (fun hc => ?_)
    · rw [if_pos hc] at h
      obtain rfl := Option.some.inj h
      exact R_mask [false, false, false] rfl KX
    · rw [if_neg hc] at h
      refine R_bipush (v := 96) (dd dt_12_share 40 rfl) bp_96 ?_
      refine R_bipush (v := 12) (dd dt_12_share 41 rfl) bp_12 ?_
      refine R_iload_n (dd dt_12_share 42 rfl) 1 rfl rfl ?_
      refine R_imul (dd dt_12_share 43 rfl) ?_
      refine R_iadd (dd dt_12_share 44 rfl) ?_
      refine R_bipush (v := 6) (dd dt_12_share 45 rfl) bp_6 ?_
      refine R_iadd (dd dt_12_share 46 rfl) ?_
      refine R_istore_n (lv' := [some (.ref a0), some (.int v1), some (.int ((96 + (12 * v1)) + 6))]) (dd dt_12_share 47 rfl) 2 rfl (by decide) rfl rfl ?_
      refine R_aload_n (dd dt_12_share 48 rfl) 0 rfl rfl ?_
      refine g_12_9 rfl k0 (dd dt_12_share 49 rfl) ?_
      refine R_iconst (v := 1) (dd dt_12_share 50 rfl) ic_1 ?_
      refine R_dup2 (dd dt_12_share 51 rfl) rfl rfl ?_
      obtain ⟨x3, e4, h⟩ := bi_el h
      refine R_ild e4 (ty_12_0 k0) (dd dt_12_share 52 rfl) ?_
      refine R_aload_n (dd dt_12_share 53 rfl) 0 rfl rfl ?_
      refine g_12_47 rfl k0 (dd dt_12_share 54 rfl) ?_
      refine R_iload_n (dd dt_12_share 55 rfl) 1 rfl rfl ?_
      obtain ⟨x5, e6, h⟩ := bi_el h
      refine R_ild e6 (ty_12_22 k0) (dd dt_12_share 56 rfl) ?_
      refine R_isub (dd dt_12_share 57 rfl) ?_
      obtain ⟨μ7, e8, h⟩ := bi_el h
      refine R_isto e8 (ty_12_0 k0) (dd dt_12_share 58 rfl) ?_
      refine R_aload_n (dd dt_12_share 59 rfl) 0 rfl rfl ?_
      refine g_12_9 rfl k0 (dd dt_12_share 60 rfl) ?_
      refine R_iload_n (dd dt_12_share 61 rfl) 2 rfl rfl ?_
      refine R_sipush (v := 999) (dd dt_12_share 62 rfl) sp_999 ?_
      refine R_aload_n (dd dt_12_share 63 rfl) 0 rfl rfl ?_
      refine g_12_9 rfl k0 (dd dt_12_share 64 rfl) ?_
      refine R_iload_n (dd dt_12_share 65 rfl) 2 rfl rfl ?_
      obtain ⟨x9, e10, h⟩ := bi_el h
      refine R_ild e10 (ty_12_0 k0) (dd dt_12_share 66 rfl) ?_
      refine R_aload_n (dd dt_12_share 67 rfl) 0 rfl rfl ?_
      refine g_12_50 rfl k0 (dd dt_12_share 68 rfl) ?_
      refine R_iload_n (dd dt_12_share 69 rfl) 1 rfl rfl ?_
      obtain ⟨x11, e12, h⟩ := bi_el h
      refine R_ild e12 (ty_12_23 k0) (dd dt_12_share 70 rfl) ?_
      refine R_iadd (dd dt_12_share 71 rfl) ?_
      refine R_mmin ml_12_127 (Nat.le_of_ble_eq_true rfl) (dd dt_12_share 72 rfl) ?_
      obtain ⟨μ13, e14, h⟩ := bi_el h
      refine R_isto e14 (ty_12_0 k0) (dd dt_12_share 73 rfl) ?_
      refine R_iinc (v := 1) (lv' := [some (.ref a0), some (.int (v1 + 1)), some (.int ((96 + (12 * v1)) + 6))]) (dd dt_12_share 74 rfl) (by decide) rfl rfl ic_1 rfl ?_
      refine R_goto (dd dt_12_share 75 rfl) (tgt := 58) rfl ?_
      exact R_mask [true, true, false] rfl (ok_12_share_l58 a0 k0 n (v1 + 1) μ13 _ h KX)
def f_12_share (a0 : Nat) (μ : mm) : Option (mm) :=
  (f_12_findDraws a0 μ).bind fun μ2 =>
  (f_12_share_l6 a0 FU 0 μ2).bind fun z3 =>
  (f_12_share_l58 a0 FU 0 z3).bind fun z5 =>
  some z5
set_option maxRecDepth 100000 in
set_option maxHeartbeats 4000000 in
theorem ok_12_share {l : Launch} {E : ce} {d : Nat}  {a0 : Nat} {μ : mm} {r : mm} {Q : Option Value → mm → Prop} (h : f_12_share a0 μ = some r) (k0 : kd a0 = 12) (hQ : Q none r) : Ct l E (d + 5) yX12_share m_12_share [.ref a0] μ Q := by
  refine Ct_of (lv := [some (.ref a0), none, none]) (by decide) rfl (Nat.le_of_ble_eq_true rfl) rfl ?_
  unfold f_12_share at h
  refine R_aload_n (dd dt_12_share 0 rfl) 0 rfl rfl ?_
  obtain ⟨μ2, e1, h⟩ := bi_el h
  refine c_12_234 (As := []) (st1 := []) rfl (fun Q1 hq => ok_12_findDraws e1 k0 hq) k0 rfl rfl (Nat.le_of_ble_eq_true rfl) (dd dt_12_share 1 rfl) rfl ?_
  refine R_iconst (v := 0) (dd dt_12_share 2 rfl) ic_0 ?_
  refine R_istore_n (lv' := [some (.ref a0), some (.int 0), none]) (dd dt_12_share 3 rfl) 1 rfl (by decide) rfl rfl ?_
  obtain ⟨z3, e4, h⟩ := bi_el h
  refine R_mask [true, true, false] rfl (ok_12_share_l6 a0 k0 FU 0 μ2 _ e4 ?_)
  refine R_iconst (v := 0) (dd dt_12_share 32 rfl) ic_0 ?_
  refine R_istore_n (lv' := [some (.ref a0), some (.int 0), none]) (dd dt_12_share 33 rfl) 1 rfl (by decide) rfl rfl ?_
  obtain ⟨z5, e6, h⟩ := bi_el h
  refine R_mask [true, true, false] rfl (ok_12_share_l58 a0 k0 FU 0 z3 _ e6 ?_)
  obtain rfl := Option.some.inj h
  exact R_vret rfl (dd dt_12_share 76 rfl) hQ
/-! LongStrikeModel.valleyGoes(Z)V -/
def tab_12_valleyGoes : List (Nat × Instr × Nat) := [(0, .aload_n 0, 1), (1, .getfield 9, 3), (4, .iconst 0, 1), (5, .iaload, 1), (6, .bipush 7, 2), (8, .irem, 1), (9, .ifCond .ne 7, 3), (12, .aload_n 0, 1), (13, .invokevirtual 246, 3), (16, .iconst 0, 1), (17, .istore_n 2, 1), (18, .iload_n 2, 1), (19, .aload_n 0, 1), (20, .getfield 9, 3), (23, .bipush 11, 2), (25, .iaload, 1), (26, .if_icmp .ge 25, 3), (29, .aload_n 0, 1), (30, .iload_n 2, 1), (31, .bipush 10, 2), (33, .invokevirtual 98, 3), (36, .ifCond .ne 9, 3), (39, .aload_n 0, 1), (40, .iload_n 2, 1), (41, .iload_n 1, 1), (42, .invokevirtual 249, 3), (45, .iinc 2 1, 3), (48, .goto (-30), 3), (51, .iconst 0, 1), (52, .istore_n 2, 1), (53, .iload_n 2, 1), (54, .aload_n 0, 1), (55, .getfield 9, 3), (58, .bipush 11, 2), (60, .iaload, 1), (61, .if_icmp .ge 49, 3), (64, .aload_n 0, 1), (65, .getfield 9, 3), (68, .bipush 96, 2), (70, .bipush 12, 2), (72, .iload_n 2, 1), (73, .imul, 1), (74, .iadd, 1), (75, .bipush 10, 2), (77, .iadd, 1), (78, .aload_n 0, 1), (79, .iload_n 2, 1), (80, .bipush 10, 2), (82, .invokevirtual 98, 3), (85, .iconst 1, 1), (86, .if_icmp .eq 12, 3), (89, .aload_n 0, 1), (90, .iload_n 2, 1), (91, .iconst 5, 1), (92, .invokevirtual 98, 3), (95, .ifCond .ne 7, 3), (98, .iconst 1, 1), (99, .goto 4, 3), (102, .iconst 0, 1), (103, .iastore, 1), (104, .iinc 2 1, 3), (107, .goto (-54), 3), (110, .return_, 1)]
set_option maxRecDepth 100000 in
theorem dt_12_valleyGoes : ∀ q ∈ tab_12_valleyGoes, decode m_12_valleyGoes.2.1 q.1 = .ok q.2 := by decide +kernel
def f_12_valleyGoes_l18 (a0 : Nat) (a1 : Int32) : Nat → Int32 → mm → Option (mm)
  | 0, _, _ => none
  | n + 1, v2, μ => (ld μ (rf a0 0) 11).bind fun x1 =>
    if x1 ≤ v2 then
      some μ
    else
      (f_12_house a0 v2 10 μ).bind fun x4 =>
      if x4 = 0 then
        (f_12_eats a0 v2 a1 μ).bind fun μ6 =>
        f_12_valleyGoes_l18 a0 a1 n (v2 + 1) μ6
      else
        f_12_valleyGoes_l18 a0 a1 n (v2 + 1) μ
set_option maxRecDepth 100000 in
theorem ok_12_valleyGoes_l18 {l : Launch} {E : ce} {d : Nat} {Q : Option Value → mm → Prop} (a0 : Nat) (a1 : Int32) (k0 : kd a0 = 12) : ∀ (n : Nat) (v2 : Int32) (μ : mm) (z : mm), f_12_valleyGoes_l18 a0 a1 n v2 μ = some z → Rj l E (d + 6) m_12_valleyGoes 51 [some (.ref a0), none, none] [] z Q → Rj l E (d + 6) m_12_valleyGoes 18 [some (.ref a0), some (.int a1), some (.int v2)] [] μ Q
  | 0, _, _, z, h, _ => by
    rw [f_12_valleyGoes_l18] at h
    cases h
  | n + 1, v2, μ, z, h, KX => by
    rw [f_12_valleyGoes_l18] at h
    refine R_iload_n (dd dt_12_valleyGoes 11 rfl) 2 rfl rfl ?_
    refine R_aload_n (dd dt_12_valleyGoes 12 rfl) 0 rfl rfl ?_
    refine g_12_9 rfl k0 (dd dt_12_valleyGoes 13 rfl) ?_
    refine R_bipush (v := 11) (dd dt_12_valleyGoes 14 rfl) bp_11 ?_
    obtain ⟨x1, e2, h⟩ := bi_el h
    refine R_ild e2 (ty_12_0 k0) (dd dt_12_valleyGoes 15 rfl) ?_
    refine R_cmpge (dd dt_12_valleyGoes 16 rfl) (tgt := 51) rfl (fun hc => ?_) (fun hc => ?_)
    · rw [if_pos hc] at h
      obtain rfl := Option.some.inj h
      exact R_mask [true, false, false] rfl KX
    · rw [if_neg hc] at h
      refine R_aload_n (dd dt_12_valleyGoes 17 rfl) 0 rfl rfl ?_
      refine R_iload_n (dd dt_12_valleyGoes 18 rfl) 2 rfl rfl ?_
      refine R_bipush (v := 10) (dd dt_12_valleyGoes 19 rfl) bp_10 ?_
      obtain ⟨x4, e3, h⟩ := bi_el h
      refine c_12_98 (As := [.int v2, .int 10]) (st1 := [.int x4]) rfl (fun Q1 hq => ok_12_house e3 k0 hq) k0 rfl rfl (Nat.le_of_ble_eq_true rfl) (dd dt_12_valleyGoes 20 rfl) rfl ?_
      refine R_ifne (dd dt_12_valleyGoes 21 rfl) (tgt := 45) rfl (fun hc => ?_) (fun hc => ?_)
      · rw [if_neg hc] at h
        refine R_iinc (v := 1) (lv' := [some (.ref a0), some (.int a1), some (.int (v2 + 1))]) (dd dt_12_valleyGoes 26 rfl) (by decide) rfl rfl ic_1 rfl ?_
        refine R_goto (dd dt_12_valleyGoes 27 rfl) (tgt := 18) rfl ?_
        exact R_mask [true, true, true] rfl (ok_12_valleyGoes_l18 a0 a1 k0 n (v2 + 1) μ _ h KX)
      · rw [if_pos hc] at h
        refine R_aload_n (dd dt_12_valleyGoes 22 rfl) 0 rfl rfl ?_
        refine R_iload_n (dd dt_12_valleyGoes 23 rfl) 2 rfl rfl ?_
        refine R_iload_n (dd dt_12_valleyGoes 24 rfl) 1 rfl rfl ?_
        obtain ⟨μ6, e5, h⟩ := bi_el h
        refine c_12_249 (As := [.int v2, .int a1]) (st1 := []) rfl (fun Q1 hq => ok_12_eats e5 k0 hq) k0 rfl rfl (Nat.le_of_ble_eq_true rfl) (dd dt_12_valleyGoes 25 rfl) rfl ?_
        refine R_iinc (v := 1) (lv' := [some (.ref a0), some (.int a1), some (.int (v2 + 1))]) (dd dt_12_valleyGoes 26 rfl) (by decide) rfl rfl ic_1 rfl ?_
        refine R_goto (dd dt_12_valleyGoes 27 rfl) (tgt := 18) rfl ?_
        exact R_mask [true, true, true] rfl (ok_12_valleyGoes_l18 a0 a1 k0 n (v2 + 1) μ6 _ h KX)
def f_12_valleyGoes_l53 (a0 : Nat) : Nat → Int32 → mm → Option (mm)
  | 0, _, _ => none
  | n + 1, v2, μ => (ld μ (rf a0 0) 11).bind fun x1 =>
    if x1 ≤ v2 then
      some μ
    else
      (f_12_house a0 v2 10 μ).bind fun x4 =>
      (if x4 = 1 then
          some 1
        else
          (f_12_house a0 v2 5 μ).bind fun x6 =>
          if x6 = 0 then
            some 1
          else
            some 0).bind fun (z7 : Int32) =>
      (sto μ (rf a0 0) ((96 + (12 * v2)) + 10) z7).bind fun μ8 =>
      f_12_valleyGoes_l53 a0 n (v2 + 1) μ8
set_option maxRecDepth 100000 in
theorem ok_12_valleyGoes_l53 {l : Launch} {E : ce} {d : Nat} {Q : Option Value → mm → Prop} (a0 : Nat) (k0 : kd a0 = 12) : ∀ (n : Nat) (v2 : Int32) (μ : mm) (z : mm), f_12_valleyGoes_l53 a0 n v2 μ = some z → Rj l E (d + 6) m_12_valleyGoes 110 [none, none, none] [] z Q → Rj l E (d + 6) m_12_valleyGoes 53 [some (.ref a0), none, some (.int v2)] [] μ Q
  | 0, _, _, z, h, _ => by
    rw [f_12_valleyGoes_l53] at h
    cases h
  | n + 1, v2, μ, z, h, KX => by
    rw [f_12_valleyGoes_l53] at h
    refine R_iload_n (dd dt_12_valleyGoes 30 rfl) 2 rfl rfl ?_
    refine R_aload_n (dd dt_12_valleyGoes 31 rfl) 0 rfl rfl ?_
    refine g_12_9 rfl k0 (dd dt_12_valleyGoes 32 rfl) ?_
    refine R_bipush (v := 11) (dd dt_12_valleyGoes 33 rfl) bp_11 ?_
    obtain ⟨x1, e2, h⟩ := bi_el h
    refine R_ild e2 (ty_12_0 k0) (dd dt_12_valleyGoes 34 rfl) ?_
    refine R_cmpge (dd dt_12_valleyGoes 35 rfl) (tgt := 110) rfl (fun hc => ?_) (fun hc => ?_)
    · rw [if_pos hc] at h
      obtain rfl := Option.some.inj h
      exact R_mask [false, false, false] rfl KX
    · rw [if_neg hc] at h
      refine R_aload_n (dd dt_12_valleyGoes 36 rfl) 0 rfl rfl ?_
      refine g_12_9 rfl k0 (dd dt_12_valleyGoes 37 rfl) ?_
      refine R_bipush (v := 96) (dd dt_12_valleyGoes 38 rfl) bp_96 ?_
      refine R_bipush (v := 12) (dd dt_12_valleyGoes 39 rfl) bp_12 ?_
      refine R_iload_n (dd dt_12_valleyGoes 40 rfl) 2 rfl rfl ?_
      refine R_imul (dd dt_12_valleyGoes 41 rfl) ?_
      refine R_iadd (dd dt_12_valleyGoes 42 rfl) ?_
      refine R_bipush (v := 10) (dd dt_12_valleyGoes 43 rfl) bp_10 ?_
      refine R_iadd (dd dt_12_valleyGoes 44 rfl) ?_
      refine R_aload_n (dd dt_12_valleyGoes 45 rfl) 0 rfl rfl ?_
      refine R_iload_n (dd dt_12_valleyGoes 46 rfl) 2 rfl rfl ?_
      refine R_bipush (v := 10) (dd dt_12_valleyGoes 47 rfl) bp_10 ?_
      obtain ⟨x4, e3, h⟩ := bi_el h
      refine c_12_98 (As := [.int v2, .int 10]) (st1 := [.int x4, .int ((96 + (12 * v2)) + 10), .ref (rf a0 0)]) rfl (fun Q1 hq => ok_12_house e3 k0 hq) k0 rfl rfl (Nat.le_of_ble_eq_true rfl) (dd dt_12_valleyGoes 48 rfl) rfl ?_
      refine R_iconst (v := 1) (dd dt_12_valleyGoes 49 rfl) ic_1 ?_
      obtain ⟨z7, hz7, h⟩ := bi_el h
      have K7 : Rj l E (d + 6) m_12_valleyGoes 103 [some (.ref a0), none, some (.int v2)] [.int z7, .int ((96 + (12 * v2)) + 10), .ref (rf a0 0)] μ Q := by
        clear hz7
        obtain ⟨μ8, e9, h⟩ := bi_el h
        refine R_isto e9 (ty_12_0 k0) (dd dt_12_valleyGoes 59 rfl) ?_
        refine R_iinc (v := 1) (lv' := [some (.ref a0), none, some (.int (v2 + 1))]) (dd dt_12_valleyGoes 60 rfl) (by decide) rfl rfl ic_1 rfl ?_
        refine R_goto (dd dt_12_valleyGoes 61 rfl) (tgt := 53) rfl ?_
        exact R_mask [true, false, true] rfl (ok_12_valleyGoes_l53 a0 k0 n (v2 + 1) μ8 _ h KX)
      clear h
      have h := hz7
      clear hz7
      refine R_cmpeq (dd dt_12_valleyGoes 50 rfl) (tgt := 98) rfl (fun hc => ?_) (fun hc => ?_)
      · rw [if_pos hc] at h
        refine R_iconst (v := 1) (dd dt_12_valleyGoes 56 rfl) ic_1 ?_
        refine R_goto (dd dt_12_valleyGoes 57 rfl) (tgt := 103) rfl ?_
        obtain rfl := Option.some.inj h
        exact R_mask [true, false, true] rfl K7
      · rw [if_neg hc] at h
        refine R_aload_n (dd dt_12_valleyGoes 51 rfl) 0 rfl rfl ?_
        refine R_iload_n (dd dt_12_valleyGoes 52 rfl) 2 rfl rfl ?_
        refine R_iconst (v := 5) (dd dt_12_valleyGoes 53 rfl) ic_5 ?_
        obtain ⟨x6, e5, h⟩ := bi_el h
        refine c_12_98 (As := [.int v2, .int 5]) (st1 := [.int x6, .int ((96 + (12 * v2)) + 10), .ref (rf a0 0)]) rfl (fun Q1 hq => ok_12_house e5 k0 hq) k0 rfl rfl (Nat.le_of_ble_eq_true rfl) (dd dt_12_valleyGoes 54 rfl) rfl ?_
        refine R_ifne (dd dt_12_valleyGoes 55 rfl) (tgt := 102) rfl (fun hc => ?_) (fun hc => ?_)
        · rw [if_neg hc] at h
          refine R_iconst (v := 0) (dd dt_12_valleyGoes 58 rfl) ic_0 ?_
          obtain rfl := Option.some.inj h
          exact R_mask [true, false, true] rfl K7
        · rw [if_pos hc] at h
          refine R_iconst (v := 1) (dd dt_12_valleyGoes 56 rfl) ic_1 ?_
          refine R_goto (dd dt_12_valleyGoes 57 rfl) (tgt := 103) rfl ?_
          obtain rfl := Option.some.inj h
          exact R_mask [true, false, true] rfl K7
def f_12_valleyGoes (a0 : Nat) (a1 : Int32) (μ : mm) : Option (mm) :=
  (ld μ (rf a0 0) 0).bind fun x1 =>
  (if (x1 - x1 / 7 * 7) = 0 then
      (f_12_share a0 μ).bind fun μ4 =>
      some μ4
    else
      some μ).bind fun (z5 : mm) =>
  (f_12_valleyGoes_l18 a0 a1 FU 0 z5).bind fun z6 =>
  (f_12_valleyGoes_l53 a0 FU 0 z6).bind fun z8 =>
  some z8
set_option maxRecDepth 100000 in
set_option maxHeartbeats 4000000 in
theorem ok_12_valleyGoes {l : Launch} {E : ce} {d : Nat}  {a0 : Nat} {a1 : Int32} {μ : mm} {r : mm} {Q : Option Value → mm → Prop} (h : f_12_valleyGoes a0 a1 μ = some r) (k0 : kd a0 = 12) (hQ : Q none r) : Ct l E (d + 6) yX12_valleyGoes m_12_valleyGoes [.ref a0, .int a1] μ Q := by
  refine Ct_of (lv := [some (.ref a0), some (.int a1), none]) (by decide) rfl (Nat.le_of_ble_eq_true rfl) rfl ?_
  unfold f_12_valleyGoes at h
  refine R_aload_n (dd dt_12_valleyGoes 0 rfl) 0 rfl rfl ?_
  refine g_12_9 rfl k0 (dd dt_12_valleyGoes 1 rfl) ?_
  refine R_iconst (v := 0) (dd dt_12_valleyGoes 2 rfl) ic_0 ?_
  obtain ⟨x1, e2, h⟩ := bi_el h
  refine R_ild e2 (ty_12_0 k0) (dd dt_12_valleyGoes 3 rfl) ?_
  refine R_bipush (v := 7) (dd dt_12_valleyGoes 4 rfl) bp_7 ?_
  refine R_irem (dd dt_12_valleyGoes 5 rfl) (by decide) ?_
  obtain ⟨z5, hz5, h⟩ := bi_el h
  have K5 : Rj l E (d + 6) m_12_valleyGoes 16 [some (.ref a0), some (.int a1), none] [] z5 Q := by
    clear hz5
    refine R_iconst (v := 0) (dd dt_12_valleyGoes 9 rfl) ic_0 ?_
    refine R_istore_n (lv' := [some (.ref a0), some (.int a1), some (.int 0)]) (dd dt_12_valleyGoes 10 rfl) 2 rfl (by decide) rfl rfl ?_
    obtain ⟨z6, e7, h⟩ := bi_el h
    refine R_mask [true, true, true] rfl (ok_12_valleyGoes_l18 a0 a1 k0 FU 0 z5 _ e7 ?_)
    refine R_iconst (v := 0) (dd dt_12_valleyGoes 28 rfl) ic_0 ?_
    refine R_istore_n (lv' := [some (.ref a0), none, some (.int 0)]) (dd dt_12_valleyGoes 29 rfl) 2 rfl (by decide) rfl rfl ?_
    obtain ⟨z8, e9, h⟩ := bi_el h
    refine R_mask [true, false, true] rfl (ok_12_valleyGoes_l53 a0 k0 FU 0 z6 _ e9 ?_)
    obtain rfl := Option.some.inj h
    exact R_vret rfl (dd dt_12_valleyGoes 62 rfl) hQ
  clear h
  have h := hz5
  clear hz5
  refine R_ifne (dd dt_12_valleyGoes 6 rfl) (tgt := 16) rfl (fun hc => ?_) (fun hc => ?_)
  · rw [if_neg hc] at h
    obtain rfl := Option.some.inj h
    exact R_mask [true, true, false] rfl K5
  · rw [if_pos hc] at h
    refine R_aload_n (dd dt_12_valleyGoes 7 rfl) 0 rfl rfl ?_
    obtain ⟨μ4, e3, h⟩ := bi_el h
    refine c_12_246 (As := []) (st1 := []) rfl (fun Q1 hq => ok_12_share e3 k0 hq) k0 rfl rfl (Nat.le_of_ble_eq_true rfl) (dd dt_12_valleyGoes 8 rfl) rfl ?_
    obtain rfl := Option.some.inj h
    exact R_mask [true, true, false] rfl K5
/-! LongStrikeModel.worksGo(Z)V -/
def tab_12_worksGo : List (Nat × Instr × Nat) := [(0, .aload_n 0, 1), (1, .getfield 9, 3), (4, .iconst 2, 1), (5, .iconst 0, 1), (6, .aload_n 0, 1), (7, .getfield 9, 3), (10, .iconst 2, 1), (11, .iaload, 1), (12, .aload_n 0, 1), (13, .getfield 9, 3), (16, .iconst 4, 1), (17, .iaload, 1), (18, .isub, 1), (19, .invokestatic 118, 3), (22, .iastore, 1), (23, .iconst 0, 1), (24, .istore_n 2, 1), (25, .iconst 0, 1), (26, .istore_n 3, 1), (27, .iload_n 3, 1), (28, .aload_n 0, 1), (29, .getfield 9, 3), (32, .bipush 14, 2), (34, .iaload, 1), (35, .if_icmp .ge 110, 3), (38, .iload_n 1, 1), (39, .ifCond .eq 106, 3), (42, .aload_n 0, 1), (43, .getfield 9, 3), (46, .sipush 843, 3), (49, .iconst 2, 1), (50, .iload_n 3, 1), (51, .imul, 1), (52, .iadd, 1), (53, .iaload, 1), (54, .istore 4, 2), (56, .aload_n 0, 1), (57, .getfield 9, 3), (60, .sipush 843, 3), (63, .iconst 2, 1), (64, .iload_n 3, 1), (65, .imul, 1), (66, .iadd, 1), (67, .iconst 1, 1), (68, .iadd, 1), (69, .iaload, 1), (70, .istore 5, 2), (72, .iload 4, 2), (74, .aload_n 0, 1), (75, .getfield 9, 3), (78, .iconst 0, 1), (79, .iaload, 1), (80, .if_icmp .ne 26, 3), (83, .aload_n 0, 1), (84, .getfield 9, 3), (87, .iconst 2, 1), (88, .ldc 126, 2), (90, .aload_n 0, 1), (91, .getfield 9, 3), (94, .iconst 2, 1), (95, .iaload, 1), (96, .iload 5, 2), (98, .iadd, 1), (99, .invokestatic 127, 3), (102, .iastore, 1), (103, .goto 36, 3), (106, .aload_n 0, 1), (107, .getfield 9, 3), (110, .sipush 843, 3), (113, .iconst 2, 1), (114, .iload_n 2, 1), (115, .imul, 1), (116, .iadd, 1), (117, .iload 4, 2), (119, .iastore, 1), (120, .aload_n 0, 1), (121, .getfield 9, 3), (124, .sipush 843, 3), (127, .iconst 2, 1), (128, .iload_n 2, 1), (129, .imul, 1), (130, .iadd, 1), (131, .iconst 1, 1), (132, .iadd, 1), (133, .iload 5, 2), (135, .iastore, 1), (136, .iinc 2 1, 3), (139, .iinc 3 1, 3), (142, .goto (-115), 3), (145, .aload_n 0, 1), (146, .getfield 9, 3), (149, .bipush 14, 2), (151, .iload_n 1, 1), (152, .ifCond .eq 7, 3), (155, .iload_n 2, 1), (156, .goto 10, 3), (159, .aload_n 0, 1), (160, .getfield 9, 3), (163, .bipush 14, 2), (165, .iaload, 1), (166, .iastore, 1), (167, .return_, 1)]
set_option maxRecDepth 100000 in
theorem dt_12_worksGo : ∀ q ∈ tab_12_worksGo, decode m_12_worksGo.2.1 q.1 = .ok q.2 := by decide +kernel
def f_12_worksGo_l27 (a0 : Nat) (a1 : Int32) : Nat → Int32 → Int32 → mm → Option (Int32 × mm)
  | 0, _, _, _ => none
  | n + 1, v2, v3, μ => (ld μ (rf a0 0) 14).bind fun x1 =>
    if x1 ≤ v3 then
      some (v2, μ)
    else
      if a1 = 0 then
        some (v2, μ)
      else
        (ld μ (rf a0 0) (843 + (2 * v3))).bind fun x3 =>
        (ld μ (rf a0 0) ((843 + (2 * v3)) + 1)).bind fun x5 =>
        (ld μ (rf a0 0) 0).bind fun x7 =>
        if x3 = x7 then
          (ld μ (rf a0 0) 2).bind fun x13 =>
          (sto μ (rf a0 0) 2 (mn 99999 (x13 + x5))).bind fun μ15 =>
          f_12_worksGo_l27 a0 a1 n v2 (v3 + 1) μ15
        else
          (sto μ (rf a0 0) (843 + (2 * v2)) x3).bind fun μ9 =>
          (sto μ9 (rf a0 0) ((843 + (2 * v2)) + 1) x5).bind fun μ11 =>
          f_12_worksGo_l27 a0 a1 n (v2 + 1) (v3 + 1) μ11
set_option maxRecDepth 100000 in
theorem ok_12_worksGo_l27 {l : Launch} {E : ce} {d : Nat} {Q : Option Value → mm → Prop} (a0 : Nat) (a1 : Int32) (k0 : kd a0 = 12) : ∀ (n : Nat) (v2 : Int32) (v3 : Int32) (μ : mm) (z : Int32 × mm), f_12_worksGo_l27 a0 a1 n v2 v3 μ = some z → Rj l E d m_12_worksGo 145 [some (.ref a0), some (.int a1), some (.int z.1), none, none, none] [] z.2 Q → Rj l E d m_12_worksGo 27 [some (.ref a0), some (.int a1), some (.int v2), some (.int v3), none, none] [] μ Q
  | 0, _, _, _, z, h, _ => by
    rw [f_12_worksGo_l27] at h
    cases h
  | n + 1, v2, v3, μ, z, h, KX => by
    rw [f_12_worksGo_l27] at h
    refine R_iload_n (dd dt_12_worksGo 19 rfl) 3 rfl rfl ?_
    refine R_aload_n (dd dt_12_worksGo 20 rfl) 0 rfl rfl ?_
    refine g_12_9 rfl k0 (dd dt_12_worksGo 21 rfl) ?_
    refine R_bipush (v := 14) (dd dt_12_worksGo 22 rfl) bp_14 ?_
    obtain ⟨x1, e2, h⟩ := bi_el h
    refine R_ild e2 (ty_12_0 k0) (dd dt_12_worksGo 23 rfl) ?_
    refine R_cmpge (dd dt_12_worksGo 24 rfl) (tgt := 145) rfl (fun hc => ?_) (fun hc => ?_)
    · rw [if_pos hc] at h
      obtain rfl := Option.some.inj h
      exact R_mask [true, true, true, false, false, false] rfl KX
    · rw [if_neg hc] at h
      refine R_iload_n (dd dt_12_worksGo 25 rfl) 1 rfl rfl ?_
      refine R_ifeq (dd dt_12_worksGo 26 rfl) (tgt := 145) rfl (fun hc => ?_) (fun hc => ?_)
      · rw [if_pos hc] at h
        obtain rfl := Option.some.inj h
        exact R_mask [true, true, true, false, false, false] rfl KX
      · rw [if_neg hc] at h
        refine R_aload_n (dd dt_12_worksGo 27 rfl) 0 rfl rfl ?_
        refine g_12_9 rfl k0 (dd dt_12_worksGo 28 rfl) ?_
        refine R_sipush (v := 843) (dd dt_12_worksGo 29 rfl) sp_843 ?_
        refine R_iconst (v := 2) (dd dt_12_worksGo 30 rfl) ic_2 ?_
        refine R_iload_n (dd dt_12_worksGo 31 rfl) 3 rfl rfl ?_
        refine R_imul (dd dt_12_worksGo 32 rfl) ?_
        refine R_iadd (dd dt_12_worksGo 33 rfl) ?_
        obtain ⟨x3, e4, h⟩ := bi_el h
        refine R_ild e4 (ty_12_0 k0) (dd dt_12_worksGo 34 rfl) ?_
        refine R_istore (lv' := [some (.ref a0), some (.int a1), some (.int v2), some (.int v3), some (.int x3), none]) (dd dt_12_worksGo 35 rfl) (by decide) rfl rfl ?_
        refine R_aload_n (dd dt_12_worksGo 36 rfl) 0 rfl rfl ?_
        refine g_12_9 rfl k0 (dd dt_12_worksGo 37 rfl) ?_
        refine R_sipush (v := 843) (dd dt_12_worksGo 38 rfl) sp_843 ?_
        refine R_iconst (v := 2) (dd dt_12_worksGo 39 rfl) ic_2 ?_
        refine R_iload_n (dd dt_12_worksGo 40 rfl) 3 rfl rfl ?_
        refine R_imul (dd dt_12_worksGo 41 rfl) ?_
        refine R_iadd (dd dt_12_worksGo 42 rfl) ?_
        refine R_iconst (v := 1) (dd dt_12_worksGo 43 rfl) ic_1 ?_
        refine R_iadd (dd dt_12_worksGo 44 rfl) ?_
        obtain ⟨x5, e6, h⟩ := bi_el h
        refine R_ild e6 (ty_12_0 k0) (dd dt_12_worksGo 45 rfl) ?_
        refine R_istore (lv' := [some (.ref a0), some (.int a1), some (.int v2), some (.int v3), some (.int x3), some (.int x5)]) (dd dt_12_worksGo 46 rfl) (by decide) rfl rfl ?_
        refine R_iload (dd dt_12_worksGo 47 rfl) rfl ?_
        refine R_aload_n (dd dt_12_worksGo 48 rfl) 0 rfl rfl ?_
        refine g_12_9 rfl k0 (dd dt_12_worksGo 49 rfl) ?_
        refine R_iconst (v := 0) (dd dt_12_worksGo 50 rfl) ic_0 ?_
        obtain ⟨x7, e8, h⟩ := bi_el h
        refine R_ild e8 (ty_12_0 k0) (dd dt_12_worksGo 51 rfl) ?_
        refine R_cmpne (dd dt_12_worksGo 52 rfl) (tgt := 106) rfl (fun hc => ?_) (fun hc => ?_)
        · rw [if_neg hc] at h
          refine R_aload_n (dd dt_12_worksGo 66 rfl) 0 rfl rfl ?_
          refine g_12_9 rfl k0 (dd dt_12_worksGo 67 rfl) ?_
          refine R_sipush (v := 843) (dd dt_12_worksGo 68 rfl) sp_843 ?_
          refine R_iconst (v := 2) (dd dt_12_worksGo 69 rfl) ic_2 ?_
          refine R_iload_n (dd dt_12_worksGo 70 rfl) 2 rfl rfl ?_
          refine R_imul (dd dt_12_worksGo 71 rfl) ?_
          refine R_iadd (dd dt_12_worksGo 72 rfl) ?_
          refine R_iload (dd dt_12_worksGo 73 rfl) rfl ?_
          obtain ⟨μ9, e10, h⟩ := bi_el h
          refine R_isto e10 (ty_12_0 k0) (dd dt_12_worksGo 74 rfl) ?_
          refine R_aload_n (dd dt_12_worksGo 75 rfl) 0 rfl rfl ?_
          refine g_12_9 rfl k0 (dd dt_12_worksGo 76 rfl) ?_
          refine R_sipush (v := 843) (dd dt_12_worksGo 77 rfl) sp_843 ?_
          refine R_iconst (v := 2) (dd dt_12_worksGo 78 rfl) ic_2 ?_
          refine R_iload_n (dd dt_12_worksGo 79 rfl) 2 rfl rfl ?_
          refine R_imul (dd dt_12_worksGo 80 rfl) ?_
          refine R_iadd (dd dt_12_worksGo 81 rfl) ?_
          refine R_iconst (v := 1) (dd dt_12_worksGo 82 rfl) ic_1 ?_
          refine R_iadd (dd dt_12_worksGo 83 rfl) ?_
          refine R_iload (dd dt_12_worksGo 84 rfl) rfl ?_
          obtain ⟨μ11, e12, h⟩ := bi_el h
          refine R_isto e12 (ty_12_0 k0) (dd dt_12_worksGo 85 rfl) ?_
          refine R_iinc (v := 1) (lv' := [some (.ref a0), some (.int a1), some (.int (v2 + 1)), some (.int v3), some (.int x3), some (.int x5)]) (dd dt_12_worksGo 86 rfl) (by decide) rfl rfl ic_1 rfl ?_
          refine R_iinc (v := 1) (lv' := [some (.ref a0), some (.int a1), some (.int (v2 + 1)), some (.int (v3 + 1)), some (.int x3), some (.int x5)]) (dd dt_12_worksGo 87 rfl) (by decide) rfl rfl ic_1 rfl ?_
          refine R_goto (dd dt_12_worksGo 88 rfl) (tgt := 27) rfl ?_
          exact R_mask [true, true, true, true, false, false] rfl (ok_12_worksGo_l27 a0 a1 k0 n (v2 + 1) (v3 + 1) μ11 _ h KX)
        · rw [if_pos hc] at h
          refine R_aload_n (dd dt_12_worksGo 53 rfl) 0 rfl rfl ?_
          refine g_12_9 rfl k0 (dd dt_12_worksGo 54 rfl) ?_
          refine R_iconst (v := 2) (dd dt_12_worksGo 55 rfl) ic_2 ?_
          refine R_ldc (dd dt_12_worksGo 56 rfl) ct_12_126 ?_
          refine R_aload_n (dd dt_12_worksGo 57 rfl) 0 rfl rfl ?_
          refine g_12_9 rfl k0 (dd dt_12_worksGo 58 rfl) ?_
          refine R_iconst (v := 2) (dd dt_12_worksGo 59 rfl) ic_2 ?_
          obtain ⟨x13, e14, h⟩ := bi_el h
          refine R_ild e14 (ty_12_0 k0) (dd dt_12_worksGo 60 rfl) ?_
          refine R_iload (dd dt_12_worksGo 61 rfl) rfl ?_
          refine R_iadd (dd dt_12_worksGo 62 rfl) ?_
          refine R_mmin ml_12_127 (Nat.le_of_ble_eq_true rfl) (dd dt_12_worksGo 63 rfl) ?_
          obtain ⟨μ15, e16, h⟩ := bi_el h
          refine R_isto e16 (ty_12_0 k0) (dd dt_12_worksGo 64 rfl) ?_
          refine R_goto (dd dt_12_worksGo 65 rfl) (tgt := 139) rfl ?_
          refine R_iinc (v := 1) (lv' := [some (.ref a0), some (.int a1), some (.int v2), some (.int (v3 + 1)), some (.int x3), some (.int x5)]) (dd dt_12_worksGo 87 rfl) (by decide) rfl rfl ic_1 rfl ?_
          refine R_goto (dd dt_12_worksGo 88 rfl) (tgt := 27) rfl ?_
          exact R_mask [true, true, true, true, false, false] rfl (ok_12_worksGo_l27 a0 a1 k0 n v2 (v3 + 1) μ15 _ h KX)
def f_12_worksGo (a0 : Nat) (a1 : Int32) (μ : mm) : Option (mm) :=
  (ld μ (rf a0 0) 2).bind fun x1 =>
  (ld μ (rf a0 0) 4).bind fun x3 =>
  (sto μ (rf a0 0) 2 (mx 0 (x1 - x3))).bind fun μ5 =>
  (f_12_worksGo_l27 a0 a1 FU 0 0 μ5).bind fun z7 =>
  (if a1 = 0 then
      (ld z7.2 (rf a0 0) 14).bind fun x9 =>
      some x9
    else
      some z7.1).bind fun (z11 : Int32) =>
  (sto z7.2 (rf a0 0) 14 z11).bind fun μ12 =>
  some μ12
set_option maxRecDepth 100000 in
set_option maxHeartbeats 4000000 in
theorem ok_12_worksGo {l : Launch} {E : ce} {d : Nat}  {a0 : Nat} {a1 : Int32} {μ : mm} {r : mm} {Q : Option Value → mm → Prop} (h : f_12_worksGo a0 a1 μ = some r) (k0 : kd a0 = 12) (hQ : Q none r) : Ct l E d yX12_worksGo m_12_worksGo [.ref a0, .int a1] μ Q := by
  refine Ct_of (lv := [some (.ref a0), some (.int a1), none, none, none, none]) (by decide) rfl (Nat.le_of_ble_eq_true rfl) rfl ?_
  unfold f_12_worksGo at h
  refine R_aload_n (dd dt_12_worksGo 0 rfl) 0 rfl rfl ?_
  refine g_12_9 rfl k0 (dd dt_12_worksGo 1 rfl) ?_
  refine R_iconst (v := 2) (dd dt_12_worksGo 2 rfl) ic_2 ?_
  refine R_iconst (v := 0) (dd dt_12_worksGo 3 rfl) ic_0 ?_
  refine R_aload_n (dd dt_12_worksGo 4 rfl) 0 rfl rfl ?_
  refine g_12_9 rfl k0 (dd dt_12_worksGo 5 rfl) ?_
  refine R_iconst (v := 2) (dd dt_12_worksGo 6 rfl) ic_2 ?_
  obtain ⟨x1, e2, h⟩ := bi_el h
  refine R_ild e2 (ty_12_0 k0) (dd dt_12_worksGo 7 rfl) ?_
  refine R_aload_n (dd dt_12_worksGo 8 rfl) 0 rfl rfl ?_
  refine g_12_9 rfl k0 (dd dt_12_worksGo 9 rfl) ?_
  refine R_iconst (v := 4) (dd dt_12_worksGo 10 rfl) ic_4 ?_
  obtain ⟨x3, e4, h⟩ := bi_el h
  refine R_ild e4 (ty_12_0 k0) (dd dt_12_worksGo 11 rfl) ?_
  refine R_isub (dd dt_12_worksGo 12 rfl) ?_
  refine R_mmax ml_12_118 (Nat.le_of_ble_eq_true rfl) (dd dt_12_worksGo 13 rfl) ?_
  obtain ⟨μ5, e6, h⟩ := bi_el h
  refine R_isto e6 (ty_12_0 k0) (dd dt_12_worksGo 14 rfl) ?_
  refine R_iconst (v := 0) (dd dt_12_worksGo 15 rfl) ic_0 ?_
  refine R_istore_n (lv' := [some (.ref a0), some (.int a1), some (.int 0), none, none, none]) (dd dt_12_worksGo 16 rfl) 2 rfl (by decide) rfl rfl ?_
  refine R_iconst (v := 0) (dd dt_12_worksGo 17 rfl) ic_0 ?_
  refine R_istore_n (lv' := [some (.ref a0), some (.int a1), some (.int 0), some (.int 0), none, none]) (dd dt_12_worksGo 18 rfl) 3 rfl (by decide) rfl rfl ?_
  obtain ⟨z7, e8, h⟩ := bi_el h
  refine R_mask [true, true, true, true, false, false] rfl (ok_12_worksGo_l27 a0 a1 k0 FU 0 0 μ5 _ e8 ?_)
  refine R_aload_n (dd dt_12_worksGo 89 rfl) 0 rfl rfl ?_
  refine g_12_9 rfl k0 (dd dt_12_worksGo 90 rfl) ?_
  refine R_bipush (v := 14) (dd dt_12_worksGo 91 rfl) bp_14 ?_
  refine R_iload_n (dd dt_12_worksGo 92 rfl) 1 rfl rfl ?_
  obtain ⟨z11, hz11, h⟩ := bi_el h
  have K11 : Rj l E d m_12_worksGo 166 [none, none, none, none, none, none] [.int z11, .int 14, .ref (rf a0 0)] z7.2 Q := by
    clear hz11
    obtain ⟨μ12, e13, h⟩ := bi_el h
    refine R_isto e13 (ty_12_0 k0) (dd dt_12_worksGo 100 rfl) ?_
    obtain rfl := Option.some.inj h
    exact R_vret rfl (dd dt_12_worksGo 101 rfl) hQ
  clear h
  have h := hz11
  clear hz11
  refine R_ifeq (dd dt_12_worksGo 93 rfl) (tgt := 159) rfl (fun hc => ?_) (fun hc => ?_)
  · rw [if_pos hc] at h
    refine R_aload_n (dd dt_12_worksGo 96 rfl) 0 rfl rfl ?_
    refine g_12_9 rfl k0 (dd dt_12_worksGo 97 rfl) ?_
    refine R_bipush (v := 14) (dd dt_12_worksGo 98 rfl) bp_14 ?_
    obtain ⟨x9, e10, h⟩ := bi_el h
    refine R_ild e10 (ty_12_0 k0) (dd dt_12_worksGo 99 rfl) ?_
    obtain rfl := Option.some.inj h
    exact R_mask [false, false, false, false, false, false] rfl K11
  · rw [if_neg hc] at h
    refine R_iload_n (dd dt_12_worksGo 94 rfl) 2 rfl rfl ?_
    refine R_goto (dd dt_12_worksGo 95 rfl) (tgt := 166) rfl ?_
    obtain rfl := Option.some.inj h
    exact R_mask [false, false, false, false, false, false] rfl K11
