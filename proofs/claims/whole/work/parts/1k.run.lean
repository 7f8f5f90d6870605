/-! LongStrikeModel.need(Z)V -/
def tab_12_need : List (Nat × Instr × Nat) := [(0, .aload_n 0, 1), (1, .aload_n 0, 1), (2, .getfield 147, 3), (5, .ifCond .ne 7, 3), (8, .iload_n 1, 1), (9, .ifCond .ne 7, 3), (12, .iconst 1, 1), (13, .goto 4, 3), (16, .iconst 0, 1), (17, .putfield 147, 3), (20, .aload_n 0, 1), (21, .getfield 147, 3), (24, .ifCond .ne 7, 3), (27, .aload_n 0, 1), (28, .invokevirtual 161, 3), (31, .return_, 1)]
set_option maxRecDepth 100000 in
theorem dt_12_need : ∀ q ∈ tab_12_need, decode m_12_need.2.1 q.1 = .ok q.2 := by decide +kernel
def f_12_need (a0 : Nat) (a1 : Int32) (μ : mm) : Option (mm) :=
  (if (μ a0 13) = 0 then
      if a1 = 0 then
        some 1
      else
        some 0
    else
      some 1).bind fun (z1 : Int32) =>
  (gb z1).bind fun _ =>
  (pf μ a0 13 z1).bind fun μ2 =>
  if (μ2 a0 13) = 0 then
    (f_12_next a0 μ2).bind fun μ6 =>
    some μ6
  else
    some μ2
set_option maxRecDepth 100000 in
set_option maxHeartbeats 4000000 in
theorem ok_12_need {l : Launch} {E : ce} {d : Nat}  {a0 : Nat} {a1 : Int32} {μ : mm} {r : mm} {Q : Option Value → mm → Prop} (h : f_12_need a0 a1 μ = some r) (k0 : kd a0 = 12) (hQ : Q none r) : Ct l E (d + 3) yX12_need m_12_need [.ref a0, .int a1] μ Q := by
  refine Ct_of (lv := [some (.ref a0), some (.int a1)]) (by decide) rfl (Nat.le_of_ble_eq_true rfl) rfl ?_
  unfold f_12_need at h
  refine R_aload_n (dd dt_12_need 0 rfl) 0 rfl rfl ?_
  refine R_aload_n (dd dt_12_need 1 rfl) 0 rfl rfl ?_
  refine g_12_147 rfl k0 (dd dt_12_need 2 rfl) ?_
  obtain ⟨z1, hz1, h⟩ := bi_el h
  have K1 : Rj l E (d + 3) m_12_need 17 [some (.ref a0), none] [.int z1, .ref a0] μ Q := by
    clear hz1
    obtain ⟨_, q4, h⟩ := bi_el h
    obtain ⟨μ2, e3, h⟩ := bi_el h
    refine p_12_147 rfl k0 (gb_el q4).1 (dd dt_12_need 9 rfl) e3 ?_
    refine R_aload_n (dd dt_12_need 10 rfl) 0 rfl rfl ?_
    refine g_12_147 rfl k0 (dd dt_12_need 11 rfl) ?_
    refine R_ifne (dd dt_12_need 12 rfl) (tgt := 31) rfl (fun hc => ?_) (fun hc => ?_)
    · rw [if_neg hc] at h
      obtain rfl := Option.some.inj h
      exact R_vret rfl (dd dt_12_need 15 rfl) hQ
    · rw [if_pos hc] at h
      refine R_aload_n (dd dt_12_need 13 rfl) 0 rfl rfl ?_
      obtain ⟨μ6, e5, h⟩ := bi_el h
      refine c_12_161 (As := []) (st1 := []) rfl (fun Q1 hq => ok_12_next e5 k0 hq) k0 rfl rfl (Nat.le_of_ble_eq_true rfl) (dd dt_12_need 14 rfl) rfl ?_
      obtain rfl := Option.some.inj h
      exact R_vret rfl (dd dt_12_need 15 rfl) hQ
  clear h
  have h := hz1
  clear hz1
  refine R_ifne (dd dt_12_need 3 rfl) (tgt := 12) rfl (fun hc => ?_) (fun hc => ?_)
  · rw [if_neg hc] at h
    refine R_iconst (v := 1) (dd dt_12_need 6 rfl) ic_1 ?_
    refine R_goto (dd dt_12_need 7 rfl) (tgt := 17) rfl ?_
    obtain rfl := Option.some.inj h
    exact R_mask [true, false] rfl K1
  · rw [if_pos hc] at h
    refine R_iload_n (dd dt_12_need 4 rfl) 1 rfl rfl ?_
    refine R_ifne (dd dt_12_need 5 rfl) (tgt := 16) rfl (fun hc => ?_) (fun hc => ?_)
    · rw [if_neg hc] at h
      refine R_iconst (v := 0) (dd dt_12_need 8 rfl) ic_0 ?_
      obtain rfl := Option.some.inj h
      exact R_mask [true, false] rfl K1
    · rw [if_pos hc] at h
      refine R_iconst (v := 1) (dd dt_12_need 6 rfl) ic_1 ?_
      refine R_goto (dd dt_12_need 7 rfl) (tgt := 17) rfl ?_
      obtain rfl := Option.some.inj h
      exact R_mask [true, false] rfl K1
/-! LongStrikeModel.number(I)I -/
def tab_12_number : List (Nat × Instr × Nat) := [(0, .iconst 0, 1), (1, .istore_n 2, 1), (2, .aload_n 0, 1), (3, .getfield 147, 3), (6, .ifCond .ne 28, 3), (9, .aload_n 0, 1), (10, .getfield 141, 3), (13, .iconst 2, 1), (14, .if_icmp .ne 20, 3), (17, .aload_n 0, 1), (18, .getfield 135, 3), (21, .aload_n 0, 1), (22, .getfield 138, 3), (25, .isub, 1), (26, .iconst 3, 1), (27, .if_icmp .gt 7, 3), (30, .iconst 1, 1), (31, .goto 4, 3), (34, .iconst 0, 1), (35, .istore_n 3, 1), (36, .aload_n 0, 1), (37, .getfield 138, 3), (40, .istore 4, 2), (42, .iload_n 3, 1), (43, .ifCond .eq 34, 3), (46, .iload 4, 2), (48, .aload_n 0, 1), (49, .getfield 135, 3), (52, .if_icmp .ge 25, 3), (55, .bipush 10, 2), (57, .iload_n 2, 1), (58, .imul, 1), (59, .aload_n 0, 1), (60, .getfield 19, 3), (63, .iload 4, 2), (65, .iaload, 1), (66, .iadd, 1), (67, .bipush 48, 2), (69, .isub, 1), (70, .istore_n 2, 1), (71, .iinc 4 1, 3), (74, .goto (-32), 3), (77, .aload_n 0, 1), (78, .iload_n 3, 1), (79, .ifCond .eq 12, 3), (82, .iload_n 2, 1), (83, .iload_n 1, 1), (84, .if_icmp .gt 7, 3), (87, .iconst 1, 1), (88, .goto 4, 3), (91, .iconst 0, 1), (92, .invokevirtual 164, 3), (95, .iload_n 2, 1), (96, .ireturn, 1)]
set_option maxRecDepth 100000 in
theorem dt_12_number : ∀ q ∈ tab_12_number, decode m_12_number.2.1 q.1 = .ok q.2 := by decide +kernel
def f_12_number_l42 (a0 : Nat) (a1 : Int32) (a3 : Int32) (μ : mm) : Nat → Int32 → Int32 → Option (Int32)
  | 0, _, _ => none
  | n + 1, v2, v4 => if a3 = 0 then
      some v2
    else
      if (μ a0 11) ≤ v4 then
        some v2
      else
        (ld μ (rf a0 4) v4).bind fun x1 =>
        f_12_number_l42 a0 a1 a3 μ n (((10 * v2) + x1) - 48) (v4 + 1)
set_option maxRecDepth 100000 in
theorem ok_12_number_l42 {l : Launch} {E : ce} {d : Nat} {Q : Option Value → mm → Prop} (a0 : Nat) (a1 : Int32) (a3 : Int32) (μ : mm) (k0 : kd a0 = 12) : ∀ (n : Nat) (v2 : Int32) (v4 : Int32) (z : Int32), f_12_number_l42 a0 a1 a3 μ n v2 v4 = some z → Rj l E (d + 4) m_12_number 77 [some (.ref a0), some (.int a1), some (.int z), some (.int a3), none] [] μ Q → Rj l E (d + 4) m_12_number 42 [some (.ref a0), some (.int a1), some (.int v2), some (.int a3), some (.int v4)] [] μ Q
  | 0, _, _, z, h, _ => by
    rw [f_12_number_l42] at h
    cases h
  | n + 1, v2, v4, z, h, KX => by
    rw [f_12_number_l42] at h
    refine R_iload_n (dd dt_12_number 23 rfl) 3 rfl rfl ?_
    refine R_ifeq (dd dt_12_number 24 rfl) (tgt := 77) rfl (fun hc => ?_) (fun hc => ?_)
    · rw [if_pos hc] at h
      obtain rfl := Option.some.inj h
      exact R_mask [true, true, true, true, false] rfl KX
    · rw [if_neg hc] at h
      refine R_iload (dd dt_12_number 25 rfl) rfl ?_
      refine R_aload_n (dd dt_12_number 26 rfl) 0 rfl rfl ?_
      refine g_12_135 rfl k0 (dd dt_12_number 27 rfl) ?_
      refine R_cmpge (dd dt_12_number 28 rfl) (tgt := 77) rfl (fun hc => ?_) (fun hc => ?_)
      · rw [if_pos hc] at h
        obtain rfl := Option.some.inj h
        exact R_mask [true, true, true, true, false] rfl KX
      · rw [if_neg hc] at h
        refine R_bipush (v := 10) (dd dt_12_number 29 rfl) bp_10 ?_
        refine R_iload_n (dd dt_12_number 30 rfl) 2 rfl rfl ?_
        refine R_imul (dd dt_12_number 31 rfl) ?_
        refine R_aload_n (dd dt_12_number 32 rfl) 0 rfl rfl ?_
        refine g_12_19 rfl k0 (dd dt_12_number 33 rfl) ?_
        refine R_iload (dd dt_12_number 34 rfl) rfl ?_
        obtain ⟨x1, e2, h⟩ := bi_el h
        refine R_ild e2 (ty_12_4 k0) (dd dt_12_number 35 rfl) ?_
        refine R_iadd (dd dt_12_number 36 rfl) ?_
        refine R_bipush (v := 48) (dd dt_12_number 37 rfl) bp_48 ?_
        refine R_isub (dd dt_12_number 38 rfl) ?_
        refine R_istore_n (lv' := [some (.ref a0), some (.int a1), some (.int (((10 * v2) + x1) - 48)), some (.int a3), some (.int v4)]) (dd dt_12_number 39 rfl) 2 rfl (by decide) rfl rfl ?_
        refine R_iinc (v := 1) (lv' := [some (.ref a0), some (.int a1), some (.int (((10 * v2) + x1) - 48)), some (.int a3), some (.int (v4 + 1))]) (dd dt_12_number 40 rfl) (by decide) rfl rfl ic_1 rfl ?_
        refine R_goto (dd dt_12_number 41 rfl) (tgt := 42) rfl ?_
        exact R_mask [true, true, true, true, true] rfl (ok_12_number_l42 a0 a1 a3 μ k0 n (((10 * v2) + x1) - 48) (v4 + 1) _ h KX)
def f_12_number (a0 : Nat) (a1 : Int32) (μ : mm) : Option (Int32 × mm) :=
  (if (μ a0 13) = 0 then
      if (μ a0 12) = 2 then
        if 3 < ((μ a0 11) - (μ a0 10)) then
          some 0
        else
          some 1
      else
        some 0
    else
      some 0).bind fun (z1 : Int32) =>
  (f_12_number_l42 a0 a1 z1 μ FU 0 (μ a0 10)).bind fun z2 =>
  (if z1 = 0 then
      some 0
    else
      if a1 < z2 then
        some 0
      else
        some 1).bind fun (z4 : Int32) =>
  (f_12_need a0 z4 μ).bind fun μ6 =>
  some (z2, μ6)
set_option maxRecDepth 100000 in
set_option maxHeartbeats 4000000 in
theorem ok_12_number {l : Launch} {E : ce} {d : Nat}  {a0 : Nat} {a1 : Int32} {μ : mm} {r : Int32 × mm} {Q : Option Value → mm → Prop} (h : f_12_number a0 a1 μ = some r) (k0 : kd a0 = 12) (hQ : Q (some (.int r.1)) r.2) : Ct l E (d + 4) yX12_number m_12_number [.ref a0, .int a1] μ Q := by
  refine Ct_of (lv := [some (.ref a0), some (.int a1), none, none, none]) (by decide) rfl (Nat.le_of_ble_eq_true rfl) rfl ?_
  unfold f_12_number at h
  refine R_iconst (v := 0) (dd dt_12_number 0 rfl) ic_0 ?_
  refine R_istore_n (lv' := [some (.ref a0), some (.int a1), some (.int 0), none, none]) (dd dt_12_number 1 rfl) 2 rfl (by decide) rfl rfl ?_
  refine R_aload_n (dd dt_12_number 2 rfl) 0 rfl rfl ?_
  refine g_12_147 rfl k0 (dd dt_12_number 3 rfl) ?_
  obtain ⟨z1, hz1, h⟩ := bi_el h
  have K1 : Rj l E (d + 4) m_12_number 35 [some (.ref a0), some (.int a1), some (.int 0), none, none] [.int z1] μ Q := by
    clear hz1
    refine R_istore_n (lv' := [some (.ref a0), some (.int a1), some (.int 0), some (.int z1), none]) (dd dt_12_number 19 rfl) 3 rfl (by decide) rfl rfl ?_
    refine R_aload_n (dd dt_12_number 20 rfl) 0 rfl rfl ?_
    refine g_12_138 rfl k0 (dd dt_12_number 21 rfl) ?_
    refine R_istore (lv' := [some (.ref a0), some (.int a1), some (.int 0), some (.int z1), some (.int (μ a0 10))]) (dd dt_12_number 22 rfl) (by decide) rfl rfl ?_
    obtain ⟨z2, e3, h⟩ := bi_el h
    refine R_mask [true, true, true, true, true] rfl (ok_12_number_l42 a0 a1 z1 μ k0 FU 0 (μ a0 10) _ e3 ?_)
    refine R_aload_n (dd dt_12_number 42 rfl) 0 rfl rfl ?_
    refine R_iload_n (dd dt_12_number 43 rfl) 3 rfl rfl ?_
    obtain ⟨z4, hz4, h⟩ := bi_el h
    have K4 : Rj l E (d + 4) m_12_number 92 [none, none, some (.int z2), none, none] [.int z4, .ref a0] μ Q := by
      clear hz4
      obtain ⟨μ6, e5, h⟩ := bi_el h
      refine c_12_164 (As := [.int z4]) (st1 := []) rfl (fun Q1 hq => ok_12_need e5 k0 hq) k0 rfl rfl (Nat.le_of_ble_eq_true rfl) (dd dt_12_number 51 rfl) rfl ?_
      refine R_iload_n (dd dt_12_number 52 rfl) 2 rfl rfl ?_
      obtain rfl := Option.some.inj h
      exact R_iret rfl (dd dt_12_number 53 rfl) hQ
    clear h
    have h := hz4
    clear hz4
    refine R_ifeq (dd dt_12_number 44 rfl) (tgt := 91) rfl (fun hc => ?_) (fun hc => ?_)
    · rw [if_pos hc] at h
      refine R_iconst (v := 0) (dd dt_12_number 50 rfl) ic_0 ?_
      obtain rfl := Option.some.inj h
      exact R_mask [false, false, true, false, false] rfl K4
    · rw [if_neg hc] at h
      refine R_iload_n (dd dt_12_number 45 rfl) 2 rfl rfl ?_
      refine R_iload_n (dd dt_12_number 46 rfl) 1 rfl rfl ?_
      refine R_cmpgt (dd dt_12_number 47 rfl) (tgt := 91) rfl (fun hc => ?_) (fun hc => ?_)
      · rw [if_pos hc] at h
        refine R_iconst (v := 0) (dd dt_12_number 50 rfl) ic_0 ?_
        obtain rfl := Option.some.inj h
        exact R_mask [false, false, true, false, false] rfl K4
      · rw [if_neg hc] at h
        refine R_iconst (v := 1) (dd dt_12_number 48 rfl) ic_1 ?_
        refine R_goto (dd dt_12_number 49 rfl) (tgt := 92) rfl ?_
        obtain rfl := Option.some.inj h
        exact R_mask [false, false, true, false, false] rfl K4
  clear h
  have h := hz1
  clear hz1
  refine R_ifne (dd dt_12_number 4 rfl) (tgt := 34) rfl (fun hc => ?_) (fun hc => ?_)
  · rw [if_neg hc] at h
    refine R_iconst (v := 0) (dd dt_12_number 18 rfl) ic_0 ?_
    obtain rfl := Option.some.inj h
    exact R_mask [true, true, true, false, false] rfl K1
  · rw [if_pos hc] at h
    refine R_aload_n (dd dt_12_number 5 rfl) 0 rfl rfl ?_
    refine g_12_141 rfl k0 (dd dt_12_number 6 rfl) ?_
    refine R_iconst (v := 2) (dd dt_12_number 7 rfl) ic_2 ?_
    refine R_cmpne (dd dt_12_number 8 rfl) (tgt := 34) rfl (fun hc => ?_) (fun hc => ?_)
    · rw [if_neg hc] at h
      refine R_iconst (v := 0) (dd dt_12_number 18 rfl) ic_0 ?_
      obtain rfl := Option.some.inj h
      exact R_mask [true, true, true, false, false] rfl K1
    · rw [if_pos hc] at h
      refine R_aload_n (dd dt_12_number 9 rfl) 0 rfl rfl ?_
      refine g_12_135 rfl k0 (dd dt_12_number 10 rfl) ?_
      refine R_aload_n (dd dt_12_number 11 rfl) 0 rfl rfl ?_
      refine g_12_138 rfl k0 (dd dt_12_number 12 rfl) ?_
      refine R_isub (dd dt_12_number 13 rfl) ?_
      refine R_iconst (v := 3) (dd dt_12_number 14 rfl) ic_3 ?_
      refine R_cmpgt (dd dt_12_number 15 rfl) (tgt := 34) rfl (fun hc => ?_) (fun hc => ?_)
      · rw [if_pos hc] at h
        refine R_iconst (v := 0) (dd dt_12_number 18 rfl) ic_0 ?_
        obtain rfl := Option.some.inj h
        exact R_mask [true, true, true, false, false] rfl K1
      · rw [if_neg hc] at h
        refine R_iconst (v := 1) (dd dt_12_number 16 rfl) ic_1 ?_
        refine R_goto (dd dt_12_number 17 rfl) (tgt := 35) rfl ?_
        obtain rfl := Option.some.inj h
        exact R_mask [true, true, true, false, false] rfl K1
/-! LongStrikeModel.either()V -/
def tab_12_either : List (Nat × Instr × Nat) := [(0, .aload_n 0, 1), (1, .invokevirtual 171, 3), (4, .aload_n 0, 1), (5, .ldc 174, 2), (7, .invokevirtual 176, 3), (10, .ifCond .eq 21, 3), (13, .aload_n 0, 1), (14, .invokevirtual 161, 3), (17, .aload_n 0, 1), (18, .invokevirtual 171, 3), (21, .aload_n 0, 1), (22, .sipush 30002, 3), (25, .invokevirtual 180, 3), (28, .goto (-24), 3), (31, .return_, 1)]
set_option maxRecDepth 100000 in
theorem dt_12_either : ∀ q ∈ tab_12_either, decode m_12_either.2.1 q.1 = .ok q.2 := by decide +kernel
def f_12_either_l4 (rc : Nat → Nat → mm → Option (mm)) (a0 : Nat) : Nat → mm → Option (mm)
  | 0, _ => none
  | n + 1, μ => (f_12_isName a0 1017 μ).bind fun x2 =>
    if x2 = 0 then
      some μ
    else
      (f_12_next a0 μ).bind fun μ4 =>
      (rc 1 a0 μ4).bind fun μ6 =>
      (f_12_codes a0 30002 μ6).bind fun μ8 =>
      f_12_either_l4 rc a0 n  μ8
set_option maxRecDepth 100000 in
theorem ok_12_either_l4 {l : Launch} {E : ce} {d nf : Nat} {Q : Option Value → mm → Prop} (rc : Nat → Nat → mm → Option (mm)) (hrc0 : ∀ {b0 : Nat} {μ : mm} {r : mm} {Q : Option Value → mm → Prop}, rc 0 b0 μ = some r → kd b0 = 12 → Q none r → Ct l E (d + nf + 5) yX12_either m_12_either [.ref b0] μ Q) (hrc1 : ∀ {b0 : Nat} {μ : mm} {r : mm} {Q : Option Value → mm → Prop}, rc 1 b0 μ = some r → kd b0 = 12 → Q none r → Ct l E (d + nf + 5) yX12_all m_12_all [.ref b0] μ Q) (hrc2 : ∀ {b0 : Nat} {μ : mm} {r : mm} {Q : Option Value → mm → Prop}, rc 2 b0 μ = some r → kd b0 = 12 → Q none r → Ct l E (d + nf + 5) yX12_one m_12_one [.ref b0] μ Q) (a0 : Nat) (k0 : kd a0 = 12) : ∀ (n : Nat) (μ : mm) (z : mm), f_12_either_l4 rc a0 n  μ = some z → Rj l E (d + nf + 5 + 1) m_12_either 31 [none] [] z Q → Rj l E (d + nf + 5 + 1) m_12_either 4 [some (.ref a0)] [] μ Q
  | 0, _, z, h, _ => by
    rw [f_12_either_l4] at h
    cases h
  | n + 1, μ, z, h, KX => by
    rw [f_12_either_l4] at h
    refine R_aload_n (dd dt_12_either 2 rfl) 0 rfl rfl ?_
    refine R_str_17 rfl (dd dt_12_either 3 rfl) ?_
    obtain ⟨x2, e1, h⟩ := bi_el h
    refine c_12_176 (As := [.ref 1017]) (st1 := [.int x2]) rfl (fun Q1 hq => ok_12_isName e1 k0 kd_s17 hq) k0 rfl rfl (Nat.le_of_ble_eq_true rfl) (dd dt_12_either 4 rfl) rfl ?_
    refine R_ifeq (dd dt_12_either 5 rfl) (tgt := 31) rfl (fun hc => ?_) (fun hc => ?_)
    · rw [if_pos hc] at h
      obtain rfl := Option.some.inj h
      exact R_mask [false] rfl KX
    · rw [if_neg hc] at h
      refine R_aload_n (dd dt_12_either 6 rfl) 0 rfl rfl ?_
      obtain ⟨μ4, e3, h⟩ := bi_el h
      refine c_12_161 (As := []) (st1 := []) rfl (fun Q1 hq => ok_12_next e3 k0 hq) k0 rfl rfl (Nat.le_of_ble_eq_true rfl) (dd dt_12_either 7 rfl) rfl ?_
      refine R_aload_n (dd dt_12_either 8 rfl) 0 rfl rfl ?_
      obtain ⟨μ6, e5, h⟩ := bi_el h
      refine c_12_171 (As := []) (st1 := []) rfl (fun Q1 hq => hrc1 e5 k0 hq) k0 rfl rfl (Nat.le_of_ble_eq_true rfl) (dd dt_12_either 9 rfl) rfl ?_
      refine R_aload_n (dd dt_12_either 10 rfl) 0 rfl rfl ?_
      refine R_sipush (v := 30002) (dd dt_12_either 11 rfl) sp_30002 ?_
      obtain ⟨μ8, e7, h⟩ := bi_el h
      refine c_12_180 (As := [.int 30002]) (st1 := []) rfl (fun Q1 hq => ok_12_codes e7 k0 hq) k0 rfl rfl (Nat.le_of_ble_eq_true rfl) (dd dt_12_either 12 rfl) rfl ?_
      refine R_goto (dd dt_12_either 13 rfl) (tgt := 4) rfl ?_
      exact R_mask [true] rfl (ok_12_either_l4 rc hrc0 hrc1 hrc2 a0 k0 n μ8 _ h KX)
def f_12_either_b (rc : Nat → Nat → mm → Option (mm)) (a0 : Nat) (μ : mm) : Option (mm) :=
  (rc 1 a0 μ).bind fun μ2 =>
  (f_12_either_l4 rc a0 FU μ2).bind fun z3 =>
  some z3
set_option maxRecDepth 100000 in
set_option maxHeartbeats 4000000 in
theorem ok_12_either_b {l : Launch} {E : ce} {d nf : Nat} (rc : Nat → Nat → mm → Option (mm)) (hrc0 : ∀ {b0 : Nat} {μ : mm} {r : mm} {Q : Option Value → mm → Prop}, rc 0 b0 μ = some r → kd b0 = 12 → Q none r → Ct l E (d + nf + 5) yX12_either m_12_either [.ref b0] μ Q) (hrc1 : ∀ {b0 : Nat} {μ : mm} {r : mm} {Q : Option Value → mm → Prop}, rc 1 b0 μ = some r → kd b0 = 12 → Q none r → Ct l E (d + nf + 5) yX12_all m_12_all [.ref b0] μ Q) (hrc2 : ∀ {b0 : Nat} {μ : mm} {r : mm} {Q : Option Value → mm → Prop}, rc 2 b0 μ = some r → kd b0 = 12 → Q none r → Ct l E (d + nf + 5) yX12_one m_12_one [.ref b0] μ Q)  {a0 : Nat} {μ : mm} {r : mm} {Q : Option Value → mm → Prop} (h : f_12_either_b rc a0 μ = some r) (k0 : kd a0 = 12) (hQ : Q none r) : Ct l E (d + nf + 5 + 1) yX12_either m_12_either [.ref a0] μ Q := by
  refine Ct_of (lv := [some (.ref a0)]) (by decide) rfl (Nat.le_of_ble_eq_true rfl) rfl ?_
  unfold f_12_either_b at h
  refine R_aload_n (dd dt_12_either 0 rfl) 0 rfl rfl ?_
  obtain ⟨μ2, e1, h⟩ := bi_el h
  refine c_12_171 (As := []) (st1 := []) rfl (fun Q1 hq => hrc1 e1 k0 hq) k0 rfl rfl (Nat.le_of_ble_eq_true rfl) (dd dt_12_either 1 rfl) rfl ?_
  obtain ⟨z3, e4, h⟩ := bi_el h
  refine R_mask [true] rfl (ok_12_either_l4 rc hrc0 hrc1 hrc2 a0 k0 FU μ2 _ e4 ?_)
  obtain rfl := Option.some.inj h
  exact R_vret rfl (dd dt_12_either 14 rfl) hQ
/-! LongStrikeModel.all()V -/
def tab_12_all : List (Nat × Instr × Nat) := [(0, .aload_n 0, 1), (1, .invokevirtual 184, 3), (4, .aload_n 0, 1), (5, .ldc 187, 2), (7, .invokevirtual 176, 3), (10, .ifCond .eq 21, 3), (13, .aload_n 0, 1), (14, .invokevirtual 161, 3), (17, .aload_n 0, 1), (18, .invokevirtual 184, 3), (21, .aload_n 0, 1), (22, .sipush 30001, 3), (25, .invokevirtual 180, 3), (28, .goto (-24), 3), (31, .return_, 1)]
set_option maxRecDepth 100000 in
theorem dt_12_all : ∀ q ∈ tab_12_all, decode m_12_all.2.1 q.1 = .ok q.2 := by decide +kernel
def f_12_all_l4 (rc : Nat → Nat → mm → Option (mm)) (a0 : Nat) : Nat → mm → Option (mm)
  | 0, _ => none
  | n + 1, μ => (f_12_isName a0 1016 μ).bind fun x2 =>
    if x2 = 0 then
      some μ
    else
      (f_12_next a0 μ).bind fun μ4 =>
      (rc 2 a0 μ4).bind fun μ6 =>
      (f_12_codes a0 30001 μ6).bind fun μ8 =>
      f_12_all_l4 rc a0 n  μ8
set_option maxRecDepth 100000 in
theorem ok_12_all_l4 {l : Launch} {E : ce} {d nf : Nat} {Q : Option Value → mm → Prop} (rc : Nat → Nat → mm → Option (mm)) (hrc0 : ∀ {b0 : Nat} {μ : mm} {r : mm} {Q : Option Value → mm → Prop}, rc 0 b0 μ = some r → kd b0 = 12 → Q none r → Ct l E (d + nf + 5) yX12_either m_12_either [.ref b0] μ Q) (hrc1 : ∀ {b0 : Nat} {μ : mm} {r : mm} {Q : Option Value → mm → Prop}, rc 1 b0 μ = some r → kd b0 = 12 → Q none r → Ct l E (d + nf + 5) yX12_all m_12_all [.ref b0] μ Q) (hrc2 : ∀ {b0 : Nat} {μ : mm} {r : mm} {Q : Option Value → mm → Prop}, rc 2 b0 μ = some r → kd b0 = 12 → Q none r → Ct l E (d + nf + 5) yX12_one m_12_one [.ref b0] μ Q) (a0 : Nat) (k0 : kd a0 = 12) : ∀ (n : Nat) (μ : mm) (z : mm), f_12_all_l4 rc a0 n  μ = some z → Rj l E (d + nf + 5 + 1) m_12_all 31 [none] [] z Q → Rj l E (d + nf + 5 + 1) m_12_all 4 [some (.ref a0)] [] μ Q
  | 0, _, z, h, _ => by
    rw [f_12_all_l4] at h
    cases h
  | n + 1, μ, z, h, KX => by
    rw [f_12_all_l4] at h
    refine R_aload_n (dd dt_12_all 2 rfl) 0 rfl rfl ?_
    refine R_str_16 rfl (dd dt_12_all 3 rfl) ?_
    obtain ⟨x2, e1, h⟩ := bi_el h
    refine c_12_176 (As := [.ref 1016]) (st1 := [.int x2]) rfl (fun Q1 hq => ok_12_isName e1 k0 kd_s16 hq) k0 rfl rfl (Nat.le_of_ble_eq_true rfl) (dd dt_12_all 4 rfl) rfl ?_
    refine R_ifeq (dd dt_12_all 5 rfl) (tgt := 31) rfl (fun hc => ?_) (fun hc => ?_)
    · rw [if_pos hc] at h
      obtain rfl := Option.some.inj h
      exact R_mask [false] rfl KX
    · rw [if_neg hc] at h
      refine R_aload_n (dd dt_12_all 6 rfl) 0 rfl rfl ?_
      obtain ⟨μ4, e3, h⟩ := bi_el h
      refine c_12_161 (As := []) (st1 := []) rfl (fun Q1 hq => ok_12_next e3 k0 hq) k0 rfl rfl (Nat.le_of_ble_eq_true rfl) (dd dt_12_all 7 rfl) rfl ?_
      refine R_aload_n (dd dt_12_all 8 rfl) 0 rfl rfl ?_
      obtain ⟨μ6, e5, h⟩ := bi_el h
      refine c_12_184 (As := []) (st1 := []) rfl (fun Q1 hq => hrc2 e5 k0 hq) k0 rfl rfl (Nat.le_of_ble_eq_true rfl) (dd dt_12_all 9 rfl) rfl ?_
      refine R_aload_n (dd dt_12_all 10 rfl) 0 rfl rfl ?_
      refine R_sipush (v := 30001) (dd dt_12_all 11 rfl) sp_30001 ?_
      obtain ⟨μ8, e7, h⟩ := bi_el h
      refine c_12_180 (As := [.int 30001]) (st1 := []) rfl (fun Q1 hq => ok_12_codes e7 k0 hq) k0 rfl rfl (Nat.le_of_ble_eq_true rfl) (dd dt_12_all 12 rfl) rfl ?_
      refine R_goto (dd dt_12_all 13 rfl) (tgt := 4) rfl ?_
      exact R_mask [true] rfl (ok_12_all_l4 rc hrc0 hrc1 hrc2 a0 k0 n μ8 _ h KX)
def f_12_all_b (rc : Nat → Nat → mm → Option (mm)) (a0 : Nat) (μ : mm) : Option (mm) :=
  (rc 2 a0 μ).bind fun μ2 =>
  (f_12_all_l4 rc a0 FU μ2).bind fun z3 =>
  some z3
set_option maxRecDepth 100000 in
set_option maxHeartbeats 4000000 in
theorem ok_12_all_b {l : Launch} {E : ce} {d nf : Nat} (rc : Nat → Nat → mm → Option (mm)) (hrc0 : ∀ {b0 : Nat} {μ : mm} {r : mm} {Q : Option Value → mm → Prop}, rc 0 b0 μ = some r → kd b0 = 12 → Q none r → Ct l E (d + nf + 5) yX12_either m_12_either [.ref b0] μ Q) (hrc1 : ∀ {b0 : Nat} {μ : mm} {r : mm} {Q : Option Value → mm → Prop}, rc 1 b0 μ = some r → kd b0 = 12 → Q none r → Ct l E (d + nf + 5) yX12_all m_12_all [.ref b0] μ Q) (hrc2 : ∀ {b0 : Nat} {μ : mm} {r : mm} {Q : Option Value → mm → Prop}, rc 2 b0 μ = some r → kd b0 = 12 → Q none r → Ct l E (d + nf + 5) yX12_one m_12_one [.ref b0] μ Q)  {a0 : Nat} {μ : mm} {r : mm} {Q : Option Value → mm → Prop} (h : f_12_all_b rc a0 μ = some r) (k0 : kd a0 = 12) (hQ : Q none r) : Ct l E (d + nf + 5 + 1) yX12_all m_12_all [.ref a0] μ Q := by
  refine Ct_of (lv := [some (.ref a0)]) (by decide) rfl (Nat.le_of_ble_eq_true rfl) rfl ?_
  unfold f_12_all_b at h
  refine R_aload_n (dd dt_12_all 0 rfl) 0 rfl rfl ?_
  obtain ⟨μ2, e1, h⟩ := bi_el h
  refine c_12_184 (As := []) (st1 := []) rfl (fun Q1 hq => hrc2 e1 k0 hq) k0 rfl rfl (Nat.le_of_ble_eq_true rfl) (dd dt_12_all 1 rfl) rfl ?_
  obtain ⟨z3, e4, h⟩ := bi_el h
  refine R_mask [true] rfl (ok_12_all_l4 rc hrc0 hrc1 hrc2 a0 k0 FU μ2 _ e4 ?_)
  obtain rfl := Option.some.inj h
  exact R_vret rfl (dd dt_12_all 14 rfl) hQ
/-! LongStrikeModel.one()V -/
def tab_12_one : List (Nat × Instr × Nat) := [(0, .iconst 0, 1), (1, .istore_n 1, 1), (2, .aload_n 0, 1), (3, .ldc 189, 2), (5, .invokevirtual 176, 3), (8, .ifCond .eq 13, 3), (11, .aload_n 0, 1), (12, .invokevirtual 161, 3), (15, .iinc 1 1, 3), (18, .goto (-16), 3), (21, .aload_n 0, 1), (22, .bipush 40, 2), (24, .invokevirtual 191, 3), (27, .ifCond .eq 57, 3), (30, .aload_n 0, 1), (31, .dup, 1), (32, .getfield 194, 3), (35, .iconst 1, 1), (36, .iadd, 1), (37, .putfield 194, 3), (40, .aload_n 0, 1), (41, .aload_n 0, 1), (42, .getfield 194, 3), (45, .iconst 4, 1), (46, .if_icmp .gt 7, 3), (49, .iconst 1, 1), (50, .goto 4, 3), (53, .iconst 0, 1), (54, .invokevirtual 164, 3), (57, .aload_n 0, 1), (58, .invokevirtual 197, 3), (61, .aload_n 0, 1), (62, .aload_n 0, 1), (63, .bipush 41, 2), (65, .invokevirtual 191, 3), (68, .invokevirtual 164, 3), (71, .aload_n 0, 1), (72, .dup, 1), (73, .getfield 194, 3), (76, .iconst 1, 1), (77, .isub, 1), (78, .putfield 194, 3), (81, .goto 141, 3), (84, .iconst (-1), 1), (85, .istore_n 2, 1), (86, .iconst 0, 1), (87, .istore_n 3, 1), (88, .iload_n 3, 1), (89, .bipush 7, 2), (91, .if_icmp .ge 27, 3), (94, .aload_n 0, 1), (95, .getstatic 200, 3), (98, .iload_n 3, 1), (99, .aaload, 1), (100, .invokevirtual 176, 3), (103, .ifCond .eq 7, 3), (106, .iload_n 3, 1), (107, .goto 4, 3), (110, .iload_n 2, 1), (111, .istore_n 2, 1), (112, .iinc 3 1, 3), (115, .goto (-27), 3), (118, .aload_n 0, 1), (119, .iload_n 2, 1), (120, .ifCond .lt 7, 3), (123, .iconst 1, 1), (124, .goto 4, 3), (127, .iconst 0, 1), (128, .invokevirtual 164, 3), (131, .aload_n 0, 1), (132, .bipush 60, 2), (134, .invokevirtual 191, 3), (137, .ifCond .eq 7, 3), (140, .iconst 0, 1), (141, .goto 17, 3), (144, .aload_n 0, 1), (145, .bipush 61, 2), (147, .invokevirtual 191, 3), (150, .ifCond .eq 7, 3), (153, .iconst 1, 1), (154, .goto 4, 3), (157, .iconst 2, 1), (158, .istore_n 3, 1), (159, .aload_n 0, 1), (160, .aload_n 0, 1), (161, .bipush 60, 2), (163, .invokevirtual 191, 3), (166, .ifCond .ne 21, 3), (169, .aload_n 0, 1), (170, .bipush 61, 2), (172, .invokevirtual 191, 3), (175, .ifCond .ne 12, 3), (178, .aload_n 0, 1), (179, .bipush 62, 2), (181, .invokevirtual 191, 3), (184, .ifCond .eq 7, 3), (187, .iconst 1, 1), (188, .goto 4, 3), (191, .iconst 0, 1), (192, .invokevirtual 164, 3), (195, .aload_n 0, 1), (196, .sipush 999, 3), (199, .invokevirtual 204, 3), (202, .istore 4, 2), (204, .aload_n 0, 1), (205, .sipush 3000, 3), (208, .iload_n 2, 1), (209, .imul, 1), (210, .sipush 1000, 3), (213, .iload_n 3, 1), (214, .imul, 1), (215, .iadd, 1), (216, .iload 4, 2), (218, .iadd, 1), (219, .invokevirtual 180, 3), (222, .iconst 0, 1), (223, .istore_n 2, 1), (224, .iload_n 2, 1), (225, .iload_n 1, 1), (226, .if_icmp .ge 16, 3), (229, .aload_n 0, 1), (230, .sipush 30000, 3), (233, .invokevirtual 180, 3), (236, .iinc 2 1, 3), (239, .goto (-15), 3), (242, .return_, 1)]
set_option maxRecDepth 100000 in
theorem dt_12_one : ∀ q ∈ tab_12_one, decode m_12_one.2.1 q.1 = .ok q.2 := by decide +kernel
def f_12_one_l2 (rc : Nat → Nat → mm → Option (mm)) (a0 : Nat) : Nat → Int32 → mm → Option (Int32 × mm)
  | 0, _, _ => none
  | n + 1, v1, μ => (f_12_isName a0 1015 μ).bind fun x2 =>
    if x2 = 0 then
      some (v1, μ)
    else
      (f_12_next a0 μ).bind fun μ4 =>
      f_12_one_l2 rc a0 n (v1 + 1) μ4
set_option maxRecDepth 100000 in
theorem ok_12_one_l2 {l : Launch} {E : ce} {d nf : Nat} {Q : Option Value → mm → Prop} (rc : Nat → Nat → mm → Option (mm)) (hrc0 : ∀ {b0 : Nat} {μ : mm} {r : mm} {Q : Option Value → mm → Prop}, rc 0 b0 μ = some r → kd b0 = 12 → Q none r → Ct l E (d + nf + 5) yX12_either m_12_either [.ref b0] μ Q) (hrc1 : ∀ {b0 : Nat} {μ : mm} {r : mm} {Q : Option Value → mm → Prop}, rc 1 b0 μ = some r → kd b0 = 12 → Q none r → Ct l E (d + nf + 5) yX12_all m_12_all [.ref b0] μ Q) (hrc2 : ∀ {b0 : Nat} {μ : mm} {r : mm} {Q : Option Value → mm → Prop}, rc 2 b0 μ = some r → kd b0 = 12 → Q none r → Ct l E (d + nf + 5) yX12_one m_12_one [.ref b0] μ Q) (a0 : Nat) (k0 : kd a0 = 12) : ∀ (n : Nat) (v1 : Int32) (μ : mm) (z : Int32 × mm), f_12_one_l2 rc a0 n v1 μ = some z → Rj l E (d + nf + 5 + 1) m_12_one 21 [some (.ref a0), some (.int z.1), none, none, none] [] z.2 Q → Rj l E (d + nf + 5 + 1) m_12_one 2 [some (.ref a0), some (.int v1), none, none, none] [] μ Q
  | 0, _, _, z, h, _ => by
    rw [f_12_one_l2] at h
    cases h
  | n + 1, v1, μ, z, h, KX => by
    rw [f_12_one_l2] at h
    refine R_aload_n (dd dt_12_one 2 rfl) 0 rfl rfl ?_
    refine R_str_15 rfl (dd dt_12_one 3 rfl) ?_
    obtain ⟨x2, e1, h⟩ := bi_el h
    refine c_12_176 (As := [.ref 1015]) (st1 := [.int x2]) rfl (fun Q1 hq => ok_12_isName e1 k0 kd_s15 hq) k0 rfl rfl (Nat.le_of_ble_eq_true rfl) (dd dt_12_one 4 rfl) rfl ?_
    refine R_ifeq (dd dt_12_one 5 rfl) (tgt := 21) rfl (fun hc => ?_) (fun hc => ?_)
    · rw [if_pos hc] at h
      obtain rfl := Option.some.inj h
      exact R_mask [true, true, false, false, false] rfl KX
    · rw [if_neg hc] at h
      refine R_aload_n (dd dt_12_one 6 rfl) 0 rfl rfl ?_
      obtain ⟨μ4, e3, h⟩ := bi_el h
      refine c_12_161 (As := []) (st1 := []) rfl (fun Q1 hq => ok_12_next e3 k0 hq) k0 rfl rfl (Nat.le_of_ble_eq_true rfl) (dd dt_12_one 7 rfl) rfl ?_
      refine R_iinc (v := 1) (lv' := [some (.ref a0), some (.int (v1 + 1)), none, none, none]) (dd dt_12_one 8 rfl) (by decide) rfl rfl ic_1 rfl ?_
      refine R_goto (dd dt_12_one 9 rfl) (tgt := 2) rfl ?_
      exact R_mask [true, true, false, false, false] rfl (ok_12_one_l2 rc hrc0 hrc1 hrc2 a0 k0 n (v1 + 1) μ4 _ h KX)
def f_12_one_l88 (rc : Nat → Nat → mm → Option (mm)) (a0 : Nat) (a1 : Int32) (μ : mm) : Nat → Int32 → Int32 → Option (Int32)
  | 0, _, _ => none
  | n + 1, v2, v3 => if 7 ≤ v3 then
      some v2
    else
      (lda 2001 v3).bind fun r1 =>
      (f_12_isName a0 r1 μ).bind fun x4 =>
      if x4 = 0 then
        f_12_one_l88 rc a0 a1 μ n v2 (v3 + 1)
      else
        f_12_one_l88 rc a0 a1 μ n v3 (v3 + 1)
set_option maxRecDepth 100000 in
theorem ok_12_one_l88 {l : Launch} {E : ce} {d nf : Nat} {Q : Option Value → mm → Prop} (rc : Nat → Nat → mm → Option (mm)) (hrc0 : ∀ {b0 : Nat} {μ : mm} {r : mm} {Q : Option Value → mm → Prop}, rc 0 b0 μ = some r → kd b0 = 12 → Q none r → Ct l E (d + nf + 5) yX12_either m_12_either [.ref b0] μ Q) (hrc1 : ∀ {b0 : Nat} {μ : mm} {r : mm} {Q : Option Value → mm → Prop}, rc 1 b0 μ = some r → kd b0 = 12 → Q none r → Ct l E (d + nf + 5) yX12_all m_12_all [.ref b0] μ Q) (hrc2 : ∀ {b0 : Nat} {μ : mm} {r : mm} {Q : Option Value → mm → Prop}, rc 2 b0 μ = some r → kd b0 = 12 → Q none r → Ct l E (d + nf + 5) yX12_one m_12_one [.ref b0] μ Q) (a0 : Nat) (a1 : Int32) (μ : mm) (k0 : kd a0 = 12) : ∀ (n : Nat) (v2 : Int32) (v3 : Int32) (z : Int32), f_12_one_l88 rc a0 a1 μ n v2 v3 = some z → Rj l E (d + nf + 5 + 1) m_12_one 118 [some (.ref a0), some (.int a1), some (.int z), none, none] [] μ Q → Rj l E (d + nf + 5 + 1) m_12_one 88 [some (.ref a0), some (.int a1), some (.int v2), some (.int v3), none] [] μ Q
  | 0, _, _, z, h, _ => by
    rw [f_12_one_l88] at h
    cases h
  | n + 1, v2, v3, z, h, KX => by
    rw [f_12_one_l88] at h
    refine R_iload_n (dd dt_12_one 47 rfl) 3 rfl rfl ?_
    refine R_bipush (v := 7) (dd dt_12_one 48 rfl) bp_7 ?_
    refine R_cmpge (dd dt_12_one 49 rfl) (tgt := 118) rfl (fun hc => ?_) (fun hc => ?_)
    · rw [if_pos hc] at h
      obtain rfl := Option.some.inj h
      exact R_mask [true, true, true, false, false] rfl KX
    · rw [if_neg hc] at h
      refine R_aload_n (dd dt_12_one 50 rfl) 0 rfl rfl ?_
      refine R_gs_1 rfl (dd dt_12_one 51 rfl) ?_
      refine R_iload_n (dd dt_12_one 52 rfl) 3 rfl rfl ?_
      obtain ⟨r1, e2, h⟩ := bi_el h
      refine R_sald e2 kd_t1 (dd dt_12_one 53 rfl) ?_
      obtain ⟨x4, e3, h⟩ := bi_el h
      refine c_12_176 (As := [.ref r1]) (st1 := [.int x4]) rfl (fun Q1 hq => ok_12_isName e3 k0 (tl_51 e2 kd_t1) hq) k0 rfl rfl (Nat.le_of_ble_eq_true rfl) (dd dt_12_one 54 rfl) rfl ?_
      refine R_ifeq (dd dt_12_one 55 rfl) (tgt := 110) rfl (fun hc => ?_) (fun hc => ?_)
      · rw [if_pos hc] at h
        refine R_iload_n (dd dt_12_one 58 rfl) 2 rfl rfl ?_
        refine R_istore_n (lv' := [some (.ref a0), some (.int a1), some (.int v2), some (.int v3), none]) (dd dt_12_one 59 rfl) 2 rfl (by decide) rfl rfl ?_
        refine R_iinc (v := 1) (lv' := [some (.ref a0), some (.int a1), some (.int v2), some (.int (v3 + 1)), none]) (dd dt_12_one 60 rfl) (by decide) rfl rfl ic_1 rfl ?_
        refine R_goto (dd dt_12_one 61 rfl) (tgt := 88) rfl ?_
        exact R_mask [true, true, true, true, false] rfl (ok_12_one_l88 rc hrc0 hrc1 hrc2 a0 a1 μ k0 n v2 (v3 + 1) _ h KX)
      · rw [if_neg hc] at h
        refine R_iload_n (dd dt_12_one 56 rfl) 3 rfl rfl ?_
        refine R_goto (dd dt_12_one 57 rfl) (tgt := 111) rfl ?_
        refine R_istore_n (lv' := [some (.ref a0), some (.int a1), some (.int v3), some (.int v3), none]) (dd dt_12_one 59 rfl) 2 rfl (by decide) rfl rfl ?_
        refine R_iinc (v := 1) (lv' := [some (.ref a0), some (.int a1), some (.int v3), some (.int (v3 + 1)), none]) (dd dt_12_one 60 rfl) (by decide) rfl rfl ic_1 rfl ?_
        refine R_goto (dd dt_12_one 61 rfl) (tgt := 88) rfl ?_
        exact R_mask [true, true, true, true, false] rfl (ok_12_one_l88 rc hrc0 hrc1 hrc2 a0 a1 μ k0 n v3 (v3 + 1) _ h KX)
def f_12_one_l224 (rc : Nat → Nat → mm → Option (mm)) (a0 : Nat) (a1 : Int32) : Nat → Int32 → mm → Option (mm)
  | 0, _, _ => none
  | n + 1, v2, μ => if a1 ≤ v2 then
      some μ
    else
      (f_12_codes a0 30000 μ).bind fun μ2 =>
      f_12_one_l224 rc a0 a1 n (v2 + 1) μ2
set_option maxRecDepth 100000 in
theorem ok_12_one_l224 {l : Launch} {E : ce} {d nf : Nat} {Q : Option Value → mm → Prop} (rc : Nat → Nat → mm → Option (mm)) (hrc0 : ∀ {b0 : Nat} {μ : mm} {r : mm} {Q : Option Value → mm → Prop}, rc 0 b0 μ = some r → kd b0 = 12 → Q none r → Ct l E (d + nf + 5) yX12_either m_12_either [.ref b0] μ Q) (hrc1 : ∀ {b0 : Nat} {μ : mm} {r : mm} {Q : Option Value → mm → Prop}, rc 1 b0 μ = some r → kd b0 = 12 → Q none r → Ct l E (d + nf + 5) yX12_all m_12_all [.ref b0] μ Q) (hrc2 : ∀ {b0 : Nat} {μ : mm} {r : mm} {Q : Option Value → mm → Prop}, rc 2 b0 μ = some r → kd b0 = 12 → Q none r → Ct l E (d + nf + 5) yX12_one m_12_one [.ref b0] μ Q) (a0 : Nat) (a1 : Int32) (k0 : kd a0 = 12) : ∀ (n : Nat) (v2 : Int32) (μ : mm) (z : mm), f_12_one_l224 rc a0 a1 n v2 μ = some z → Rj l E (d + nf + 5 + 1) m_12_one 242 [none, none, none, none, none] [] z Q → Rj l E (d + nf + 5 + 1) m_12_one 224 [some (.ref a0), some (.int a1), some (.int v2), none, none] [] μ Q
  | 0, _, _, z, h, _ => by
    rw [f_12_one_l224] at h
    cases h
  | n + 1, v2, μ, z, h, KX => by
    rw [f_12_one_l224] at h
    refine R_iload_n (dd dt_12_one 117 rfl) 2 rfl rfl ?_
    refine R_iload_n (dd dt_12_one 118 rfl) 1 rfl rfl ?_
    refine R_cmpge (dd dt_12_one 119 rfl) (tgt := 242) rfl (fun hc => ?_) (fun hc => ?_)
    · rw [if_pos hc] at h
      obtain rfl := Option.some.inj h
      exact R_mask [false, false, false, false, false] rfl KX
    · rw [if_neg hc] at h
      refine R_aload_n (dd dt_12_one 120 rfl) 0 rfl rfl ?_
      refine R_sipush (v := 30000) (dd dt_12_one 121 rfl) sp_30000 ?_
      obtain ⟨μ2, e1, h⟩ := bi_el h
      refine c_12_180 (As := [.int 30000]) (st1 := []) rfl (fun Q1 hq => ok_12_codes e1 k0 hq) k0 rfl rfl (Nat.le_of_ble_eq_true rfl) (dd dt_12_one 122 rfl) rfl ?_
      refine R_iinc (v := 1) (lv' := [some (.ref a0), some (.int a1), some (.int (v2 + 1)), none, none]) (dd dt_12_one 123 rfl) (by decide) rfl rfl ic_1 rfl ?_
      refine R_goto (dd dt_12_one 124 rfl) (tgt := 224) rfl ?_
      exact R_mask [true, true, true, false, false] rfl (ok_12_one_l224 rc hrc0 hrc1 hrc2 a0 a1 k0 n (v2 + 1) μ2 _ h KX)
def f_12_one_b (rc : Nat → Nat → mm → Option (mm)) (a0 : Nat) (μ : mm) : Option (mm) :=
  (f_12_one_l2 rc a0 FU 0 μ).bind fun z1 =>
  (f_12_isSign a0 40 z1.2).bind fun x4 =>
  (if x4 = 0 then
      (f_12_one_l88 rc a0 z1.1 z1.2 FU (-1) 0).bind fun z5 =>
      (if z5 < 0 then
          some 0
        else
          some 1).bind fun (z7 : Int32) =>
      (f_12_need a0 z7 z1.2).bind fun μ9 =>
      (f_12_isSign a0 60 μ9).bind fun x11 =>
      (if x11 = 0 then
          (f_12_isSign a0 61 μ9).bind fun x13 =>
          if x13 = 0 then
            some 2
          else
            some 1
        else
          some 0).bind fun (z14 : Int32) =>
      (f_12_isSign a0 60 μ9).bind fun x16 =>
      (if x16 = 0 then
          (f_12_isSign a0 61 μ9).bind fun x18 =>
          if x18 = 0 then
            (f_12_isSign a0 62 μ9).bind fun x20 =>
            if x20 = 0 then
              some 0
            else
              some 1
          else
            some 1
        else
          some 1).bind fun (z21 : Int32) =>
      (f_12_need a0 z21 μ9).bind fun μ23 =>
      (f_12_number a0 999 μ23).bind fun z25 =>
      (f_12_codes a0 (((3000 * z5) + (1000 * z14)) + z25.1) z25.2).bind fun μ27 =>
      some μ27
    else
      (pf z1.2 a0 14 ((z1.2 a0 14) + 1)).bind fun μ28 =>
      (if 4 < (μ28 a0 14) then
          some 0
        else
          some 1).bind fun (z30 : Int32) =>
      (f_12_need a0 z30 μ28).bind fun μ32 =>
      (rc 0 a0 μ32).bind fun μ34 =>
      (f_12_isSign a0 41 μ34).bind fun x36 =>
      (f_12_need a0 x36 μ34).bind fun μ38 =>
      (pf μ38 a0 14 ((μ38 a0 14) - 1)).bind fun μ39 =>
      some μ39).bind fun (z41 : mm) =>
  (f_12_one_l224 rc a0 z1.1 FU 0 z41).bind fun z42 =>
  some z42
set_option maxRecDepth 100000 in
set_option maxHeartbeats 4000000 in
theorem ok_12_one_b {l : Launch} {E : ce} {d nf : Nat} (rc : Nat → Nat → mm → Option (mm)) (hrc0 : ∀ {b0 : Nat} {μ : mm} {r : mm} {Q : Option Value → mm → Prop}, rc 0 b0 μ = some r → kd b0 = 12 → Q none r → Ct l E (d + nf + 5) yX12_either m_12_either [.ref b0] μ Q) (hrc1 : ∀ {b0 : Nat} {μ : mm} {r : mm} {Q : Option Value → mm → Prop}, rc 1 b0 μ = some r → kd b0 = 12 → Q none r → Ct l E (d + nf + 5) yX12_all m_12_all [.ref b0] μ Q) (hrc2 : ∀ {b0 : Nat} {μ : mm} {r : mm} {Q : Option Value → mm → Prop}, rc 2 b0 μ = some r → kd b0 = 12 → Q none r → Ct l E (d + nf + 5) yX12_one m_12_one [.ref b0] μ Q)  {a0 : Nat} {μ : mm} {r : mm} {Q : Option Value → mm → Prop} (h : f_12_one_b rc a0 μ = some r) (k0 : kd a0 = 12) (hQ : Q none r) : Ct l E (d + nf + 5 + 1) yX12_one m_12_one [.ref a0] μ Q := by
  refine Ct_of (lv := [some (.ref a0), none, none, none, none]) (by decide) rfl (Nat.le_of_ble_eq_true rfl) rfl ?_
  unfold f_12_one_b at h
  refine R_iconst (v := 0) (dd dt_12_one 0 rfl) ic_0 ?_
  refine R_istore_n (lv' := [some (.ref a0), some (.int 0), none, none, none]) (dd dt_12_one 1 rfl) 1 rfl (by decide) rfl rfl ?_
  obtain ⟨z1, e2, h⟩ := bi_el h
  refine R_mask [true, true, false, false, false] rfl (ok_12_one_l2 rc hrc0 hrc1 hrc2 a0 k0 FU 0 μ _ e2 ?_)
  refine R_aload_n (dd dt_12_one 10 rfl) 0 rfl rfl ?_
  refine R_bipush (v := 40) (dd dt_12_one 11 rfl) bp_40 ?_
  obtain ⟨x4, e3, h⟩ := bi_el h
  refine c_12_191 (As := [.int 40]) (st1 := [.int x4]) rfl (fun Q1 hq => ok_12_isSign e3 k0 hq) k0 rfl rfl (Nat.le_of_ble_eq_true rfl) (dd dt_12_one 12 rfl) rfl ?_
  obtain ⟨z41, hz41, h⟩ := bi_el h
  have K41 : Rj l E (d + nf + 5 + 1) m_12_one 222 [some (.ref a0), some (.int z1.1), none, none, none] [] z41 Q := by
    clear hz41
    refine R_iconst (v := 0) (dd dt_12_one 115 rfl) ic_0 ?_
    refine R_istore_n (lv' := [some (.ref a0), some (.int z1.1), some (.int 0), none, none]) (dd dt_12_one 116 rfl) 2 rfl (by decide) rfl rfl ?_
    obtain ⟨z42, e43, h⟩ := bi_el h
    refine R_mask [true, true, true, false, false] rfl (ok_12_one_l224 rc hrc0 hrc1 hrc2 a0 z1.1 k0 FU 0 z41 _ e43 ?_)
    obtain rfl := Option.some.inj h
    exact R_vret rfl (dd dt_12_one 125 rfl) hQ
  clear h
  have h := hz41
  clear hz41
  refine R_ifeq (dd dt_12_one 13 rfl) (tgt := 84) rfl (fun hc => ?_) (fun hc => ?_)
  · rw [if_pos hc] at h
    refine R_iconst (v := (-1)) (dd dt_12_one 43 rfl) ic_m1 ?_
    refine R_istore_n (lv' := [some (.ref a0), some (.int z1.1), some (.int (-1)), none, none]) (dd dt_12_one 44 rfl) 2 rfl (by decide) rfl rfl ?_
    refine R_iconst (v := 0) (dd dt_12_one 45 rfl) ic_0 ?_
    refine R_istore_n (lv' := [some (.ref a0), some (.int z1.1), some (.int (-1)), some (.int 0), none]) (dd dt_12_one 46 rfl) 3 rfl (by decide) rfl rfl ?_
    obtain ⟨z5, e6, h⟩ := bi_el h
    refine R_mask [true, true, true, true, false] rfl (ok_12_one_l88 rc hrc0 hrc1 hrc2 a0 z1.1 z1.2 k0 FU (-1) 0 _ e6 ?_)
    refine R_aload_n (dd dt_12_one 62 rfl) 0 rfl rfl ?_
    refine R_iload_n (dd dt_12_one 63 rfl) 2 rfl rfl ?_
    obtain ⟨z7, hz7, h⟩ := bi_el h
    have K7 : Rj l E (d + nf + 5 + 1) m_12_one 128 [some (.ref a0), some (.int z1.1), some (.int z5), none, none] [.int z7, .ref a0] z1.2 Q := by
      clear hz7
      obtain ⟨μ9, e8, h⟩ := bi_el h
      refine c_12_164 (As := [.int z7]) (st1 := []) rfl (fun Q1 hq => ok_12_need e8 k0 hq) k0 rfl rfl (Nat.le_of_ble_eq_true rfl) (dd dt_12_one 68 rfl) rfl ?_
      refine R_aload_n (dd dt_12_one 69 rfl) 0 rfl rfl ?_
      refine R_bipush (v := 60) (dd dt_12_one 70 rfl) bp_60 ?_
      obtain ⟨x11, e10, h⟩ := bi_el h
      refine c_12_191 (As := [.int 60]) (st1 := [.int x11]) rfl (fun Q1 hq => ok_12_isSign e10 k0 hq) k0 rfl rfl (Nat.le_of_ble_eq_true rfl) (dd dt_12_one 71 rfl) rfl ?_
      obtain ⟨z14, hz14, h⟩ := bi_el h
      have K14 : Rj l E (d + nf + 5 + 1) m_12_one 158 [some (.ref a0), some (.int z1.1), some (.int z5), none, none] [.int z14] μ9 Q := by
        clear hz14
        refine R_istore_n (lv' := [some (.ref a0), some (.int z1.1), some (.int z5), some (.int z14), none]) (dd dt_12_one 82 rfl) 3 rfl (by decide) rfl rfl ?_
        refine R_aload_n (dd dt_12_one 83 rfl) 0 rfl rfl ?_
        refine R_aload_n (dd dt_12_one 84 rfl) 0 rfl rfl ?_
        refine R_bipush (v := 60) (dd dt_12_one 85 rfl) bp_60 ?_
        obtain ⟨x16, e15, h⟩ := bi_el h
        refine c_12_191 (As := [.int 60]) (st1 := [.int x16, .ref a0]) rfl (fun Q1 hq => ok_12_isSign e15 k0 hq) k0 rfl rfl (Nat.le_of_ble_eq_true rfl) (dd dt_12_one 86 rfl) rfl ?_
        obtain ⟨z21, hz21, h⟩ := bi_el h
        have K21 : Rj l E (d + nf + 5 + 1) m_12_one 192 [some (.ref a0), some (.int z1.1), some (.int z5), some (.int z14), none] [.int z21, .ref a0] μ9 Q := by
          clear hz21
          obtain ⟨μ23, e22, h⟩ := bi_el h
          refine c_12_164 (As := [.int z21]) (st1 := []) rfl (fun Q1 hq => ok_12_need e22 k0 hq) k0 rfl rfl (Nat.le_of_ble_eq_true rfl) (dd dt_12_one 99 rfl) rfl ?_
          refine R_aload_n (dd dt_12_one 100 rfl) 0 rfl rfl ?_
          refine R_sipush (v := 999) (dd dt_12_one 101 rfl) sp_999 ?_
          obtain ⟨z25, e24, h⟩ := bi_el h
          refine c_12_204 (As := [.int 999]) (st1 := [.int z25.1]) rfl (fun Q1 hq => ok_12_number e24 k0 hq) k0 rfl rfl (Nat.le_of_ble_eq_true rfl) (dd dt_12_one 102 rfl) rfl ?_
          refine R_istore (lv' := [some (.ref a0), some (.int z1.1), some (.int z5), some (.int z14), some (.int z25.1)]) (dd dt_12_one 103 rfl) (by decide) rfl rfl ?_
          refine R_aload_n (dd dt_12_one 104 rfl) 0 rfl rfl ?_
          refine R_sipush (v := 3000) (dd dt_12_one 105 rfl) sp_3000 ?_
          refine R_iload_n (dd dt_12_one 106 rfl) 2 rfl rfl ?_
          refine R_imul (dd dt_12_one 107 rfl) ?_
          refine R_sipush (v := 1000) (dd dt_12_one 108 rfl) sp_1000 ?_
          refine R_iload_n (dd dt_12_one 109 rfl) 3 rfl rfl ?_
          refine R_imul (dd dt_12_one 110 rfl) ?_
          refine R_iadd (dd dt_12_one 111 rfl) ?_
          refine R_iload (dd dt_12_one 112 rfl) rfl ?_
          refine R_iadd (dd dt_12_one 113 rfl) ?_
          obtain ⟨μ27, e26, h⟩ := bi_el h
          refine c_12_180 (As := [.int (((3000 * z5) + (1000 * z14)) + z25.1)]) (st1 := []) rfl (fun Q1 hq => ok_12_codes e26 k0 hq) k0 rfl rfl (Nat.le_of_ble_eq_true rfl) (dd dt_12_one 114 rfl) rfl ?_
          obtain rfl := Option.some.inj h
          exact R_mask [true, true, false, false, false] rfl K41
        clear h
        have h := hz21
        clear hz21
        refine R_ifne (dd dt_12_one 87 rfl) (tgt := 187) rfl (fun hc => ?_) (fun hc => ?_)
        · rw [if_neg hc] at h
          refine R_iconst (v := 1) (dd dt_12_one 96 rfl) ic_1 ?_
          refine R_goto (dd dt_12_one 97 rfl) (tgt := 192) rfl ?_
          obtain rfl := Option.some.inj h
          exact R_mask [true, true, true, true, false] rfl K21
        · rw [if_pos hc] at h
          refine R_aload_n (dd dt_12_one 88 rfl) 0 rfl rfl ?_
          refine R_bipush (v := 61) (dd dt_12_one 89 rfl) bp_61 ?_
          obtain ⟨x18, e17, h⟩ := bi_el h
          refine c_12_191 (As := [.int 61]) (st1 := [.int x18, .ref a0]) rfl (fun Q1 hq => ok_12_isSign e17 k0 hq) k0 rfl rfl (Nat.le_of_ble_eq_true rfl) (dd dt_12_one 90 rfl) rfl ?_
          refine R_ifne (dd dt_12_one 91 rfl) (tgt := 187) rfl (fun hc => ?_) (fun hc => ?_)
          · rw [if_neg hc] at h
            refine R_iconst (v := 1) (dd dt_12_one 96 rfl) ic_1 ?_
            refine R_goto (dd dt_12_one 97 rfl) (tgt := 192) rfl ?_
            obtain rfl := Option.some.inj h
            exact R_mask [true, true, true, true, false] rfl K21
          · rw [if_pos hc] at h
            refine R_aload_n (dd dt_12_one 92 rfl) 0 rfl rfl ?_
            refine R_bipush (v := 62) (dd dt_12_one 93 rfl) bp_62 ?_
            obtain ⟨x20, e19, h⟩ := bi_el h
            refine c_12_191 (As := [.int 62]) (st1 := [.int x20, .ref a0]) rfl (fun Q1 hq => ok_12_isSign e19 k0 hq) k0 rfl rfl (Nat.le_of_ble_eq_true rfl) (dd dt_12_one 94 rfl) rfl ?_
            refine R_ifeq (dd dt_12_one 95 rfl) (tgt := 191) rfl (fun hc => ?_) (fun hc => ?_)
            · rw [if_pos hc] at h
              refine R_iconst (v := 0) (dd dt_12_one 98 rfl) ic_0 ?_
              obtain rfl := Option.some.inj h
              exact R_mask [true, true, true, true, false] rfl K21
            · rw [if_neg hc] at h
              refine R_iconst (v := 1) (dd dt_12_one 96 rfl) ic_1 ?_
              refine R_goto (dd dt_12_one 97 rfl) (tgt := 192) rfl ?_
              obtain rfl := Option.some.inj h
              exact R_mask [true, true, true, true, false] rfl K21
      clear h
      have h := hz14
      clear hz14
      refine R_ifeq (dd dt_12_one 72 rfl) (tgt := 144) rfl (fun hc => ?_) (fun hc => ?_)
      · rw [if_pos hc] at h
        refine R_aload_n (dd dt_12_one 75 rfl) 0 rfl rfl ?_
        refine R_bipush (v := 61) (dd dt_12_one 76 rfl) bp_61 ?_
        obtain ⟨x13, e12, h⟩ := bi_el h
        refine c_12_191 (As := [.int 61]) (st1 := [.int x13]) rfl (fun Q1 hq => ok_12_isSign e12 k0 hq) k0 rfl rfl (Nat.le_of_ble_eq_true rfl) (dd dt_12_one 77 rfl) rfl ?_
        refine R_ifeq (dd dt_12_one 78 rfl) (tgt := 157) rfl (fun hc => ?_) (fun hc => ?_)
        · rw [if_pos hc] at h
          refine R_iconst (v := 2) (dd dt_12_one 81 rfl) ic_2 ?_
          obtain rfl := Option.some.inj h
          exact R_mask [true, true, true, false, false] rfl K14
        · rw [if_neg hc] at h
          refine R_iconst (v := 1) (dd dt_12_one 79 rfl) ic_1 ?_
          refine R_goto (dd dt_12_one 80 rfl) (tgt := 158) rfl ?_
          obtain rfl := Option.some.inj h
          exact R_mask [true, true, true, false, false] rfl K14
      · rw [if_neg hc] at h
        refine R_iconst (v := 0) (dd dt_12_one 73 rfl) ic_0 ?_
        refine R_goto (dd dt_12_one 74 rfl) (tgt := 158) rfl ?_
        obtain rfl := Option.some.inj h
        exact R_mask [true, true, true, false, false] rfl K14
    clear h
    have h := hz7
    clear hz7
    refine R_iflt (dd dt_12_one 64 rfl) (tgt := 127) rfl (fun hc => ?_) (fun hc => ?_)
    · rw [if_pos hc] at h
      refine R_iconst (v := 0) (dd dt_12_one 67 rfl) ic_0 ?_
      obtain rfl := Option.some.inj h
      exact R_mask [true, true, true, false, false] rfl K7
    · rw [if_neg hc] at h
      refine R_iconst (v := 1) (dd dt_12_one 65 rfl) ic_1 ?_
      refine R_goto (dd dt_12_one 66 rfl) (tgt := 128) rfl ?_
      obtain rfl := Option.some.inj h
      exact R_mask [true, true, true, false, false] rfl K7
  · rw [if_neg hc] at h
    refine R_aload_n (dd dt_12_one 14 rfl) 0 rfl rfl ?_
    refine R_dup (dd dt_12_one 15 rfl) rfl ?_
    refine g_12_194 rfl k0 (dd dt_12_one 16 rfl) ?_
    refine R_iconst (v := 1) (dd dt_12_one 17 rfl) ic_1 ?_
    refine R_iadd (dd dt_12_one 18 rfl) ?_
    obtain ⟨μ28, e29, h⟩ := bi_el h
    refine p_12_194 rfl k0 (dd dt_12_one 19 rfl) e29 ?_
    refine R_aload_n (dd dt_12_one 20 rfl) 0 rfl rfl ?_
    refine R_aload_n (dd dt_12_one 21 rfl) 0 rfl rfl ?_
    refine g_12_194 rfl k0 (dd dt_12_one 22 rfl) ?_
    refine R_iconst (v := 4) (dd dt_12_one 23 rfl) ic_4 ?_
    obtain ⟨z30, hz30, h⟩ := bi_el h
    have K30 : Rj l E (d + nf + 5 + 1) m_12_one 54 [some (.ref a0), some (.int z1.1), none, none, none] [.int z30, .ref a0] μ28 Q := by
      clear hz30
      obtain ⟨μ32, e31, h⟩ := bi_el h
      refine c_12_164 (As := [.int z30]) (st1 := []) rfl (fun Q1 hq => ok_12_need e31 k0 hq) k0 rfl rfl (Nat.le_of_ble_eq_true rfl) (dd dt_12_one 28 rfl) rfl ?_
      refine R_aload_n (dd dt_12_one 29 rfl) 0 rfl rfl ?_
      obtain ⟨μ34, e33, h⟩ := bi_el h
      refine c_12_197 (As := []) (st1 := []) rfl (fun Q1 hq => hrc0 e33 k0 hq) k0 rfl rfl (Nat.le_of_ble_eq_true rfl) (dd dt_12_one 30 rfl) rfl ?_
      refine R_aload_n (dd dt_12_one 31 rfl) 0 rfl rfl ?_
      refine R_aload_n (dd dt_12_one 32 rfl) 0 rfl rfl ?_
      refine R_bipush (v := 41) (dd dt_12_one 33 rfl) bp_41 ?_
      obtain ⟨x36, e35, h⟩ := bi_el h
      refine c_12_191 (As := [.int 41]) (st1 := [.int x36, .ref a0]) rfl (fun Q1 hq => ok_12_isSign e35 k0 hq) k0 rfl rfl (Nat.le_of_ble_eq_true rfl) (dd dt_12_one 34 rfl) rfl ?_
      obtain ⟨μ38, e37, h⟩ := bi_el h
      refine c_12_164 (As := [.int x36]) (st1 := []) rfl (fun Q1 hq => ok_12_need e37 k0 hq) k0 rfl rfl (Nat.le_of_ble_eq_true rfl) (dd dt_12_one 35 rfl) rfl ?_
      refine R_aload_n (dd dt_12_one 36 rfl) 0 rfl rfl ?_
      refine R_dup (dd dt_12_one 37 rfl) rfl ?_
      refine g_12_194 rfl k0 (dd dt_12_one 38 rfl) ?_
      refine R_iconst (v := 1) (dd dt_12_one 39 rfl) ic_1 ?_
      refine R_isub (dd dt_12_one 40 rfl) ?_
      obtain ⟨μ39, e40, h⟩ := bi_el h
      refine p_12_194 rfl k0 (dd dt_12_one 41 rfl) e40 ?_
      refine R_goto (dd dt_12_one 42 rfl) (tgt := 222) rfl ?_
      obtain rfl := Option.some.inj h
      exact R_mask [true, true, false, false, false] rfl K41
    clear h
    have h := hz30
    clear hz30
    refine R_cmpgt (dd dt_12_one 24 rfl) (tgt := 53) rfl (fun hc => ?_) (fun hc => ?_)
    · rw [if_pos hc] at h
      refine R_iconst (v := 0) (dd dt_12_one 27 rfl) ic_0 ?_
      obtain rfl := Option.some.inj h
      exact R_mask [true, true, false, false, false] rfl K30
    · rw [if_neg hc] at h
      refine R_iconst (v := 1) (dd dt_12_one 25 rfl) ic_1 ?_
      refine R_goto (dd dt_12_one 26 rfl) (tgt := 54) rfl ?_
      obtain rfl := Option.some.inj h
      exact R_mask [true, true, false, false, false] rfl K30
def f_12_either_G : Nat → Nat → Nat → mm → Option (mm)
  | 0, _, _, _ => none
  | n + 1, t, b0, μ => if t = 0 then f_12_either_b (f_12_either_G n) b0 μ else if t = 1 then f_12_all_b (f_12_either_G n) b0 μ else if t = 2 then f_12_one_b (f_12_either_G n) b0 μ else none
set_option maxRecDepth 100000 in
theorem ok_12_either_G {l : Launch} {E : ce} {d : Nat} : ∀ n : Nat, (∀ {b0 : Nat} {μ : mm} {r : mm} {Q : Option Value → mm → Prop}, f_12_either_G n 0 b0 μ = some r → kd b0 = 12 → Q none r → Ct l E (d + n + 5) yX12_either m_12_either [.ref b0] μ Q) ∧ (∀ {b0 : Nat} {μ : mm} {r : mm} {Q : Option Value → mm → Prop}, f_12_either_G n 1 b0 μ = some r → kd b0 = 12 → Q none r → Ct l E (d + n + 5) yX12_all m_12_all [.ref b0] μ Q) ∧ (∀ {b0 : Nat} {μ : mm} {r : mm} {Q : Option Value → mm → Prop}, f_12_either_G n 2 b0 μ = some r → kd b0 = 12 → Q none r → Ct l E (d + n + 5) yX12_one m_12_one [.ref b0] μ Q) ∧ True
  | 0 => by
    refine ⟨?_, ?_, ?_, trivial⟩
    · intro b0 μ r Q h kb hQ
      rw [f_12_either_G] at h
      cases h
    · intro b0 μ r Q h kb hQ
      rw [f_12_either_G] at h
      cases h
    · intro b0 μ r Q h kb hQ
      rw [f_12_either_G] at h
      cases h
  | n + 1 => by
    obtain ⟨i0, i1, i2, -⟩ := ok_12_either_G (l := l) (E := E) (d := d) n
    refine ⟨?_, ?_, ?_, trivial⟩
    · intro b0 μ r Q h kb hQ
      simp only [f_12_either_G, if_pos] at h
      have hh := ok_12_either_b (l := l) (E := E) (d := d) (nf := n) (rc := f_12_either_G n) (fun h k q => i0 h k q) (fun h k q => i1 h k q) (fun h k q => i2 h k q) h kb hQ
      rw [show d + (n + 1) + 5 = d + n + 5 + 1 by omega]
      exact hh
    · intro b0 μ r Q h kb hQ
      simp only [f_12_either_G, if_pos] at h
      have hh := ok_12_all_b (l := l) (E := E) (d := d) (nf := n) (rc := f_12_either_G n) (fun h k q => i0 h k q) (fun h k q => i1 h k q) (fun h k q => i2 h k q) h kb hQ
      rw [show d + (n + 1) + 5 = d + n + 5 + 1 by omega]
      exact hh
    · intro b0 μ r Q h kb hQ
      simp only [f_12_either_G, if_pos] at h
      have hh := ok_12_one_b (l := l) (E := E) (d := d) (nf := n) (rc := f_12_either_G n) (fun h k q => i0 h k q) (fun h k q => i1 h k q) (fun h k q => i2 h k q) h kb hQ
      rw [show d + (n + 1) + 5 = d + n + 5 + 1 by omega]
      exact hh
theorem ok_12_either_G_0 {l : Launch} {E : ce} {d : Nat} (n : Nat) {b0 : Nat} {μ : mm} {r : mm} {Q : Option Value → mm → Prop} (h : f_12_either_G n 0 b0 μ = some r) (kb : kd b0 = 12) (hQ : Q none r) : Ct l E (d + n + 5) yX12_either m_12_either [.ref b0] μ Q := (ok_12_either_G (l := l) (E := E) (d := d) n).1 h kb hQ
theorem ok_12_either_G_1 {l : Launch} {E : ce} {d : Nat} (n : Nat) {b0 : Nat} {μ : mm} {r : mm} {Q : Option Value → mm → Prop} (h : f_12_either_G n 1 b0 μ = some r) (kb : kd b0 = 12) (hQ : Q none r) : Ct l E (d + n + 5) yX12_all m_12_all [.ref b0] μ Q := (ok_12_either_G (l := l) (E := E) (d := d) n).2.1 h kb hQ
theorem ok_12_either_G_2 {l : Launch} {E : ce} {d : Nat} (n : Nat) {b0 : Nat} {μ : mm} {r : mm} {Q : Option Value → mm → Prop} (h : f_12_either_G n 2 b0 μ = some r) (kb : kd b0 = 12) (hQ : Q none r) : Ct l E (d + n + 5) yX12_one m_12_one [.ref b0] μ Q := (ok_12_either_G (l := l) (E := E) (d := d) n).2.2.1 h kb hQ
/-! LongStrikeModel.lineAt(I)V -/
def tab_12_lineAt : List (Nat × Instr × Nat) := [(0, .iconst (-1), 1), (1, .istore_n 2, 1), (2, .iconst 0, 1), (3, .istore_n 3, 1), (4, .iload_n 3, 1), (5, .bipush 7, 2), (7, .if_icmp .ge 27, 3), (10, .aload_n 0, 1), (11, .getstatic 207, 3), (14, .iload_n 3, 1), (15, .aaload, 1), (16, .invokevirtual 176, 3), (19, .ifCond .eq 7, 3), (22, .iload_n 3, 1), (23, .goto 4, 3), (26, .iload_n 2, 1), (27, .istore_n 2, 1), (28, .iinc 3 1, 3), (31, .goto (-27), 3), (34, .aload_n 0, 1), (35, .iload_n 2, 1), (36, .ifCond .lt 7, 3), (39, .iconst 1, 1), (40, .goto 4, 3), (43, .iconst 0, 1), (44, .invokevirtual 164, 3), (47, .aload_n 0, 1), (48, .getfield 32, 3), (51, .iload_n 1, 1), (52, .iload_n 2, 1), (53, .iastore, 1), (54, .aload_n 0, 1), (55, .getfield 32, 3), (58, .iload_n 1, 1), (59, .iconst 1, 1), (60, .iadd, 1), (61, .iload_n 2, 1), (62, .iconst 5, 1), (63, .if_icmp .ne 8, 3), (66, .bipush (-9), 2), (68, .goto 20, 3), (71, .aload_n 0, 1), (72, .iload_n 2, 1), (73, .iconst 1, 1), (74, .if_icmp .ne 8, 3), (77, .bipush 9, 2), (79, .goto 6, 3), (82, .sipush 999, 3), (85, .invokevirtual 204, 3), (88, .iastore, 1), (89, .aload_n 0, 1), (90, .getfield 32, 3), (93, .iload_n 1, 1), (94, .iconst 2, 1), (95, .iadd, 1), (96, .aload_n 0, 1), (97, .getfield 168, 3), (100, .iastore, 1), (101, .aload_n 0, 1), (102, .ldc 210, 2), (104, .invokevirtual 176, 3), (107, .ifCond .eq 21, 3), (110, .iload_n 2, 1), (111, .iconst 2, 1), (112, .if_icmp .lt 8, 3), (115, .iload_n 2, 1), (116, .iconst 4, 1), (117, .if_icmp .le 11, 3), (120, .aload_n 0, 1), (121, .invokevirtual 161, 3), (124, .aload_n 0, 1), (125, .invokevirtual 197, 3), (128, .aload_n 0, 1), (129, .getfield 32, 3), (132, .iload_n 1, 1), (133, .iconst 3, 1), (134, .iadd, 1), (135, .aload_n 0, 1), (136, .getfield 168, 3), (139, .iastore, 1), (140, .aload_n 0, 1), (141, .aload_n 0, 1), (142, .bipush 59, 2), (144, .invokevirtual 191, 3), (147, .invokevirtual 164, 3), (150, .return_, 1)]
set_option maxRecDepth 100000 in
theorem dt_12_lineAt : ∀ q ∈ tab_12_lineAt, decode m_12_lineAt.2.1 q.1 = .ok q.2 := by decide +kernel
def f_12_lineAt_l4 (a0 : Nat) (a1 : Int32) (μ : mm) : Nat → Int32 → Int32 → Option (Int32)
  | 0, _, _ => none
  | n + 1, v2, v3 => if 7 ≤ v3 then
      some v2
    else
      (lda 2000 v3).bind fun r1 =>
      (f_12_isName a0 r1 μ).bind fun x4 =>
      if x4 = 0 then
        f_12_lineAt_l4 a0 a1 μ n v2 (v3 + 1)
      else
        f_12_lineAt_l4 a0 a1 μ n v3 (v3 + 1)
set_option maxRecDepth 100000 in
theorem ok_12_lineAt_l4 {l : Launch} {E : ce} {d : Nat} {Q : Option Value → mm → Prop} (a0 : Nat) (a1 : Int32) (μ : mm) (k0 : kd a0 = 12) : ∀ (n : Nat) (v2 : Int32) (v3 : Int32) (z : Int32), f_12_lineAt_l4 a0 a1 μ n v2 v3 = some z → Rj l E (d + 26) m_12_lineAt 34 [some (.ref a0), some (.int a1), some (.int z), none] [] μ Q → Rj l E (d + 26) m_12_lineAt 4 [some (.ref a0), some (.int a1), some (.int v2), some (.int v3)] [] μ Q
  | 0, _, _, z, h, _ => by
    rw [f_12_lineAt_l4] at h
    cases h
  | n + 1, v2, v3, z, h, KX => by
    rw [f_12_lineAt_l4] at h
    refine R_iload_n (dd dt_12_lineAt 4 rfl) 3 rfl rfl ?_
    refine R_bipush (v := 7) (dd dt_12_lineAt 5 rfl) bp_7 ?_
    refine R_cmpge (dd dt_12_lineAt 6 rfl) (tgt := 34) rfl (fun hc => ?_) (fun hc => ?_)
    · rw [if_pos hc] at h
      obtain rfl := Option.some.inj h
      exact R_mask [true, true, true, false] rfl KX
    · rw [if_neg hc] at h
      refine R_aload_n (dd dt_12_lineAt 7 rfl) 0 rfl rfl ?_
      refine R_gs_0 rfl (dd dt_12_lineAt 8 rfl) ?_
      refine R_iload_n (dd dt_12_lineAt 9 rfl) 3 rfl rfl ?_
      obtain ⟨r1, e2, h⟩ := bi_el h
      refine R_sald e2 kd_t0 (dd dt_12_lineAt 10 rfl) ?_
      obtain ⟨x4, e3, h⟩ := bi_el h
      refine c_12_176 (As := [.ref r1]) (st1 := [.int x4]) rfl (fun Q1 hq => ok_12_isName e3 k0 (tl_51 e2 kd_t0) hq) k0 rfl rfl (Nat.le_of_ble_eq_true rfl) (dd dt_12_lineAt 11 rfl) rfl ?_
      refine R_ifeq (dd dt_12_lineAt 12 rfl) (tgt := 26) rfl (fun hc => ?_) (fun hc => ?_)
      · rw [if_pos hc] at h
        refine R_iload_n (dd dt_12_lineAt 15 rfl) 2 rfl rfl ?_
        refine R_istore_n (lv' := [some (.ref a0), some (.int a1), some (.int v2), some (.int v3)]) (dd dt_12_lineAt 16 rfl) 2 rfl (by decide) rfl rfl ?_
        refine R_iinc (v := 1) (lv' := [some (.ref a0), some (.int a1), some (.int v2), some (.int (v3 + 1))]) (dd dt_12_lineAt 17 rfl) (by decide) rfl rfl ic_1 rfl ?_
        refine R_goto (dd dt_12_lineAt 18 rfl) (tgt := 4) rfl ?_
        exact R_mask [true, true, true, true] rfl (ok_12_lineAt_l4 a0 a1 μ k0 n v2 (v3 + 1) _ h KX)
      · rw [if_neg hc] at h
        refine R_iload_n (dd dt_12_lineAt 13 rfl) 3 rfl rfl ?_
        refine R_goto (dd dt_12_lineAt 14 rfl) (tgt := 27) rfl ?_
        refine R_istore_n (lv' := [some (.ref a0), some (.int a1), some (.int v3), some (.int v3)]) (dd dt_12_lineAt 16 rfl) 2 rfl (by decide) rfl rfl ?_
        refine R_iinc (v := 1) (lv' := [some (.ref a0), some (.int a1), some (.int v3), some (.int (v3 + 1))]) (dd dt_12_lineAt 17 rfl) (by decide) rfl rfl ic_1 rfl ?_
        refine R_goto (dd dt_12_lineAt 18 rfl) (tgt := 4) rfl ?_
        exact R_mask [true, true, true, true] rfl (ok_12_lineAt_l4 a0 a1 μ k0 n v3 (v3 + 1) _ h KX)
def f_12_lineAt (a0 : Nat) (a1 : Int32) (μ : mm) : Option (mm) :=
  (f_12_lineAt_l4 a0 a1 μ FU (-1) 0).bind fun z1 =>
  (if z1 < 0 then
      some 0
    else
      some 1).bind fun (z3 : Int32) =>
  (f_12_need a0 z3 μ).bind fun μ5 =>
  (sto μ5 (rf a0 17) a1 z1).bind fun μ6 =>
  (if z1 = 5 then
      some ((-9), μ6)
    else
      (if z1 = 1 then
          some 9
        else
          some 999).bind fun (z8 : Int32) =>
      (f_12_number a0 z8 μ6).bind fun z10 =>
      some (z10.1, z10.2)).bind fun (z11 : Int32 × mm) =>
  (sto z11.2 (rf a0 17) (a1 + 1) z11.1).bind fun μ12 =>
  (sto μ12 (rf a0 17) (a1 + 2) (μ12 a0 15)).bind fun μ14 =>
  (f_12_isName a0 1014 μ14).bind fun x17 =>
  (if x17 = 0 then
      some μ14
    else
      if z1 < 2 then
        (f_12_next a0 μ14).bind fun μ19 =>
        (f_12_either_G 20 0 a0 μ19).bind fun μ21 =>
        some μ21
      else
        if z1 ≤ 4 then
          some μ14
        else
          (f_12_next a0 μ14).bind fun μ23 =>
          (f_12_either_G 20 0 a0 μ23).bind fun μ25 =>
          some μ25).bind fun (z26 : mm) =>
  (sto z26 (rf a0 17) (a1 + 3) (z26 a0 15)).bind fun μ27 =>
  (f_12_isSign a0 59 μ27).bind fun x30 =>
  (f_12_need a0 x30 μ27).bind fun μ32 =>
  some μ32
set_option maxRecDepth 100000 in
set_option maxHeartbeats 4000000 in
theorem ok_12_lineAt {l : Launch} {E : ce} {d : Nat}  {a0 : Nat} {a1 : Int32} {μ : mm} {r : mm} {Q : Option Value → mm → Prop} (h : f_12_lineAt a0 a1 μ = some r) (k0 : kd a0 = 12) (hQ : Q none r) : Ct l E (d + 26) yX12_lineAt m_12_lineAt [.ref a0, .int a1] μ Q := by
  refine Ct_of (lv := [some (.ref a0), some (.int a1), none, none]) (by decide) rfl (Nat.le_of_ble_eq_true rfl) rfl ?_
  unfold f_12_lineAt at h
  refine R_iconst (v := (-1)) (dd dt_12_lineAt 0 rfl) ic_m1 ?_
  refine R_istore_n (lv' := [some (.ref a0), some (.int a1), some (.int (-1)), none]) (dd dt_12_lineAt 1 rfl) 2 rfl (by decide) rfl rfl ?_
  refine R_iconst (v := 0) (dd dt_12_lineAt 2 rfl) ic_0 ?_
  refine R_istore_n (lv' := [some (.ref a0), some (.int a1), some (.int (-1)), some (.int 0)]) (dd dt_12_lineAt 3 rfl) 3 rfl (by decide) rfl rfl ?_
  obtain ⟨z1, e2, h⟩ := bi_el h
  refine R_mask [true, true, true, true] rfl (ok_12_lineAt_l4 a0 a1 μ k0 FU (-1) 0 _ e2 ?_)
  refine R_aload_n (dd dt_12_lineAt 19 rfl) 0 rfl rfl ?_
  refine R_iload_n (dd dt_12_lineAt 20 rfl) 2 rfl rfl ?_
  obtain ⟨z3, hz3, h⟩ := bi_el h
  have K3 : Rj l E (d + 26) m_12_lineAt 44 [some (.ref a0), some (.int a1), some (.int z1), none] [.int z3, .ref a0] μ Q := by
    clear hz3
    obtain ⟨μ5, e4, h⟩ := bi_el h
    refine c_12_164 (As := [.int z3]) (st1 := []) rfl (fun Q1 hq => ok_12_need e4 k0 hq) k0 rfl rfl (Nat.le_of_ble_eq_true rfl) (dd dt_12_lineAt 25 rfl) rfl ?_
    refine R_aload_n (dd dt_12_lineAt 26 rfl) 0 rfl rfl ?_
    refine g_12_32 rfl k0 (dd dt_12_lineAt 27 rfl) ?_
    refine R_iload_n (dd dt_12_lineAt 28 rfl) 1 rfl rfl ?_
    refine R_iload_n (dd dt_12_lineAt 29 rfl) 2 rfl rfl ?_
    obtain ⟨μ6, e7, h⟩ := bi_el h
    refine R_isto e7 (ty_12_17 k0) (dd dt_12_lineAt 30 rfl) ?_
    refine R_aload_n (dd dt_12_lineAt 31 rfl) 0 rfl rfl ?_
    refine g_12_32 rfl k0 (dd dt_12_lineAt 32 rfl) ?_
    refine R_iload_n (dd dt_12_lineAt 33 rfl) 1 rfl rfl ?_
    refine R_iconst (v := 1) (dd dt_12_lineAt 34 rfl) ic_1 ?_
    refine R_iadd (dd dt_12_lineAt 35 rfl) ?_
    refine R_iload_n (dd dt_12_lineAt 36 rfl) 2 rfl rfl ?_
    refine R_iconst (v := 5) (dd dt_12_lineAt 37 rfl) ic_5 ?_
    obtain ⟨z11, hz11, h⟩ := bi_el h
    have K11 : Rj l E (d + 26) m_12_lineAt 88 [some (.ref a0), some (.int a1), some (.int z1), none] [.int z11.1, .int (a1 + 1), .ref (rf a0 17)] z11.2 Q := by
      clear hz11
      obtain ⟨μ12, e13, h⟩ := bi_el h
      refine R_isto e13 (ty_12_17 k0) (dd dt_12_lineAt 49 rfl) ?_
      refine R_aload_n (dd dt_12_lineAt 50 rfl) 0 rfl rfl ?_
      refine g_12_32 rfl k0 (dd dt_12_lineAt 51 rfl) ?_
      refine R_iload_n (dd dt_12_lineAt 52 rfl) 1 rfl rfl ?_
      refine R_iconst (v := 2) (dd dt_12_lineAt 53 rfl) ic_2 ?_
      refine R_iadd (dd dt_12_lineAt 54 rfl) ?_
      refine R_aload_n (dd dt_12_lineAt 55 rfl) 0 rfl rfl ?_
      refine g_12_168 rfl k0 (dd dt_12_lineAt 56 rfl) ?_
      obtain ⟨μ14, e15, h⟩ := bi_el h
      refine R_isto e15 (ty_12_17 k0) (dd dt_12_lineAt 57 rfl) ?_
      refine R_aload_n (dd dt_12_lineAt 58 rfl) 0 rfl rfl ?_
      refine R_str_14 rfl (dd dt_12_lineAt 59 rfl) ?_
      obtain ⟨x17, e16, h⟩ := bi_el h
      refine c_12_176 (As := [.ref 1014]) (st1 := [.int x17]) rfl (fun Q1 hq => ok_12_isName e16 k0 kd_s14 hq) k0 rfl rfl (Nat.le_of_ble_eq_true rfl) (dd dt_12_lineAt 60 rfl) rfl ?_
      obtain ⟨z26, hz26, h⟩ := bi_el h
      have K26 : Rj l E (d + 26) m_12_lineAt 128 [some (.ref a0), some (.int a1), none, none] [] z26 Q := by
        clear hz26
        refine R_aload_n (dd dt_12_lineAt 72 rfl) 0 rfl rfl ?_
        refine g_12_32 rfl k0 (dd dt_12_lineAt 73 rfl) ?_
        refine R_iload_n (dd dt_12_lineAt 74 rfl) 1 rfl rfl ?_
        refine R_iconst (v := 3) (dd dt_12_lineAt 75 rfl) ic_3 ?_
        refine R_iadd (dd dt_12_lineAt 76 rfl) ?_
        refine R_aload_n (dd dt_12_lineAt 77 rfl) 0 rfl rfl ?_
        refine g_12_168 rfl k0 (dd dt_12_lineAt 78 rfl) ?_
        obtain ⟨μ27, e28, h⟩ := bi_el h
        refine R_isto e28 (ty_12_17 k0) (dd dt_12_lineAt 79 rfl) ?_
        refine R_aload_n (dd dt_12_lineAt 80 rfl) 0 rfl rfl ?_
        refine R_aload_n (dd dt_12_lineAt 81 rfl) 0 rfl rfl ?_
        refine R_bipush (v := 59) (dd dt_12_lineAt 82 rfl) bp_59 ?_
        obtain ⟨x30, e29, h⟩ := bi_el h
        refine c_12_191 (As := [.int 59]) (st1 := [.int x30, .ref a0]) rfl (fun Q1 hq => ok_12_isSign e29 k0 hq) k0 rfl rfl (Nat.le_of_ble_eq_true rfl) (dd dt_12_lineAt 83 rfl) rfl ?_
        obtain ⟨μ32, e31, h⟩ := bi_el h
        refine c_12_164 (As := [.int x30]) (st1 := []) rfl (fun Q1 hq => ok_12_need e31 k0 hq) k0 rfl rfl (Nat.le_of_ble_eq_true rfl) (dd dt_12_lineAt 84 rfl) rfl ?_
        obtain rfl := Option.some.inj h
        exact R_vret rfl (dd dt_12_lineAt 85 rfl) hQ
      clear h
      have h := hz26
      clear hz26
      refine R_ifeq (dd dt_12_lineAt 61 rfl) (tgt := 128) rfl (fun hc => ?_) (fun hc => ?_)
      · rw [if_pos hc] at h
        obtain rfl := Option.some.inj h
        exact R_mask [true, true, false, false] rfl K26
      · rw [if_neg hc] at h
        refine R_iload_n (dd dt_12_lineAt 62 rfl) 2 rfl rfl ?_
        refine R_iconst (v := 2) (dd dt_12_lineAt 63 rfl) ic_2 ?_
        refine R_cmplt (dd dt_12_lineAt 64 rfl) (tgt := 120) rfl (fun hc => ?_) (fun hc => ?_)
        · rw [if_pos hc] at h
          refine R_aload_n (dd dt_12_lineAt 68 rfl) 0 rfl rfl ?_
          obtain ⟨μ19, e18, h⟩ := bi_el h
          refine c_12_161 (As := []) (st1 := []) rfl (fun Q1 hq => ok_12_next e18 k0 hq) k0 rfl rfl (Nat.le_of_ble_eq_true rfl) (dd dt_12_lineAt 69 rfl) rfl ?_
          refine R_aload_n (dd dt_12_lineAt 70 rfl) 0 rfl rfl ?_
          obtain ⟨μ21, e20, h⟩ := bi_el h
          refine c_12_197 (As := []) (st1 := []) rfl (fun Q1 hq => ok_12_either_G_0 _ e20 k0 hq) k0 rfl rfl (Nat.le_of_ble_eq_true rfl) (dd dt_12_lineAt 71 rfl) rfl ?_
          obtain rfl := Option.some.inj h
          exact R_mask [true, true, false, false] rfl K26
        · rw [if_neg hc] at h
          refine R_iload_n (dd dt_12_lineAt 65 rfl) 2 rfl rfl ?_
          refine R_iconst (v := 4) (dd dt_12_lineAt 66 rfl) ic_4 ?_
          refine R_cmple (dd dt_12_lineAt 67 rfl) (tgt := 128) rfl (fun hc => ?_) (fun hc => ?_)
          · rw [if_pos hc] at h
            obtain rfl := Option.some.inj h
            exact R_mask [true, true, false, false] rfl K26
          · rw [if_neg hc] at h
            refine R_aload_n (dd dt_12_lineAt 68 rfl) 0 rfl rfl ?_
            obtain ⟨μ23, e22, h⟩ := bi_el h
            refine c_12_161 (As := []) (st1 := []) rfl (fun Q1 hq => ok_12_next e22 k0 hq) k0 rfl rfl (Nat.le_of_ble_eq_true rfl) (dd dt_12_lineAt 69 rfl) rfl ?_
            refine R_aload_n (dd dt_12_lineAt 70 rfl) 0 rfl rfl ?_
            obtain ⟨μ25, e24, h⟩ := bi_el h
            refine c_12_197 (As := []) (st1 := []) rfl (fun Q1 hq => ok_12_either_G_0 _ e24 k0 hq) k0 rfl rfl (Nat.le_of_ble_eq_true rfl) (dd dt_12_lineAt 71 rfl) rfl ?_
            obtain rfl := Option.some.inj h
            exact R_mask [true, true, false, false] rfl K26
    clear h
    have h := hz11
    clear hz11
    refine R_cmpne (dd dt_12_lineAt 38 rfl) (tgt := 71) rfl (fun hc => ?_) (fun hc => ?_)
    · rw [if_neg hc] at h
      refine R_aload_n (dd dt_12_lineAt 41 rfl) 0 rfl rfl ?_
      refine R_iload_n (dd dt_12_lineAt 42 rfl) 2 rfl rfl ?_
      refine R_iconst (v := 1) (dd dt_12_lineAt 43 rfl) ic_1 ?_
      obtain ⟨z8, hz8, h⟩ := bi_el h
      have K8 : Rj l E (d + 26) m_12_lineAt 85 [some (.ref a0), some (.int a1), some (.int z1), none] [.int z8, .ref a0, .int (a1 + 1), .ref (rf a0 17)] μ6 Q := by
        clear hz8
        obtain ⟨z10, e9, h⟩ := bi_el h
        refine c_12_204 (As := [.int z8]) (st1 := [.int z10.1, .int (a1 + 1), .ref (rf a0 17)]) rfl (fun Q1 hq => ok_12_number e9 k0 hq) k0 rfl rfl (Nat.le_of_ble_eq_true rfl) (dd dt_12_lineAt 48 rfl) rfl ?_
        obtain rfl := Option.some.inj h
        exact R_mask [true, true, true, false] rfl K11
      clear h
      have h := hz8
      clear hz8
      refine R_cmpne (dd dt_12_lineAt 44 rfl) (tgt := 82) rfl (fun hc => ?_) (fun hc => ?_)
      · rw [if_neg hc] at h
        refine R_sipush (v := 999) (dd dt_12_lineAt 47 rfl) sp_999 ?_
        obtain rfl := Option.some.inj h
        exact R_mask [true, true, true, false] rfl K8
      · rw [if_pos hc] at h
        refine R_bipush (v := 9) (dd dt_12_lineAt 45 rfl) bp_9 ?_
        refine R_goto (dd dt_12_lineAt 46 rfl) (tgt := 85) rfl ?_
        obtain rfl := Option.some.inj h
        exact R_mask [true, true, true, false] rfl K8
    · rw [if_pos hc] at h
      refine R_bipush (v := (-9)) (dd dt_12_lineAt 39 rfl) bp_m9 ?_
      refine R_goto (dd dt_12_lineAt 40 rfl) (tgt := 88) rfl ?_
      obtain rfl := Option.some.inj h
      exact R_mask [true, true, true, false] rfl K11
  clear h
  have h := hz3
  clear hz3
  refine R_iflt (dd dt_12_lineAt 21 rfl) (tgt := 43) rfl (fun hc => ?_) (fun hc => ?_)
  · rw [if_pos hc] at h
    refine R_iconst (v := 0) (dd dt_12_lineAt 24 rfl) ic_0 ?_
    obtain rfl := Option.some.inj h
    exact R_mask [true, true, true, false] rfl K3
  · rw [if_neg hc] at h
    refine R_iconst (v := 1) (dd dt_12_lineAt 22 rfl) ic_1 ?_
    refine R_goto (dd dt_12_lineAt 23 rfl) (tgt := 44) rfl ?_
    obtain rfl := Option.some.inj h
    exact R_mask [true, true, true, false] rfl K3
/-! LongStrikeModel.read(I)I -/
def tab_12_read : List (Nat × Instr × Nat) := [(0, .aload_n 0, 1), (1, .iconst 0, 1), (2, .putfield 135, 3), (5, .aload_n 0, 1), (6, .iconst 0, 1), (7, .putfield 147, 3), (10, .aload_n 0, 1), (11, .iconst 0, 1), (12, .putfield 194, 3), (15, .aload_n 0, 1), (16, .iconst 0, 1), (17, .putfield 168, 3), (20, .aload_n 0, 1), (21, .iconst 0, 1), (22, .putfield 212, 3), (25, .aload_n 0, 1), (26, .invokevirtual 161, 3), (29, .aload_n 0, 1), (30, .getfield 147, 3), (33, .ifCond .ne 58, 3), (36, .aload_n 0, 1), (37, .getfield 141, 3), (40, .ifCond .eq 51, 3), (43, .aload_n 0, 1), (44, .aload_n 0, 1), (45, .getfield 212, 3), (48, .bipush 10, 2), (50, .if_icmp .ne 7, 3), (53, .iconst 1, 1), (54, .goto 4, 3), (57, .iconst 0, 1), (58, .putfield 147, 3), (61, .aload_n 0, 1), (62, .getfield 147, 3), (65, .ifCond .ne (-36), 3), (68, .aload_n 0, 1), (69, .iconst 4, 1), (70, .aload_n 0, 1), (71, .getfield 212, 3), (74, .imul, 1), (75, .invokevirtual 215, 3), (78, .aload_n 0, 1), (79, .dup, 1), (80, .getfield 212, 3), (83, .iconst 1, 1), (84, .iadd, 1), (85, .putfield 212, 3), (88, .goto (-59), 3), (91, .aload_n 0, 1), (92, .getfield 138, 3), (95, .istore_n 2, 1), (96, .aload_n 0, 1), (97, .iconst 0, 1), (98, .putfield 130, 3), (101, .iload_n 1, 1), (102, .iconst 0, 1), (103, .iconst 2, 1), (104, .invokestatic 80, 3), (107, .ifCond .ne 5, 3), (110, .iconst (-1), 1), (111, .ireturn, 1), (112, .aload_n 0, 1), (113, .getfield 147, 3), (116, .ifCond .eq 8, 3), (119, .bipush (-100), 2), (121, .iload_n 2, 1), (122, .isub, 1), (123, .ireturn, 1), (124, .sipush 288, 3), (127, .sipush 161, 3), (130, .iload_n 1, 1), (131, .imul, 1), (132, .iadd, 1), (133, .istore_n 3, 1), (134, .aload_n 0, 1), (135, .getfield 9, 3), (138, .iload_n 3, 1), (139, .aload_n 0, 1), (140, .getfield 212, 3), (143, .iastore, 1), (144, .iconst 0, 1), (145, .istore 4, 2), (147, .iload 4, 2), (149, .bipush 40, 2), (151, .if_icmp .ge 27, 3), (154, .aload_n 0, 1), (155, .getfield 9, 3), (158, .iload_n 3, 1), (159, .iconst 1, 1), (160, .iadd, 1), (161, .iload 4, 2), (163, .iadd, 1), (164, .aload_n 0, 1), (165, .getfield 32, 3), (168, .iload 4, 2), (170, .iaload, 1), (171, .iastore, 1), (172, .iinc 4 1, 3), (175, .goto (-28), 3), (178, .iconst 0, 1), (179, .istore 4, 2), (181, .iload 4, 2), (183, .aload_n 0, 1), (184, .getfield 168, 3), (187, .if_icmp .ge 28, 3), (190, .aload_n 0, 1), (191, .getfield 9, 3), (194, .iload_n 3, 1), (195, .bipush 41, 2), (197, .iadd, 1), (198, .iload 4, 2), (200, .iadd, 1), (201, .aload_n 0, 1), (202, .getfield 35, 3), (205, .iload 4, 2), (207, .iaload, 1), (208, .iastore, 1), (209, .iinc 4 1, 3), (212, .goto (-31), 3), (215, .aload_n 0, 1), (216, .getfield 212, 3), (219, .ireturn, 1)]
set_option maxRecDepth 100000 in
theorem dt_12_read : ∀ q ∈ tab_12_read, decode m_12_read.2.1 q.1 = .ok q.2 := by decide +kernel
def f_12_read_l29 (a0 : Nat) (a1 : Int32) : Nat → mm → Option (mm)
  | 0, _ => none
  | n + 1, μ => if (μ a0 13) = 0 then
      if (μ a0 12) = 0 then
        some μ
      else
        (if (μ a0 16) = 10 then
            some 1
          else
            some 0).bind fun (z1 : Int32) =>
        (gb z1).bind fun _ =>
        (pf μ a0 13 z1).bind fun μ2 =>
        if (μ2 a0 13) = 0 then
          (f_12_lineAt a0 (4 * (μ2 a0 16)) μ2).bind fun μ6 =>
          (pf μ6 a0 16 ((μ6 a0 16) + 1)).bind fun μ7 =>
          f_12_read_l29 a0 a1 n  μ7
        else
          f_12_read_l29 a0 a1 n  μ2
    else
      some μ
set_option maxRecDepth 100000 in
theorem ok_12_read_l29 {l : Launch} {E : ce} {d : Nat} {Q : Option Value → mm → Prop} (a0 : Nat) (a1 : Int32) (k0 : kd a0 = 12) : ∀ (n : Nat) (μ : mm) (z : mm), f_12_read_l29 a0 a1 n  μ = some z → Rj l E (d + 27) m_12_read 91 [some (.ref a0), some (.int a1), none, none, none] [] z Q → Rj l E (d + 27) m_12_read 29 [some (.ref a0), some (.int a1), none, none, none] [] μ Q
  | 0, _, z, h, _ => by
    rw [f_12_read_l29] at h
    cases h
  | n + 1, μ, z, h, KX => by
    rw [f_12_read_l29] at h
    refine R_aload_n (dd dt_12_read 17 rfl) 0 rfl rfl ?_
    refine g_12_147 rfl k0 (dd dt_12_read 18 rfl) ?_
    refine R_ifne (dd dt_12_read 19 rfl) (tgt := 91) rfl (fun hc => ?_) (fun hc => ?_)
    · rw [if_neg hc] at h
      obtain rfl := Option.some.inj h
      exact R_mask [true, true, false, false, false] rfl KX
    · rw [if_pos hc] at h
      refine R_aload_n (dd dt_12_read 20 rfl) 0 rfl rfl ?_
      refine g_12_141 rfl k0 (dd dt_12_read 21 rfl) ?_
      refine R_ifeq (dd dt_12_read 22 rfl) (tgt := 91) rfl (fun hc => ?_) (fun hc => ?_)
      · rw [if_pos hc] at h
        obtain rfl := Option.some.inj h
        exact R_mask [true, true, false, false, false] rfl KX
      · rw [if_neg hc] at h
        refine R_aload_n (dd dt_12_read 23 rfl) 0 rfl rfl ?_
        refine R_aload_n (dd dt_12_read 24 rfl) 0 rfl rfl ?_
        refine g_12_212 rfl k0 (dd dt_12_read 25 rfl) ?_
        refine R_bipush (v := 10) (dd dt_12_read 26 rfl) bp_10 ?_
        obtain ⟨z1, hz1, h⟩ := bi_el h
        have K1 : Rj l E (d + 27) m_12_read 58 [some (.ref a0), some (.int a1), none, none, none] [.int z1, .ref a0] μ Q := by
          clear hz1
          obtain ⟨_, q4, h⟩ := bi_el h
          obtain ⟨μ2, e3, h⟩ := bi_el h
          refine p_12_147 rfl k0 (gb_el q4).1 (dd dt_12_read 31 rfl) e3 ?_
          refine R_aload_n (dd dt_12_read 32 rfl) 0 rfl rfl ?_
          refine g_12_147 rfl k0 (dd dt_12_read 33 rfl) ?_
          refine R_ifne (dd dt_12_read 34 rfl) (tgt := 29) rfl (fun hc => ?_) (fun hc => ?_)
          · rw [if_neg hc] at h
            exact R_mask [true, true, false, false, false] rfl (ok_12_read_l29 a0 a1 k0 n μ2 _ h KX)
          · rw [if_pos hc] at h
            refine R_aload_n (dd dt_12_read 35 rfl) 0 rfl rfl ?_
            refine R_iconst (v := 4) (dd dt_12_read 36 rfl) ic_4 ?_
            refine R_aload_n (dd dt_12_read 37 rfl) 0 rfl rfl ?_
            refine g_12_212 rfl k0 (dd dt_12_read 38 rfl) ?_
            refine R_imul (dd dt_12_read 39 rfl) ?_
            obtain ⟨μ6, e5, h⟩ := bi_el h
            refine c_12_215 (As := [.int (4 * (μ2 a0 16))]) (st1 := []) rfl (fun Q1 hq => ok_12_lineAt e5 k0 hq) k0 rfl rfl (Nat.le_of_ble_eq_true rfl) (dd dt_12_read 40 rfl) rfl ?_
            refine R_aload_n (dd dt_12_read 41 rfl) 0 rfl rfl ?_
            refine R_dup (dd dt_12_read 42 rfl) rfl ?_
            refine g_12_212 rfl k0 (dd dt_12_read 43 rfl) ?_
            refine R_iconst (v := 1) (dd dt_12_read 44 rfl) ic_1 ?_
            refine R_iadd (dd dt_12_read 45 rfl) ?_
            obtain ⟨μ7, e8, h⟩ := bi_el h
            refine p_12_212 rfl k0 (dd dt_12_read 46 rfl) e8 ?_
            refine R_goto (dd dt_12_read 47 rfl) (tgt := 29) rfl ?_
            exact R_mask [true, true, false, false, false] rfl (ok_12_read_l29 a0 a1 k0 n μ7 _ h KX)
        clear h
        have h := hz1
        clear hz1
        refine R_cmpne (dd dt_12_read 27 rfl) (tgt := 57) rfl (fun hc => ?_) (fun hc => ?_)
        · rw [if_neg hc] at h
          refine R_iconst (v := 0) (dd dt_12_read 30 rfl) ic_0 ?_
          obtain rfl := Option.some.inj h
          exact R_mask [true, true, false, false, false] rfl K1
        · rw [if_pos hc] at h
          refine R_iconst (v := 1) (dd dt_12_read 28 rfl) ic_1 ?_
          refine R_goto (dd dt_12_read 29 rfl) (tgt := 58) rfl ?_
          obtain rfl := Option.some.inj h
          exact R_mask [true, true, false, false, false] rfl K1
def f_12_read_l147 (a0 : Nat) (a3 : Int32) : Nat → Int32 → mm → Option (mm)
  | 0, _, _ => none
  | n + 1, v4, μ => if 40 ≤ v4 then
      some μ
    else
      (ld μ (rf a0 17) v4).bind fun x1 =>
      (sto μ (rf a0 0) ((a3 + 1) + v4) x1).bind fun μ3 =>
      f_12_read_l147 a0 a3 n (v4 + 1) μ3
set_option maxRecDepth 100000 in
theorem ok_12_read_l147 {l : Launch} {E : ce} {d : Nat} {Q : Option Value → mm → Prop} (a0 : Nat) (a3 : Int32) (k0 : kd a0 = 12) : ∀ (n : Nat) (v4 : Int32) (μ : mm) (z : mm), f_12_read_l147 a0 a3 n v4 μ = some z → Rj l E (d + 27) m_12_read 178 [some (.ref a0), none, none, some (.int a3), none] [] z Q → Rj l E (d + 27) m_12_read 147 [some (.ref a0), none, none, some (.int a3), some (.int v4)] [] μ Q
  | 0, _, _, z, h, _ => by
    rw [f_12_read_l147] at h
    cases h
  | n + 1, v4, μ, z, h, KX => by
    rw [f_12_read_l147] at h
    refine R_iload (dd dt_12_read 82 rfl) rfl ?_
    refine R_bipush (v := 40) (dd dt_12_read 83 rfl) bp_40 ?_
    refine R_cmpge (dd dt_12_read 84 rfl) (tgt := 178) rfl (fun hc => ?_) (fun hc => ?_)
    · rw [if_pos hc] at h
      obtain rfl := Option.some.inj h
      exact R_mask [true, false, false, true, false] rfl KX
    · rw [if_neg hc] at h
      refine R_aload_n (dd dt_12_read 85 rfl) 0 rfl rfl ?_
      refine g_12_9 rfl k0 (dd dt_12_read 86 rfl) ?_
      refine R_iload_n (dd dt_12_read 87 rfl) 3 rfl rfl ?_
      refine R_iconst (v := 1) (dd dt_12_read 88 rfl) ic_1 ?_
      refine R_iadd (dd dt_12_read 89 rfl) ?_
      refine R_iload (dd dt_12_read 90 rfl) rfl ?_
      refine R_iadd (dd dt_12_read 91 rfl) ?_
      refine R_aload_n (dd dt_12_read 92 rfl) 0 rfl rfl ?_
      refine g_12_32 rfl k0 (dd dt_12_read 93 rfl) ?_
      refine R_iload (dd dt_12_read 94 rfl) rfl ?_
      obtain ⟨x1, e2, h⟩ := bi_el h
      refine R_ild e2 (ty_12_17 k0) (dd dt_12_read 95 rfl) ?_
      obtain ⟨μ3, e4, h⟩ := bi_el h
      refine R_isto e4 (ty_12_0 k0) (dd dt_12_read 96 rfl) ?_
      refine R_iinc (v := 1) (lv' := [some (.ref a0), none, none, some (.int a3), some (.int (v4 + 1))]) (dd dt_12_read 97 rfl) (by decide) rfl rfl ic_1 rfl ?_
      refine R_goto (dd dt_12_read 98 rfl) (tgt := 147) rfl ?_
      exact R_mask [true, false, false, true, true] rfl (ok_12_read_l147 a0 a3 k0 n (v4 + 1) μ3 _ h KX)
def f_12_read_l181 (a0 : Nat) (a3 : Int32) : Nat → Int32 → mm → Option (mm)
  | 0, _, _ => none
  | n + 1, v4, μ => if (μ a0 15) ≤ v4 then
      some μ
    else
      (ld μ (rf a0 18) v4).bind fun x1 =>
      (sto μ (rf a0 0) ((a3 + 41) + v4) x1).bind fun μ3 =>
      f_12_read_l181 a0 a3 n (v4 + 1) μ3
set_option maxRecDepth 100000 in
theorem ok_12_read_l181 {l : Launch} {E : ce} {d : Nat} {Q : Option Value → mm → Prop} (a0 : Nat) (a3 : Int32) (k0 : kd a0 = 12) : ∀ (n : Nat) (v4 : Int32) (μ : mm) (z : mm), f_12_read_l181 a0 a3 n v4 μ = some z → Rj l E (d + 27) m_12_read 215 [some (.ref a0), none, none, none, none] [] z Q → Rj l E (d + 27) m_12_read 181 [some (.ref a0), none, none, some (.int a3), some (.int v4)] [] μ Q
  | 0, _, _, z, h, _ => by
    rw [f_12_read_l181] at h
    cases h
  | n + 1, v4, μ, z, h, KX => by
    rw [f_12_read_l181] at h
    refine R_iload (dd dt_12_read 101 rfl) rfl ?_
    refine R_aload_n (dd dt_12_read 102 rfl) 0 rfl rfl ?_
    refine g_12_168 rfl k0 (dd dt_12_read 103 rfl) ?_
    refine R_cmpge (dd dt_12_read 104 rfl) (tgt := 215) rfl (fun hc => ?_) (fun hc => ?_)
    · rw [if_pos hc] at h
      obtain rfl := Option.some.inj h
      exact R_mask [true, false, false, false, false] rfl KX
    · rw [if_neg hc] at h
      refine R_aload_n (dd dt_12_read 105 rfl) 0 rfl rfl ?_
      refine g_12_9 rfl k0 (dd dt_12_read 106 rfl) ?_
      refine R_iload_n (dd dt_12_read 107 rfl) 3 rfl rfl ?_
      refine R_bipush (v := 41) (dd dt_12_read 108 rfl) bp_41 ?_
      refine R_iadd (dd dt_12_read 109 rfl) ?_
      refine R_iload (dd dt_12_read 110 rfl) rfl ?_
      refine R_iadd (dd dt_12_read 111 rfl) ?_
      refine R_aload_n (dd dt_12_read 112 rfl) 0 rfl rfl ?_
      refine g_12_35 rfl k0 (dd dt_12_read 113 rfl) ?_
      refine R_iload (dd dt_12_read 114 rfl) rfl ?_
      obtain ⟨x1, e2, h⟩ := bi_el h
      refine R_ild e2 (ty_12_18 k0) (dd dt_12_read 115 rfl) ?_
      obtain ⟨μ3, e4, h⟩ := bi_el h
      refine R_isto e4 (ty_12_0 k0) (dd dt_12_read 116 rfl) ?_
      refine R_iinc (v := 1) (lv' := [some (.ref a0), none, none, some (.int a3), some (.int (v4 + 1))]) (dd dt_12_read 117 rfl) (by decide) rfl rfl ic_1 rfl ?_
      refine R_goto (dd dt_12_read 118 rfl) (tgt := 181) rfl ?_
      exact R_mask [true, false, false, true, true] rfl (ok_12_read_l181 a0 a3 k0 n (v4 + 1) μ3 _ h KX)
def f_12_read (a0 : Nat) (a1 : Int32) (μ : mm) : Option (Int32 × mm) :=
  (pf μ a0 11 0).bind fun μ1 =>
  (pf μ1 a0 13 0).bind fun μ3 =>
  (pf μ3 a0 14 0).bind fun μ5 =>
  (pf μ5 a0 15 0).bind fun μ7 =>
  (pf μ7 a0 16 0).bind fun μ9 =>
  (f_12_next a0 μ9).bind fun μ12 =>
  (f_12_read_l29 a0 a1 FU μ12).bind fun z13 =>
  (pf z13 a0 5 0).bind fun μ15 =>
  (f_12_within a1 0 2 μ15).bind fun x18 =>
  if x18 = 0 then
    some ((-1), μ15)
  else
    if (μ15 a0 13) = 0 then
      (sto μ15 (rf a0 0) (288 + (161 * a1)) (μ15 a0 16)).bind fun μ19 =>
      (f_12_read_l147 a0 (288 + (161 * a1)) FU 0 μ19).bind fun z21 =>
      (f_12_read_l181 a0 (288 + (161 * a1)) FU 0 z21).bind fun z23 =>
      some ((z23 a0 16), z23)
    else
      some (((-100) - (z13 a0 10)), μ15)
set_option maxRecDepth 100000 in
set_option maxHeartbeats 4000000 in
theorem ok_12_read {l : Launch} {E : ce} {d : Nat}  {a0 : Nat} {a1 : Int32} {μ : mm} {r : Int32 × mm} {Q : Option Value → mm → Prop} (h : f_12_read a0 a1 μ = some r) (k0 : kd a0 = 12) (hQ : Q (some (.int r.1)) r.2) : Ct l E (d + 27) yX12_read m_12_read [.ref a0, .int a1] μ Q := by
  refine Ct_of (lv := [some (.ref a0), some (.int a1), none, none, none]) (by decide) rfl (Nat.le_of_ble_eq_true rfl) rfl ?_
  unfold f_12_read at h
  refine R_aload_n (dd dt_12_read 0 rfl) 0 rfl rfl ?_
  refine R_iconst (v := 0) (dd dt_12_read 1 rfl) ic_0 ?_
  obtain ⟨μ1, e2, h⟩ := bi_el h
  refine p_12_135 rfl k0 (dd dt_12_read 2 rfl) e2 ?_
  refine R_aload_n (dd dt_12_read 3 rfl) 0 rfl rfl ?_
  refine R_iconst (v := 0) (dd dt_12_read 4 rfl) ic_0 ?_
  obtain ⟨μ3, e4, h⟩ := bi_el h
  refine p_12_147 rfl k0 (by decide) (dd dt_12_read 5 rfl) e4 ?_
  refine R_aload_n (dd dt_12_read 6 rfl) 0 rfl rfl ?_
  refine R_iconst (v := 0) (dd dt_12_read 7 rfl) ic_0 ?_
  obtain ⟨μ5, e6, h⟩ := bi_el h
  refine p_12_194 rfl k0 (dd dt_12_read 8 rfl) e6 ?_
  refine R_aload_n (dd dt_12_read 9 rfl) 0 rfl rfl ?_
  refine R_iconst (v := 0) (dd dt_12_read 10 rfl) ic_0 ?_
  obtain ⟨μ7, e8, h⟩ := bi_el h
  refine p_12_168 rfl k0 (dd dt_12_read 11 rfl) e8 ?_
  refine R_aload_n (dd dt_12_read 12 rfl) 0 rfl rfl ?_
  refine R_iconst (v := 0) (dd dt_12_read 13 rfl) ic_0 ?_
  obtain ⟨μ9, e10, h⟩ := bi_el h
  refine p_12_212 rfl k0 (dd dt_12_read 14 rfl) e10 ?_
  refine R_aload_n (dd dt_12_read 15 rfl) 0 rfl rfl ?_
  obtain ⟨μ12, e11, h⟩ := bi_el h
  refine c_12_161 (As := []) (st1 := []) rfl (fun Q1 hq => ok_12_next e11 k0 hq) k0 rfl rfl (Nat.le_of_ble_eq_true rfl) (dd dt_12_read 16 rfl) rfl ?_
  obtain ⟨z13, e14, h⟩ := bi_el h
  refine R_mask [true, true, false, false, false] rfl (ok_12_read_l29 a0 a1 k0 FU μ12 _ e14 ?_)
  refine R_aload_n (dd dt_12_read 48 rfl) 0 rfl rfl ?_
  refine g_12_138 rfl k0 (dd dt_12_read 49 rfl) ?_
  refine R_istore_n (lv' := [some (.ref a0), some (.int a1), some (.int (z13 a0 10)), none, none]) (dd dt_12_read 50 rfl) 2 rfl (by decide) rfl rfl ?_
  refine R_aload_n (dd dt_12_read 51 rfl) 0 rfl rfl ?_
  refine R_iconst (v := 0) (dd dt_12_read 52 rfl) ic_0 ?_
  obtain ⟨μ15, e16, h⟩ := bi_el h
  refine p_12_130 rfl k0 (dd dt_12_read 53 rfl) e16 ?_
  refine R_iload_n (dd dt_12_read 54 rfl) 1 rfl rfl ?_
  refine R_iconst (v := 0) (dd dt_12_read 55 rfl) ic_0 ?_
  refine R_iconst (v := 2) (dd dt_12_read 56 rfl) ic_2 ?_
  obtain ⟨x18, e17, h⟩ := bi_el h
  refine c_12_80 (As := [.int a1, .int 0, .int 2]) (st1 := [.int x18]) rfl (fun Q1 hq => ok_12_within e17 hq) rfl rfl (Nat.le_of_ble_eq_true rfl) (dd dt_12_read 57 rfl) rfl ?_
  refine R_ifne (dd dt_12_read 58 rfl) (tgt := 112) rfl (fun hc => ?_) (fun hc => ?_)
  · rw [if_neg hc] at h
    refine R_aload_n (dd dt_12_read 61 rfl) 0 rfl rfl ?_
    refine g_12_147 rfl k0 (dd dt_12_read 62 rfl) ?_
    refine R_ifeq (dd dt_12_read 63 rfl) (tgt := 124) rfl (fun hc => ?_) (fun hc => ?_)
    · rw [if_pos hc] at h
      refine R_sipush (v := 288) (dd dt_12_read 68 rfl) sp_288 ?_
      refine R_sipush (v := 161) (dd dt_12_read 69 rfl) sp_161 ?_
      refine R_iload_n (dd dt_12_read 70 rfl) 1 rfl rfl ?_
      refine R_imul (dd dt_12_read 71 rfl) ?_
      refine R_iadd (dd dt_12_read 72 rfl) ?_
      refine R_istore_n (lv' := [some (.ref a0), some (.int a1), some (.int (z13 a0 10)), some (.int (288 + (161 * a1))), none]) (dd dt_12_read 73 rfl) 3 rfl (by decide) rfl rfl ?_
      refine R_aload_n (dd dt_12_read 74 rfl) 0 rfl rfl ?_
      refine g_12_9 rfl k0 (dd dt_12_read 75 rfl) ?_
      refine R_iload_n (dd dt_12_read 76 rfl) 3 rfl rfl ?_
      refine R_aload_n (dd dt_12_read 77 rfl) 0 rfl rfl ?_
      refine g_12_212 rfl k0 (dd dt_12_read 78 rfl) ?_
      obtain ⟨μ19, e20, h⟩ := bi_el h
      refine R_isto e20 (ty_12_0 k0) (dd dt_12_read 79 rfl) ?_
      refine R_iconst (v := 0) (dd dt_12_read 80 rfl) ic_0 ?_
      refine R_istore (lv' := [some (.ref a0), some (.int a1), some (.int (z13 a0 10)), some (.int (288 + (161 * a1))), some (.int 0)]) (dd dt_12_read 81 rfl) (by decide) rfl rfl ?_
      obtain ⟨z21, e22, h⟩ := bi_el h
      refine R_mask [true, false, false, true, true] rfl (ok_12_read_l147 a0 (288 + (161 * a1)) k0 FU 0 μ19 _ e22 ?_)
      refine R_iconst (v := 0) (dd dt_12_read 99 rfl) ic_0 ?_
      refine R_istore (lv' := [some (.ref a0), none, none, some (.int (288 + (161 * a1))), some (.int 0)]) (dd dt_12_read 100 rfl) (by decide) rfl rfl ?_
      obtain ⟨z23, e24, h⟩ := bi_el h
      refine R_mask [true, false, false, true, true] rfl (ok_12_read_l181 a0 (288 + (161 * a1)) k0 FU 0 z21 _ e24 ?_)
      refine R_aload_n (dd dt_12_read 119 rfl) 0 rfl rfl ?_
      refine g_12_212 rfl k0 (dd dt_12_read 120 rfl) ?_
      obtain rfl := Option.some.inj h
      exact R_iret rfl (dd dt_12_read 121 rfl) hQ
    · rw [if_neg hc] at h
      refine R_bipush (v := (-100)) (dd dt_12_read 64 rfl) bp_m100 ?_
      refine R_iload_n (dd dt_12_read 65 rfl) 2 rfl rfl ?_
      refine R_isub (dd dt_12_read 66 rfl) ?_
      obtain rfl := Option.some.inj h
      exact R_iret rfl (dd dt_12_read 67 rfl) hQ
  · rw [if_pos hc] at h
    refine R_iconst (v := (-1)) (dd dt_12_read 59 rfl) ic_m1 ?_
    obtain rfl := Option.some.inj h
    exact R_iret rfl (dd dt_12_read 60 rfl) hQ
/-! LongStrikeModel.line(III)I -/
def tab_12_line : List (Nat × Instr × Nat) := [(0, .iload_n 1, 1), (1, .iconst 0, 1), (2, .iconst 2, 1), (3, .invokestatic 80, 3), (6, .ifCond .eq 36, 3), (9, .iload_n 2, 1), (10, .iconst 0, 1), (11, .aload_n 0, 1), (12, .getfield 9, 3), (15, .sipush 288, 3), (18, .sipush 161, 3), (21, .iload_n 1, 1), (22, .imul, 1), (23, .iadd, 1), (24, .iaload, 1), (25, .iconst 1, 1), (26, .isub, 1), (27, .invokestatic 80, 3), (30, .ifCond .eq 12, 3), (33, .iload_n 3, 1), (34, .iconst 0, 1), (35, .iconst 2, 1), (36, .invokestatic 80, 3), (39, .ifCond .ne 6, 3), (42, .bipush (-9), 2), (44, .ireturn, 1), (45, .iload_n 3, 1), (46, .iconst 2, 1), (47, .if_icmp .ge 13, 3), (50, .aload_n 0, 1), (51, .iload_n 1, 1), (52, .iload_n 2, 1), (53, .iload_n 3, 1), (54, .invokevirtual 218, 3), (57, .goto 25, 3), (60, .aload_n 0, 1), (61, .iload_n 1, 1), (62, .iload_n 2, 1), (63, .iconst 3, 1), (64, .invokevirtual 218, 3), (67, .aload_n 0, 1), (68, .iload_n 1, 1), (69, .iload_n 2, 1), (70, .iconst 2, 1), (71, .invokevirtual 218, 3), (74, .if_icmp .le 7, 3), (77, .iconst 1, 1), (78, .goto 4, 3), (81, .iconst 0, 1), (82, .ireturn, 1)]
set_option maxRecDepth 100000 in
theorem dt_12_line : ∀ q ∈ tab_12_line, decode m_12_line.2.1 q.1 = .ok q.2 := by decide +kernel
def f_12_line (a0 : Nat) (a1 : Int32) (a2 : Int32) (a3 : Int32) (μ : mm) : Option (Int32) :=
  (f_12_within a1 0 2 μ).bind fun x2 =>
  if x2 = 0 then
    some (-9)
  else
    (ld μ (rf a0 0) (288 + (161 * a1))).bind fun x3 =>
    (f_12_within a2 0 (x3 - 1) μ).bind fun x6 =>
    if x6 = 0 then
      some (-9)
    else
      (f_12_within a3 0 2 μ).bind fun x8 =>
      if x8 = 0 then
        some (-9)
      else
        if 2 ≤ a3 then
          (f_12_lineOf a0 a1 a2 3 μ).bind fun x10 =>
          (f_12_lineOf a0 a1 a2 2 μ).bind fun x12 =>
          if x10 ≤ x12 then
            some 0
          else
            some 1
        else
          (f_12_lineOf a0 a1 a2 a3 μ).bind fun x14 =>
          some x14
set_option maxRecDepth 100000 in
set_option maxHeartbeats 4000000 in
theorem ok_12_line {l : Launch} {E : ce} {d : Nat}  {a0 : Nat} {a1 : Int32} {a2 : Int32} {a3 : Int32} {μ : mm} {r : Int32} {Q : Option Value → mm → Prop} (h : f_12_line a0 a1 a2 a3 μ = some r) (k0 : kd a0 = 12) (hQ : Q (some (.int r)) μ) : Ct l E (d + 1) yX12_line m_12_line [.ref a0, .int a1, .int a2, .int a3] μ Q := by
  refine Ct_of (lv := [some (.ref a0), some (.int a1), some (.int a2), some (.int a3)]) (by decide) rfl (Nat.le_of_ble_eq_true rfl) rfl ?_
  unfold f_12_line at h
  refine R_iload_n (dd dt_12_line 0 rfl) 1 rfl rfl ?_
  refine R_iconst (v := 0) (dd dt_12_line 1 rfl) ic_0 ?_
  refine R_iconst (v := 2) (dd dt_12_line 2 rfl) ic_2 ?_
  obtain ⟨x2, e1, h⟩ := bi_el h
  refine c_12_80 (As := [.int a1, .int 0, .int 2]) (st1 := [.int x2]) rfl (fun Q1 hq => ok_12_within e1 hq) rfl rfl (Nat.le_of_ble_eq_true rfl) (dd dt_12_line 3 rfl) rfl ?_
  refine R_ifeq (dd dt_12_line 4 rfl) (tgt := 42) rfl (fun hc => ?_) (fun hc => ?_)
  · rw [if_pos hc] at h
    refine R_bipush (v := (-9)) (dd dt_12_line 24 rfl) bp_m9 ?_
    obtain rfl := Option.some.inj h
    exact R_iret rfl (dd dt_12_line 25 rfl) hQ
  · rw [if_neg hc] at h
    refine R_iload_n (dd dt_12_line 5 rfl) 2 rfl rfl ?_
    refine R_iconst (v := 0) (dd dt_12_line 6 rfl) ic_0 ?_
    refine R_aload_n (dd dt_12_line 7 rfl) 0 rfl rfl ?_
    refine g_12_9 rfl k0 (dd dt_12_line 8 rfl) ?_
    refine R_sipush (v := 288) (dd dt_12_line 9 rfl) sp_288 ?_
    refine R_sipush (v := 161) (dd dt_12_line 10 rfl) sp_161 ?_
    refine R_iload_n (dd dt_12_line 11 rfl) 1 rfl rfl ?_
    refine R_imul (dd dt_12_line 12 rfl) ?_
    refine R_iadd (dd dt_12_line 13 rfl) ?_
    obtain ⟨x3, e4, h⟩ := bi_el h
    refine R_ild e4 (ty_12_0 k0) (dd dt_12_line 14 rfl) ?_
    refine R_iconst (v := 1) (dd dt_12_line 15 rfl) ic_1 ?_
    refine R_isub (dd dt_12_line 16 rfl) ?_
    obtain ⟨x6, e5, h⟩ := bi_el h
    refine c_12_80 (As := [.int a2, .int 0, .int (x3 - 1)]) (st1 := [.int x6]) rfl (fun Q1 hq => ok_12_within e5 hq) rfl rfl (Nat.le_of_ble_eq_true rfl) (dd dt_12_line 17 rfl) rfl ?_
    refine R_ifeq (dd dt_12_line 18 rfl) (tgt := 42) rfl (fun hc => ?_) (fun hc => ?_)
    · rw [if_pos hc] at h
      refine R_bipush (v := (-9)) (dd dt_12_line 24 rfl) bp_m9 ?_
      obtain rfl := Option.some.inj h
      exact R_iret rfl (dd dt_12_line 25 rfl) hQ
    · rw [if_neg hc] at h
      refine R_iload_n (dd dt_12_line 19 rfl) 3 rfl rfl ?_
      refine R_iconst (v := 0) (dd dt_12_line 20 rfl) ic_0 ?_
      refine R_iconst (v := 2) (dd dt_12_line 21 rfl) ic_2 ?_
      obtain ⟨x8, e7, h⟩ := bi_el h
      refine c_12_80 (As := [.int a3, .int 0, .int 2]) (st1 := [.int x8]) rfl (fun Q1 hq => ok_12_within e7 hq) rfl rfl (Nat.le_of_ble_eq_true rfl) (dd dt_12_line 22 rfl) rfl ?_
      refine R_ifne (dd dt_12_line 23 rfl) (tgt := 45) rfl (fun hc => ?_) (fun hc => ?_)
      · rw [if_neg hc] at h
        refine R_iload_n (dd dt_12_line 26 rfl) 3 rfl rfl ?_
        refine R_iconst (v := 2) (dd dt_12_line 27 rfl) ic_2 ?_
        refine R_cmpge (dd dt_12_line 28 rfl) (tgt := 60) rfl (fun hc => ?_) (fun hc => ?_)
        · rw [if_pos hc] at h
          refine R_aload_n (dd dt_12_line 35 rfl) 0 rfl rfl ?_
          refine R_iload_n (dd dt_12_line 36 rfl) 1 rfl rfl ?_
          refine R_iload_n (dd dt_12_line 37 rfl) 2 rfl rfl ?_
          refine R_iconst (v := 3) (dd dt_12_line 38 rfl) ic_3 ?_
          obtain ⟨x10, e9, h⟩ := bi_el h
          refine c_12_218 (As := [.int a1, .int a2, .int 3]) (st1 := [.int x10]) rfl (fun Q1 hq => ok_12_lineOf e9 k0 hq) k0 rfl rfl (Nat.le_of_ble_eq_true rfl) (dd dt_12_line 39 rfl) rfl ?_
          refine R_aload_n (dd dt_12_line 40 rfl) 0 rfl rfl ?_
          refine R_iload_n (dd dt_12_line 41 rfl) 1 rfl rfl ?_
          refine R_iload_n (dd dt_12_line 42 rfl) 2 rfl rfl ?_
          refine R_iconst (v := 2) (dd dt_12_line 43 rfl) ic_2 ?_
          obtain ⟨x12, e11, h⟩ := bi_el h
          refine c_12_218 (As := [.int a1, .int a2, .int 2]) (st1 := [.int x12, .int x10]) rfl (fun Q1 hq => ok_12_lineOf e11 k0 hq) k0 rfl rfl (Nat.le_of_ble_eq_true rfl) (dd dt_12_line 44 rfl) rfl ?_
          refine R_cmple (dd dt_12_line 45 rfl) (tgt := 81) rfl (fun hc => ?_) (fun hc => ?_)
          · rw [if_pos hc] at h
            refine R_iconst (v := 0) (dd dt_12_line 48 rfl) ic_0 ?_
            obtain rfl := Option.some.inj h
            exact R_iret rfl (dd dt_12_line 49 rfl) hQ
          · rw [if_neg hc] at h
            refine R_iconst (v := 1) (dd dt_12_line 46 rfl) ic_1 ?_
            refine R_goto (dd dt_12_line 47 rfl) (tgt := 82) rfl ?_
            obtain rfl := Option.some.inj h
            exact R_iret rfl (dd dt_12_line 49 rfl) hQ
        · rw [if_neg hc] at h
          refine R_aload_n (dd dt_12_line 29 rfl) 0 rfl rfl ?_
          refine R_iload_n (dd dt_12_line 30 rfl) 1 rfl rfl ?_
          refine R_iload_n (dd dt_12_line 31 rfl) 2 rfl rfl ?_
          refine R_iload_n (dd dt_12_line 32 rfl) 3 rfl rfl ?_
          obtain ⟨x14, e13, h⟩ := bi_el h
          refine c_12_218 (As := [.int a1, .int a2, .int a3]) (st1 := [.int x14]) rfl (fun Q1 hq => ok_12_lineOf e13 k0 hq) k0 rfl rfl (Nat.le_of_ble_eq_true rfl) (dd dt_12_line 33 rfl) rfl ?_
          refine R_goto (dd dt_12_line 34 rfl) (tgt := 82) rfl ?_
          obtain rfl := Option.some.inj h
          exact R_iret rfl (dd dt_12_line 49 rfl) hQ
      · rw [if_pos hc] at h
        refine R_bipush (v := (-9)) (dd dt_12_line 24 rfl) bp_m9 ?_
        obtain rfl := Option.some.inj h
        exact R_iret rfl (dd dt_12_line 25 rfl) hQ
/-! LongStrikeModel.rule(I)I -/
def tab_12_rule : List (Nat × Instr × Nat) := [(0, .iload_n 1, 1), (1, .iconst 0, 1), (2, .iconst 2, 1), (3, .invokestatic 80, 3), (6, .ifCond .eq 11, 3), (9, .aload_n 0, 1), (10, .iload_n 1, 1), (11, .invokevirtual 115, 3), (14, .goto 4, 3), (17, .iconst (-1), 1), (18, .ireturn, 1)]
set_option maxRecDepth 100000 in
theorem dt_12_rule : ∀ q ∈ tab_12_rule, decode m_12_rule.2.1 q.1 = .ok q.2 := by decide +kernel
def f_12_rule (a0 : Nat) (a1 : Int32) (μ : mm) : Option (Int32) :=
  (f_12_within a1 0 2 μ).bind fun x2 =>
  if x2 = 0 then
    some (-1)
  else
    (f_12_ruled a0 a1 μ).bind fun x4 =>
    some x4
set_option maxRecDepth 100000 in
set_option maxHeartbeats 4000000 in
theorem ok_12_rule {l : Launch} {E : ce} {d : Nat}  {a0 : Nat} {a1 : Int32} {μ : mm} {r : Int32} {Q : Option Value → mm → Prop} (h : f_12_rule a0 a1 μ = some r) (k0 : kd a0 = 12) (hQ : Q (some (.int r)) μ) : Ct l E (d + 3) yX12_rule m_12_rule [.ref a0, .int a1] μ Q := by
  refine Ct_of (lv := [some (.ref a0), some (.int a1)]) (by decide) rfl (Nat.le_of_ble_eq_true rfl) rfl ?_
  unfold f_12_rule at h
  refine R_iload_n (dd dt_12_rule 0 rfl) 1 rfl rfl ?_
  refine R_iconst (v := 0) (dd dt_12_rule 1 rfl) ic_0 ?_
  refine R_iconst (v := 2) (dd dt_12_rule 2 rfl) ic_2 ?_
  obtain ⟨x2, e1, h⟩ := bi_el h
  refine c_12_80 (As := [.int a1, .int 0, .int 2]) (st1 := [.int x2]) rfl (fun Q1 hq => ok_12_within e1 hq) rfl rfl (Nat.le_of_ble_eq_true rfl) (dd dt_12_rule 3 rfl) rfl ?_
  refine R_ifeq (dd dt_12_rule 4 rfl) (tgt := 17) rfl (fun hc => ?_) (fun hc => ?_)
  · rw [if_pos hc] at h
    refine R_iconst (v := (-1)) (dd dt_12_rule 9 rfl) ic_m1 ?_
    obtain rfl := Option.some.inj h
    exact R_iret rfl (dd dt_12_rule 10 rfl) hQ
  · rw [if_neg hc] at h
    refine R_aload_n (dd dt_12_rule 5 rfl) 0 rfl rfl ?_
    refine R_iload_n (dd dt_12_rule 6 rfl) 1 rfl rfl ?_
    obtain ⟨x4, e3, h⟩ := bi_el h
    refine c_12_115 (As := [.int a1]) (st1 := [.int x4]) rfl (fun Q1 hq => ok_12_ruled e3 k0 hq) k0 rfl rfl (Nat.le_of_ble_eq_true rfl) (dd dt_12_rule 7 rfl) rfl ?_
    refine R_goto (dd dt_12_rule 8 rfl) (tgt := 18) rfl ?_
    obtain rfl := Option.some.inj h
    exact R_iret rfl (dd dt_12_rule 10 rfl) hQ
/-! LongStrikeModel.why(II)I -/
def tab_12_why : List (Nat × Instr × Nat) := [(0, .aload_n 0, 1), (1, .iload_n 1, 1), (2, .bipush 11, 2), (4, .invokevirtual 84, 3), (7, .ifCond .eq 12, 3), (10, .iload_n 2, 1), (11, .iconst 0, 1), (12, .iconst 2, 1), (13, .invokestatic 80, 3), (16, .ifCond .ne 5, 3), (19, .iconst (-1), 1), (20, .ireturn, 1), (21, .aload_n 0, 1), (22, .iload_n 2, 1), (23, .iconst 2, 1), (24, .if_icmp .ne 7, 3), (27, .iconst 1, 1), (28, .goto 4, 3), (31, .iconst 0, 1), (32, .iload_n 2, 1), (33, .ifCond .ne 7, 3), (36, .iconst 0, 1), (37, .goto 14, 3), (40, .iload_n 2, 1), (41, .iconst 1, 1), (42, .if_icmp .ne 7, 3), (45, .iconst 1, 1), (46, .goto 5, 3), (49, .bipush 6, 2), (51, .iload_n 1, 1), (52, .invokevirtual 228, 3), (55, .istore_n 3, 1), (56, .iload_n 3, 1), (57, .ifCond .ge 8, 3), (60, .bipush (-3), 2), (62, .goto 4, 3), (65, .iload_n 3, 1), (66, .ireturn, 1)]
set_option maxRecDepth 100000 in
theorem dt_12_why : ∀ q ∈ tab_12_why, decode m_12_why.2.1 q.1 = .ok q.2 := by decide +kernel
def f_12_why (a0 : Nat) (a1 : Int32) (a2 : Int32) (μ : mm) : Option (Int32 × mm) :=
  (f_12_is a0 a1 11 μ).bind fun x2 =>
  if x2 = 0 then
    some ((-1), μ)
  else
    (f_12_within a2 0 2 μ).bind fun x4 =>
    if x4 = 0 then
      some ((-1), μ)
    else
      (if a2 = 2 then
          some 1
        else
          some 0).bind fun (z5 : Int32) =>
      (if a2 = 0 then
          some 0
        else
          if a2 = 1 then
            some 1
          else
            some 6).bind fun (z6 : Int32) =>
      (f_12_firstOf a0 z5 z6 a1 μ).bind fun z8 =>
      if 0 ≤ z8.1 then
        some (z8.1, z8.2)
      else
        some ((-3), z8.2)
set_option maxRecDepth 100000 in
set_option maxHeartbeats 4000000 in
theorem ok_12_why {l : Launch} {E : ce} {d : Nat}  {a0 : Nat} {a1 : Int32} {a2 : Int32} {μ : mm} {r : Int32 × mm} {Q : Option Value → mm → Prop} (h : f_12_why a0 a1 a2 μ = some r) (k0 : kd a0 = 12) (hQ : Q (some (.int r.1)) r.2) : Ct l E (d + 3) yX12_why m_12_why [.ref a0, .int a1, .int a2] μ Q := by
  refine Ct_of (lv := [some (.ref a0), some (.int a1), some (.int a2), none]) (by decide) rfl (Nat.le_of_ble_eq_true rfl) rfl ?_
  unfold f_12_why at h
  refine R_aload_n (dd dt_12_why 0 rfl) 0 rfl rfl ?_
  refine R_iload_n (dd dt_12_why 1 rfl) 1 rfl rfl ?_
  refine R_bipush (v := 11) (dd dt_12_why 2 rfl) bp_11 ?_
  obtain ⟨x2, e1, h⟩ := bi_el h
  refine c_12_84 (As := [.int a1, .int 11]) (st1 := [.int x2]) rfl (fun Q1 hq => ok_12_is e1 k0 hq) k0 rfl rfl (Nat.le_of_ble_eq_true rfl) (dd dt_12_why 3 rfl) rfl ?_
  refine R_ifeq (dd dt_12_why 4 rfl) (tgt := 19) rfl (fun hc => ?_) (fun hc => ?_)
  · rw [if_pos hc] at h
    refine R_iconst (v := (-1)) (dd dt_12_why 10 rfl) ic_m1 ?_
    obtain rfl := Option.some.inj h
    exact R_iret rfl (dd dt_12_why 11 rfl) hQ
  · rw [if_neg hc] at h
    refine R_iload_n (dd dt_12_why 5 rfl) 2 rfl rfl ?_
    refine R_iconst (v := 0) (dd dt_12_why 6 rfl) ic_0 ?_
    refine R_iconst (v := 2) (dd dt_12_why 7 rfl) ic_2 ?_
    obtain ⟨x4, e3, h⟩ := bi_el h
    refine c_12_80 (As := [.int a2, .int 0, .int 2]) (st1 := [.int x4]) rfl (fun Q1 hq => ok_12_within e3 hq) rfl rfl (Nat.le_of_ble_eq_true rfl) (dd dt_12_why 8 rfl) rfl ?_
    refine R_ifne (dd dt_12_why 9 rfl) (tgt := 21) rfl (fun hc => ?_) (fun hc => ?_)
    · rw [if_neg hc] at h
      refine R_aload_n (dd dt_12_why 12 rfl) 0 rfl rfl ?_
      refine R_iload_n (dd dt_12_why 13 rfl) 2 rfl rfl ?_
      refine R_iconst (v := 2) (dd dt_12_why 14 rfl) ic_2 ?_
      obtain ⟨z5, hz5, h⟩ := bi_el h
      have K5 : Rj l E (d + 3) m_12_why 32 [none, some (.int a1), some (.int a2), none] [.int z5, .ref a0] μ Q := by
        clear hz5
        refine R_iload_n (dd dt_12_why 19 rfl) 2 rfl rfl ?_
        obtain ⟨z6, hz6, h⟩ := bi_el h
        have K6 : Rj l E (d + 3) m_12_why 51 [none, some (.int a1), none, none] [.int z6, .int z5, .ref a0] μ Q := by
          clear hz6
          refine R_iload_n (dd dt_12_why 29 rfl) 1 rfl rfl ?_
          obtain ⟨z8, e7, h⟩ := bi_el h
          refine c_12_228 (As := [.int z5, .int z6, .int a1]) (st1 := [.int z8.1]) rfl (fun Q1 hq => ok_12_firstOf e7 k0 hq) k0 rfl rfl (Nat.le_of_ble_eq_true rfl) (dd dt_12_why 30 rfl) rfl ?_
          refine R_istore_n (lv' := [none, some (.int a1), none, some (.int z8.1)]) (dd dt_12_why 31 rfl) 3 rfl (by decide) rfl rfl ?_
          refine R_iload_n (dd dt_12_why 32 rfl) 3 rfl rfl ?_
          refine R_ifge (dd dt_12_why 33 rfl) (tgt := 65) rfl (fun hc => ?_) (fun hc => ?_)
          · rw [if_pos hc] at h
            refine R_iload_n (dd dt_12_why 36 rfl) 3 rfl rfl ?_
            obtain rfl := Option.some.inj h
            exact R_iret rfl (dd dt_12_why 37 rfl) hQ
          · rw [if_neg hc] at h
            refine R_bipush (v := (-3)) (dd dt_12_why 34 rfl) bp_m3 ?_
            refine R_goto (dd dt_12_why 35 rfl) (tgt := 66) rfl ?_
            obtain rfl := Option.some.inj h
            exact R_iret rfl (dd dt_12_why 37 rfl) hQ
        clear h
        have h := hz6
        clear hz6
        refine R_ifne (dd dt_12_why 20 rfl) (tgt := 40) rfl (fun hc => ?_) (fun hc => ?_)
        · rw [if_neg hc] at h
          refine R_iload_n (dd dt_12_why 23 rfl) 2 rfl rfl ?_
          refine R_iconst (v := 1) (dd dt_12_why 24 rfl) ic_1 ?_
          refine R_cmpne (dd dt_12_why 25 rfl) (tgt := 49) rfl (fun hc => ?_) (fun hc => ?_)
          · rw [if_neg hc] at h
            refine R_bipush (v := 6) (dd dt_12_why 28 rfl) bp_6 ?_
            obtain rfl := Option.some.inj h
            exact R_mask [false, true, false, false] rfl K6
          · rw [if_pos hc] at h
            refine R_iconst (v := 1) (dd dt_12_why 26 rfl) ic_1 ?_
            refine R_goto (dd dt_12_why 27 rfl) (tgt := 51) rfl ?_
            obtain rfl := Option.some.inj h
            exact R_mask [false, true, false, false] rfl K6
        · rw [if_pos hc] at h
          refine R_iconst (v := 0) (dd dt_12_why 21 rfl) ic_0 ?_
          refine R_goto (dd dt_12_why 22 rfl) (tgt := 51) rfl ?_
          obtain rfl := Option.some.inj h
          exact R_mask [false, true, false, false] rfl K6
      clear h
      have h := hz5
      clear hz5
      refine R_cmpne (dd dt_12_why 15 rfl) (tgt := 31) rfl (fun hc => ?_) (fun hc => ?_)
      · rw [if_neg hc] at h
        refine R_iconst (v := 0) (dd dt_12_why 18 rfl) ic_0 ?_
        obtain rfl := Option.some.inj h
        exact R_mask [false, true, true, false] rfl K5
      · rw [if_pos hc] at h
        refine R_iconst (v := 1) (dd dt_12_why 16 rfl) ic_1 ?_
        refine R_goto (dd dt_12_why 17 rfl) (tgt := 32) rfl ?_
        obtain rfl := Option.some.inj h
        exact R_mask [false, true, true, false] rfl K5
    · rw [if_pos hc] at h
      refine R_iconst (v := (-1)) (dd dt_12_why 10 rfl) ic_m1 ?_
      obtain rfl := Option.some.inj h
      exact R_iret rfl (dd dt_12_why 11 rfl) hQ
/-! LongStrikeModel.pitsGo()V -/
def tab_12_pitsGo : List (Nat × Instr × Nat) := [(0, .iconst 0, 1), (1, .istore_n 1, 1), (2, .iload_n 1, 1), (3, .aload_n 0, 1), (4, .getfield 9, 3), (7, .bipush 9, 2), (9, .iaload, 1), (10, .if_icmp .ge 88, 3), (13, .aload_n 0, 1), (14, .getfield 9, 3), (17, .iload_n 1, 1), (18, .iconst 5, 1), (19, .invokestatic 92, 3), (22, .iaload, 1), (23, .bipush (-3), 2), (25, .if_icmp .ne 67, 3), (28, .aload_n 0, 1), (29, .getfield 9, 3), (32, .iload_n 1, 1), (33, .iconst 1, 1), (34, .invokestatic 92, 3), (37, .aload_n 0, 1), (38, .iload_n 1, 1), (39, .aload_n 0, 1), (40, .getfield 9, 3), (43, .iload_n 1, 1), (44, .iconst 1, 1), (45, .invokestatic 92, 3), (48, .iaload, 1), (49, .invokevirtual 123, 3), (52, .iastore, 1), (53, .aload_n 0, 1), (54, .getfield 9, 3), (57, .iload_n 1, 1), (58, .iconst 1, 1), (59, .invokestatic 92, 3), (62, .iaload, 1), (63, .aload_n 0, 1), (64, .getfield 9, 3), (67, .iload_n 1, 1), (68, .iconst 4, 1), (69, .invokestatic 92, 3), (72, .iaload, 1), (73, .if_icmp .le 19, 3), (76, .aload_n 0, 1), (77, .getfield 9, 3), (80, .iload_n 1, 1), (81, .iconst 5, 1), (82, .invokestatic 92, 3), (85, .aload_n 0, 1), (86, .getfield 9, 3), (89, .iconst 0, 1), (90, .iaload, 1), (91, .iastore, 1), (92, .iinc 1 1, 3), (95, .goto (-93), 3), (98, .return_, 1)]
set_option maxRecDepth 100000 in
theorem dt_12_pitsGo : ∀ q ∈ tab_12_pitsGo, decode m_12_pitsGo.2.1 q.1 = .ok q.2 := by decide +kernel
def f_12_pitsGo_l2 (a0 : Nat) : Nat → Int32 → mm → Option (mm)
  | 0, _, _ => none
  | n + 1, v1, μ => (ld μ (rf a0 0) 9).bind fun x1 =>
    if x1 ≤ v1 then
      some μ
    else
      (f_12_ofPit v1 5 μ).bind fun x4 =>
      (ld μ (rf a0 0) x4).bind fun x5 =>
      if x5 = (-3) then
        (f_12_ofPit v1 1 μ).bind fun x8 =>
        (f_12_ofPit v1 1 μ).bind fun x10 =>
        (ld μ (rf a0 0) x10).bind fun x11 =>
        (f_12_waterBehind a0 v1 x11 μ).bind fun x14 =>
        (sto μ (rf a0 0) x8 x14).bind fun μ15 =>
        (f_12_ofPit v1 1 μ15).bind fun x18 =>
        (ld μ15 (rf a0 0) x18).bind fun x19 =>
        (f_12_ofPit v1 4 μ15).bind fun x22 =>
        (ld μ15 (rf a0 0) x22).bind fun x23 =>
        if x19 ≤ x23 then
          f_12_pitsGo_l2 a0 n (v1 + 1) μ15
        else
          (f_12_ofPit v1 5 μ15).bind fun x26 =>
          (ld μ15 (rf a0 0) 0).bind fun x27 =>
          (sto μ15 (rf a0 0) x26 x27).bind fun μ29 =>
          f_12_pitsGo_l2 a0 n (v1 + 1) μ29
      else
        f_12_pitsGo_l2 a0 n (v1 + 1) μ
set_option maxRecDepth 100000 in
theorem ok_12_pitsGo_l2 {l : Launch} {E : ce} {d : Nat} {Q : Option Value → mm → Prop} (a0 : Nat) (k0 : kd a0 = 12) : ∀ (n : Nat) (v1 : Int32) (μ : mm) (z : mm), f_12_pitsGo_l2 a0 n v1 μ = some z → Rj l E (d + 4) m_12_pitsGo 98 [none, none] [] z Q → Rj l E (d + 4) m_12_pitsGo 2 [some (.ref a0), some (.int v1)] [] μ Q
  | 0, _, _, z, h, _ => by
    rw [f_12_pitsGo_l2] at h
    cases h
  | n + 1, v1, μ, z, h, KX => by
    rw [f_12_pitsGo_l2] at h
    refine R_iload_n (dd dt_12_pitsGo 2 rfl) 1 rfl rfl ?_
    refine R_aload_n (dd dt_12_pitsGo 3 rfl) 0 rfl rfl ?_
    refine g_12_9 rfl k0 (dd dt_12_pitsGo 4 rfl) ?_
    refine R_bipush (v := 9) (dd dt_12_pitsGo 5 rfl) bp_9 ?_
    obtain ⟨x1, e2, h⟩ := bi_el h
    refine R_ild e2 (ty_12_0 k0) (dd dt_12_pitsGo 6 rfl) ?_
    refine R_cmpge (dd dt_12_pitsGo 7 rfl) (tgt := 98) rfl (fun hc => ?_) (fun hc => ?_)
    · rw [if_pos hc] at h
      obtain rfl := Option.some.inj h
      exact R_mask [false, false] rfl KX
    · rw [if_neg hc] at h
      refine R_aload_n (dd dt_12_pitsGo 8 rfl) 0 rfl rfl ?_
      refine g_12_9 rfl k0 (dd dt_12_pitsGo 9 rfl) ?_
      refine R_iload_n (dd dt_12_pitsGo 10 rfl) 1 rfl rfl ?_
      refine R_iconst (v := 5) (dd dt_12_pitsGo 11 rfl) ic_5 ?_
      obtain ⟨x4, e3, h⟩ := bi_el h
      refine c_12_92 (As := [.int v1, .int 5]) (st1 := [.int x4, .ref (rf a0 0)]) rfl (fun Q1 hq => ok_12_ofPit e3 hq) rfl rfl (Nat.le_of_ble_eq_true rfl) (dd dt_12_pitsGo 12 rfl) rfl ?_
      obtain ⟨x5, e6, h⟩ := bi_el h
      refine R_ild e6 (ty_12_0 k0) (dd dt_12_pitsGo 13 rfl) ?_
      refine R_bipush (v := (-3)) (dd dt_12_pitsGo 14 rfl) bp_m3 ?_
      refine R_cmpne (dd dt_12_pitsGo 15 rfl) (tgt := 92) rfl (fun hc => ?_) (fun hc => ?_)
      · rw [if_neg hc] at h
        refine R_iinc (v := 1) (lv' := [some (.ref a0), some (.int (v1 + 1))]) (dd dt_12_pitsGo 54 rfl) (by decide) rfl rfl ic_1 rfl ?_
        refine R_goto (dd dt_12_pitsGo 55 rfl) (tgt := 2) rfl ?_
        exact R_mask [true, true] rfl (ok_12_pitsGo_l2 a0 k0 n (v1 + 1) μ _ h KX)
      · rw [if_pos hc] at h
        refine R_aload_n (dd dt_12_pitsGo 16 rfl) 0 rfl rfl ?_
        refine g_12_9 rfl k0 (dd dt_12_pitsGo 17 rfl) ?_
        refine R_iload_n (dd dt_12_pitsGo 18 rfl) 1 rfl rfl ?_
        refine R_iconst (v := 1) (dd dt_12_pitsGo 19 rfl) ic_1 ?_
        obtain ⟨x8, e7, h⟩ := bi_el h
        refine c_12_92 (As := [.int v1, .int 1]) (st1 := [.int x8, .ref (rf a0 0)]) rfl (fun Q1 hq => ok_12_ofPit e7 hq) rfl rfl (Nat.le_of_ble_eq_true rfl) (dd dt_12_pitsGo 20 rfl) rfl ?_
        refine R_aload_n (dd dt_12_pitsGo 21 rfl) 0 rfl rfl ?_
        refine R_iload_n (dd dt_12_pitsGo 22 rfl) 1 rfl rfl ?_
        refine R_aload_n (dd dt_12_pitsGo 23 rfl) 0 rfl rfl ?_
        refine g_12_9 rfl k0 (dd dt_12_pitsGo 24 rfl) ?_
        refine R_iload_n (dd dt_12_pitsGo 25 rfl) 1 rfl rfl ?_
        refine R_iconst (v := 1) (dd dt_12_pitsGo 26 rfl) ic_1 ?_
        obtain ⟨x10, e9, h⟩ := bi_el h
        refine c_12_92 (As := [.int v1, .int 1]) (st1 := [.int x10, .ref (rf a0 0), .int v1, .ref a0, .int x8, .ref (rf a0 0)]) rfl (fun Q1 hq => ok_12_ofPit e9 hq) rfl rfl (Nat.le_of_ble_eq_true rfl) (dd dt_12_pitsGo 27 rfl) rfl ?_
        obtain ⟨x11, e12, h⟩ := bi_el h
        refine R_ild e12 (ty_12_0 k0) (dd dt_12_pitsGo 28 rfl) ?_
        obtain ⟨x14, e13, h⟩ := bi_el h
        refine c_12_123 (As := [.int v1, .int x11]) (st1 := [.int x14, .int x8, .ref (rf a0 0)]) rfl (fun Q1 hq => ok_12_waterBehind e13 k0 hq) k0 rfl rfl (Nat.le_of_ble_eq_true rfl) (dd dt_12_pitsGo 29 rfl) rfl ?_
        obtain ⟨μ15, e16, h⟩ := bi_el h
        refine R_isto e16 (ty_12_0 k0) (dd dt_12_pitsGo 30 rfl) ?_
        refine R_aload_n (dd dt_12_pitsGo 31 rfl) 0 rfl rfl ?_
        refine g_12_9 rfl k0 (dd dt_12_pitsGo 32 rfl) ?_
        refine R_iload_n (dd dt_12_pitsGo 33 rfl) 1 rfl rfl ?_
        refine R_iconst (v := 1) (dd dt_12_pitsGo 34 rfl) ic_1 ?_
        obtain ⟨x18, e17, h⟩ := bi_el h
        refine c_12_92 (As := [.int v1, .int 1]) (st1 := [.int x18, .ref (rf a0 0)]) rfl (fun Q1 hq => ok_12_ofPit e17 hq) rfl rfl (Nat.le_of_ble_eq_true rfl) (dd dt_12_pitsGo 35 rfl) rfl ?_
        obtain ⟨x19, e20, h⟩ := bi_el h
        refine R_ild e20 (ty_12_0 k0) (dd dt_12_pitsGo 36 rfl) ?_
        refine R_aload_n (dd dt_12_pitsGo 37 rfl) 0 rfl rfl ?_
        refine g_12_9 rfl k0 (dd dt_12_pitsGo 38 rfl) ?_
        refine R_iload_n (dd dt_12_pitsGo 39 rfl) 1 rfl rfl ?_
        refine R_iconst (v := 4) (dd dt_12_pitsGo 40 rfl) ic_4 ?_
        obtain ⟨x22, e21, h⟩ := bi_el h
        refine c_12_92 (As := [.int v1, .int 4]) (st1 := [.int x22, .ref (rf a0 0), .int x19]) rfl (fun Q1 hq => ok_12_ofPit e21 hq) rfl rfl (Nat.le_of_ble_eq_true rfl) (dd dt_12_pitsGo 41 rfl) rfl ?_
        obtain ⟨x23, e24, h⟩ := bi_el h
        refine R_ild e24 (ty_12_0 k0) (dd dt_12_pitsGo 42 rfl) ?_
        refine R_cmple (dd dt_12_pitsGo 43 rfl) (tgt := 92) rfl (fun hc => ?_) (fun hc => ?_)
        · rw [if_pos hc] at h
          refine R_iinc (v := 1) (lv' := [some (.ref a0), some (.int (v1 + 1))]) (dd dt_12_pitsGo 54 rfl) (by decide) rfl rfl ic_1 rfl ?_
          refine R_goto (dd dt_12_pitsGo 55 rfl) (tgt := 2) rfl ?_
          exact R_mask [true, true] rfl (ok_12_pitsGo_l2 a0 k0 n (v1 + 1) μ15 _ h KX)
        · rw [if_neg hc] at h
          refine R_aload_n (dd dt_12_pitsGo 44 rfl) 0 rfl rfl ?_
          refine g_12_9 rfl k0 (dd dt_12_pitsGo 45 rfl) ?_
          refine R_iload_n (dd dt_12_pitsGo 46 rfl) 1 rfl rfl ?_
          refine R_iconst (v := 5) (dd dt_12_pitsGo 47 rfl) ic_5 ?_
          obtain ⟨x26, e25, h⟩ := bi_el h
          refine c_12_92 (As := [.int v1, .int 5]) (st1 := [.int x26, .ref (rf a0 0)]) rfl (fun Q1 hq => ok_12_ofPit e25 hq) rfl rfl (Nat.le_of_ble_eq_true rfl) (dd dt_12_pitsGo 48 rfl) rfl ?_
          refine R_aload_n (dd dt_12_pitsGo 49 rfl) 0 rfl rfl ?_
          refine g_12_9 rfl k0 (dd dt_12_pitsGo 50 rfl) ?_
          refine R_iconst (v := 0) (dd dt_12_pitsGo 51 rfl) ic_0 ?_
          obtain ⟨x27, e28, h⟩ := bi_el h
          refine R_ild e28 (ty_12_0 k0) (dd dt_12_pitsGo 52 rfl) ?_
          obtain ⟨μ29, e30, h⟩ := bi_el h
          refine R_isto e30 (ty_12_0 k0) (dd dt_12_pitsGo 53 rfl) ?_
          refine R_iinc (v := 1) (lv' := [some (.ref a0), some (.int (v1 + 1))]) (dd dt_12_pitsGo 54 rfl) (by decide) rfl rfl ic_1 rfl ?_
          refine R_goto (dd dt_12_pitsGo 55 rfl) (tgt := 2) rfl ?_
          exact R_mask [true, true] rfl (ok_12_pitsGo_l2 a0 k0 n (v1 + 1) μ29 _ h KX)
def f_12_pitsGo (a0 : Nat) (μ : mm) : Option (mm) :=
  (f_12_pitsGo_l2 a0 FU 0 μ).bind fun z1 =>
  some z1
set_option maxRecDepth 100000 in
set_option maxHeartbeats 4000000 in
theorem ok_12_pitsGo {l : Launch} {E : ce} {d : Nat}  {a0 : Nat} {μ : mm} {r : mm} {Q : Option Value → mm → Prop} (h : f_12_pitsGo a0 μ = some r) (k0 : kd a0 = 12) (hQ : Q none r) : Ct l E (d + 4) yX12_pitsGo m_12_pitsGo [.ref a0] μ Q := by
  refine Ct_of (lv := [some (.ref a0), none]) (by decide) rfl (Nat.le_of_ble_eq_true rfl) rfl ?_
  unfold f_12_pitsGo at h
  refine R_iconst (v := 0) (dd dt_12_pitsGo 0 rfl) ic_0 ?_
  refine R_istore_n (lv' := [some (.ref a0), some (.int 0)]) (dd dt_12_pitsGo 1 rfl) 1 rfl (by decide) rfl rfl ?_
  obtain ⟨z1, e2, h⟩ := bi_el h
  refine R_mask [true, true] rfl (ok_12_pitsGo_l2 a0 k0 FU 0 μ _ e2 ?_)
  obtain rfl := Option.some.inj h
  exact R_vret rfl (dd dt_12_pitsGo 56 rfl) hQ
/-! LongStrikeModel.wayOfNews(II)I -/
def tab_12_wayOfNews : List (Nat × Instr × Nat) := [(0, .aload_n 0, 1), (1, .getfield 9, 3), (4, .sipush 771, 3), (7, .iconst 3, 1), (8, .iload_n 1, 1), (9, .imul, 1), (10, .iadd, 1), (11, .iaload, 1), (12, .istore_n 3, 1), (13, .iload_n 3, 1), (14, .iload_n 2, 1), (15, .if_icmp .ne 7, 3), (18, .iconst 1, 1), (19, .goto 9, 3), (22, .aload_n 0, 1), (23, .iload_n 3, 1), (24, .iload_n 2, 1), (25, .invokevirtual 88, 3), (28, .ireturn, 1)]
set_option maxRecDepth 100000 in
theorem dt_12_wayOfNews : ∀ q ∈ tab_12_wayOfNews, decode m_12_wayOfNews.2.1 q.1 = .ok q.2 := by decide +kernel
def f_12_wayOfNews (a0 : Nat) (a1 : Int32) (a2 : Int32) (μ : mm) : Option (Int32) :=
  (ld μ (rf a0 0) (771 + (3 * a1))).bind fun x1 =>
  if x1 = a2 then
    some 1
  else
    (f_12_roadOf a0 x1 a2 μ).bind fun x4 =>
    some x4
set_option maxRecDepth 100000 in
set_option maxHeartbeats 4000000 in
theorem ok_12_wayOfNews {l : Launch} {E : ce} {d : Nat}  {a0 : Nat} {a1 : Int32} {a2 : Int32} {μ : mm} {r : Int32} {Q : Option Value → mm → Prop} (h : f_12_wayOfNews a0 a1 a2 μ = some r) (k0 : kd a0 = 12) (hQ : Q (some (.int r)) μ) : Ct l E (d + 1) yX12_wayOfNews m_12_wayOfNews [.ref a0, .int a1, .int a2] μ Q := by
  refine Ct_of (lv := [some (.ref a0), some (.int a1), some (.int a2), none]) (by decide) rfl (Nat.le_of_ble_eq_true rfl) rfl ?_
  unfold f_12_wayOfNews at h
  refine R_aload_n (dd dt_12_wayOfNews 0 rfl) 0 rfl rfl ?_
  refine g_12_9 rfl k0 (dd dt_12_wayOfNews 1 rfl) ?_
  refine R_sipush (v := 771) (dd dt_12_wayOfNews 2 rfl) sp_771 ?_
  refine R_iconst (v := 3) (dd dt_12_wayOfNews 3 rfl) ic_3 ?_
  refine R_iload_n (dd dt_12_wayOfNews 4 rfl) 1 rfl rfl ?_
  refine R_imul (dd dt_12_wayOfNews 5 rfl) ?_
  refine R_iadd (dd dt_12_wayOfNews 6 rfl) ?_
  obtain ⟨x1, e2, h⟩ := bi_el h
  refine R_ild e2 (ty_12_0 k0) (dd dt_12_wayOfNews 7 rfl) ?_
  refine R_istore_n (lv' := [some (.ref a0), some (.int a1), some (.int a2), some (.int x1)]) (dd dt_12_wayOfNews 8 rfl) 3 rfl (by decide) rfl rfl ?_
  refine R_iload_n (dd dt_12_wayOfNews 9 rfl) 3 rfl rfl ?_
  refine R_iload_n (dd dt_12_wayOfNews 10 rfl) 2 rfl rfl ?_
  refine R_cmpne (dd dt_12_wayOfNews 11 rfl) (tgt := 22) rfl (fun hc => ?_) (fun hc => ?_)
  · rw [if_neg hc] at h
    refine R_aload_n (dd dt_12_wayOfNews 14 rfl) 0 rfl rfl ?_
    refine R_iload_n (dd dt_12_wayOfNews 15 rfl) 3 rfl rfl ?_
    refine R_iload_n (dd dt_12_wayOfNews 16 rfl) 2 rfl rfl ?_
    obtain ⟨x4, e3, h⟩ := bi_el h
    refine c_12_88 (As := [.int x1, .int a2]) (st1 := [.int x4]) rfl (fun Q1 hq => ok_12_roadOf e3 k0 hq) k0 rfl rfl (Nat.le_of_ble_eq_true rfl) (dd dt_12_wayOfNews 17 rfl) rfl ?_
    obtain rfl := Option.some.inj h
    exact R_iret rfl (dd dt_12_wayOfNews 18 rfl) hQ
  · rw [if_pos hc] at h
    refine R_iconst (v := 1) (dd dt_12_wayOfNews 12 rfl) ic_1 ?_
    refine R_goto (dd dt_12_wayOfNews 13 rfl) (tgt := 28) rfl ?_
    obtain rfl := Option.some.inj h
    exact R_iret rfl (dd dt_12_wayOfNews 18 rfl) hQ
