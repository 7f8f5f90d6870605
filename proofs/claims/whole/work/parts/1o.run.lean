/-! LongStrikeModel.sheet(III)I -/
def tab_12_sheet : List (Nat × Instr × Nat) := [(0, .iload_n 1, 1), (1, .invokestatic 302, 3), (4, .ifCond .eq 22, 3), (7, .iload_n 2, 1), (8, .iconst (-1), 1), (9, .iconst 4, 1), (10, .invokestatic 80, 3), (13, .ifCond .eq 13, 3), (16, .iload_n 2, 1), (17, .ifCond .lt 11, 3), (20, .iload_n 3, 1), (21, .bipush 40, 2), (23, .if_icmp .le 5, 3), (26, .iconst (-1), 1), (27, .ireturn, 1), (28, .iload_n 2, 1), (29, .ifCond .lt 10, 3), (32, .iload_n 3, 1), (33, .ifCond .ge 6, 3), (36, .bipush (-14), 2), (38, .ireturn, 1), (39, .aload_n 0, 1), (40, .getfield 59, 3), (43, .iload_n 1, 1), (44, .iload_n 2, 1), (45, .iastore, 1), (46, .aload_n 0, 1), (47, .getfield 62, 3), (50, .iload_n 1, 1), (51, .iload_n 2, 1), (52, .ifCond .ge 7, 3), (55, .iconst 0, 1), (56, .goto 4, 3), (59, .iload_n 3, 1), (60, .iastore, 1), (61, .iconst 0, 1), (62, .istore 4, 2), (64, .iload 4, 2), (66, .bipush 40, 2), (68, .if_icmp .ge 22, 3), (71, .aload_n 0, 1), (72, .getfield 65, 3), (75, .bipush 40, 2), (77, .iload_n 1, 1), (78, .imul, 1), (79, .iload 4, 2), (81, .iadd, 1), (82, .iconst 0, 1), (83, .iastore, 1), (84, .iinc 4 1, 3), (87, .goto (-23), 3), (90, .iconst 1, 1), (91, .ireturn, 1)]
set_option maxRecDepth 100000 in
theorem dt_12_sheet : ∀ q ∈ tab_12_sheet, decode m_12_sheet.2.1 q.1 = .ok q.2 := by decide +kernel
def f_12_sheet_l64 (a0 : Nat) (a1 : Int32) : Nat → Int32 → mm → Option (mm)
  | 0, _, _ => none
  | n + 1, v4, μ => if 40 ≤ v4 then
      some μ
    else
      (sto μ (rf a0 28) ((40 * a1) + v4) 0).bind fun μ1 =>
      f_12_sheet_l64 a0 a1 n (v4 + 1) μ1
set_option maxRecDepth 100000 in
theorem ok_12_sheet_l64 {l : Launch} {E : ce} {d : Nat} {Q : Option Value → mm → Prop} (a0 : Nat) (a1 : Int32) (k0 : kd a0 = 12) : ∀ (n : Nat) (v4 : Int32) (μ : mm) (z : mm), f_12_sheet_l64 a0 a1 n v4 μ = some z → Rj l E (d + 2) m_12_sheet 90 [none, none, none, none, none] [] z Q → Rj l E (d + 2) m_12_sheet 64 [some (.ref a0), some (.int a1), none, none, some (.int v4)] [] μ Q
  | 0, _, _, z, h, _ => by
    rw [f_12_sheet_l64] at h
    cases h
  | n + 1, v4, μ, z, h, KX => by
    rw [f_12_sheet_l64] at h
    refine R_iload (dd dt_12_sheet 37 rfl) rfl ?_
    refine R_bipush (v := 40) (dd dt_12_sheet 38 rfl) bp_40 ?_
    refine R_cmpge (dd dt_12_sheet 39 rfl) (tgt := 90) rfl (fun hc => ?_) (fun hc => ?_)
    · rw [if_pos hc] at h
      obtain rfl := Option.some.inj h
      exact R_mask [false, false, false, false, false] rfl KX
    · rw [if_neg hc] at h
      refine R_aload_n (dd dt_12_sheet 40 rfl) 0 rfl rfl ?_
      refine g_12_65 rfl k0 (dd dt_12_sheet 41 rfl) ?_
      refine R_bipush (v := 40) (dd dt_12_sheet 42 rfl) bp_40 ?_
      refine R_iload_n (dd dt_12_sheet 43 rfl) 1 rfl rfl ?_
      refine R_imul (dd dt_12_sheet 44 rfl) ?_
      refine R_iload (dd dt_12_sheet 45 rfl) rfl ?_
      refine R_iadd (dd dt_12_sheet 46 rfl) ?_
      refine R_iconst (v := 0) (dd dt_12_sheet 47 rfl) ic_0 ?_
      obtain ⟨μ1, e2, h⟩ := bi_el h
      refine R_isto e2 (ty_12_28 k0) (dd dt_12_sheet 48 rfl) ?_
      refine R_iinc (v := 1) (lv' := [some (.ref a0), some (.int a1), none, none, some (.int (v4 + 1))]) (dd dt_12_sheet 49 rfl) (by decide) rfl rfl ic_1 rfl ?_
      refine R_goto (dd dt_12_sheet 50 rfl) (tgt := 64) rfl ?_
      exact R_mask [true, true, false, false, true] rfl (ok_12_sheet_l64 a0 a1 k0 n (v4 + 1) μ1 _ h KX)
def f_12_sheet_b39 (a0 : Nat) (a1 : Int32) (a2 : Int32) (a3 : Int32) (μ : mm) : Option (Int32 × mm) :=
  (sto μ (rf a0 26) a1 a2).bind fun μ1 =>
  (if 0 ≤ a2 then
      some a3
    else
      some 0).bind fun (z3 : Int32) =>
  (sto μ1 (rf a0 27) a1 z3).bind fun μ4 =>
  (f_12_sheet_l64 a0 a1 FU 0 μ4).bind fun z6 =>
  some (1, z6)
set_option maxRecDepth 100000 in
set_option maxHeartbeats 4000000 in
theorem ok_12_sheet_b39 {l : Launch} {E : ce} {d : Nat}  {a0 : Nat} {a1 : Int32} {a2 : Int32} {a3 : Int32} {μ : mm} {r : Int32 × mm} {Q : Option Value → mm → Prop} (h : f_12_sheet_b39 a0 a1 a2 a3 μ = some r) (k0 : kd a0 = 12) (hQ : Q (some (.int r.1)) r.2) : Rj l E (d + 2) m_12_sheet 39 [some (.ref a0), some (.int a1), some (.int a2), some (.int a3), none] [] μ Q := by
  unfold f_12_sheet_b39 at h
  refine R_aload_n (dd dt_12_sheet 21 rfl) 0 rfl rfl ?_
  refine g_12_59 rfl k0 (dd dt_12_sheet 22 rfl) ?_
  refine R_iload_n (dd dt_12_sheet 23 rfl) 1 rfl rfl ?_
  refine R_iload_n (dd dt_12_sheet 24 rfl) 2 rfl rfl ?_
  obtain ⟨μ1, e2, h⟩ := bi_el h
  refine R_isto e2 (ty_12_26 k0) (dd dt_12_sheet 25 rfl) ?_
  refine R_aload_n (dd dt_12_sheet 26 rfl) 0 rfl rfl ?_
  refine g_12_62 rfl k0 (dd dt_12_sheet 27 rfl) ?_
  refine R_iload_n (dd dt_12_sheet 28 rfl) 1 rfl rfl ?_
  refine R_iload_n (dd dt_12_sheet 29 rfl) 2 rfl rfl ?_
  obtain ⟨z3, hz3, h⟩ := bi_el h
  have K3 : Rj l E (d + 2) m_12_sheet 60 [some (.ref a0), some (.int a1), none, none, none] [.int z3, .int a1, .ref (rf a0 27)] μ1 Q := by
    clear hz3
    obtain ⟨μ4, e5, h⟩ := bi_el h
    refine R_isto e5 (ty_12_27 k0) (dd dt_12_sheet 34 rfl) ?_
    refine R_iconst (v := 0) (dd dt_12_sheet 35 rfl) ic_0 ?_
    refine R_istore (lv' := [some (.ref a0), some (.int a1), none, none, some (.int 0)]) (dd dt_12_sheet 36 rfl) (by decide) rfl rfl ?_
    obtain ⟨z6, e7, h⟩ := bi_el h
    refine R_mask [true, true, false, false, true] rfl (ok_12_sheet_l64 a0 a1 k0 FU 0 μ4 _ e7 ?_)
    refine R_iconst (v := 1) (dd dt_12_sheet 51 rfl) ic_1 ?_
    obtain rfl := Option.some.inj h
    exact R_iret rfl (dd dt_12_sheet 52 rfl) hQ
  clear h
  have h := hz3
  clear hz3
  refine R_ifge (dd dt_12_sheet 30 rfl) (tgt := 59) rfl (fun hc => ?_) (fun hc => ?_)
  · rw [if_pos hc] at h
    refine R_iload_n (dd dt_12_sheet 33 rfl) 3 rfl rfl ?_
    obtain rfl := Option.some.inj h
    exact R_mask [true, true, false, false, false] rfl K3
  · rw [if_neg hc] at h
    refine R_iconst (v := 0) (dd dt_12_sheet 31 rfl) ic_0 ?_
    refine R_goto (dd dt_12_sheet 32 rfl) (tgt := 60) rfl ?_
    obtain rfl := Option.some.inj h
    exact R_mask [true, true, false, false, false] rfl K3
def f_12_sheet_b28 (a0 : Nat) (a1 : Int32) (a2 : Int32) (a3 : Int32) (μ : mm) : Option (Int32 × mm) :=
  if a2 < 0 then
    f_12_sheet_b39 a0 a1 a2 a3 μ
  else
    if 0 ≤ a3 then
      f_12_sheet_b39 a0 a1 a2 a3 μ
    else
      some ((-14), μ)
set_option maxRecDepth 100000 in
set_option maxHeartbeats 4000000 in
theorem ok_12_sheet_b28 {l : Launch} {E : ce} {d : Nat}  {a0 : Nat} {a1 : Int32} {a2 : Int32} {a3 : Int32} {μ : mm} {r : Int32 × mm} {Q : Option Value → mm → Prop} (h : f_12_sheet_b28 a0 a1 a2 a3 μ = some r) (k0 : kd a0 = 12) (hQ : Q (some (.int r.1)) r.2) : Rj l E (d + 2) m_12_sheet 28 [some (.ref a0), some (.int a1), some (.int a2), some (.int a3), none] [] μ Q := by
  unfold f_12_sheet_b28 at h
  refine R_iload_n (dd dt_12_sheet 15 rfl) 2 rfl rfl ?_
  refine R_iflt (dd dt_12_sheet 16 rfl) (tgt := 39) rfl (fun hc => ?_) (fun hc => ?_)
  · rw [if_pos hc] at h
    exact R_mask [true, true, true, true, false] rfl (ok_12_sheet_b39  h k0 hQ)
  · rw [if_neg hc] at h
    refine R_iload_n (dd dt_12_sheet 17 rfl) 3 rfl rfl ?_
    refine R_ifge (dd dt_12_sheet 18 rfl) (tgt := 39) rfl (fun hc => ?_) (fun hc => ?_)
    · rw [if_pos hc] at h
      exact R_mask [true, true, true, true, false] rfl (ok_12_sheet_b39  h k0 hQ)
    · rw [if_neg hc] at h
      refine R_bipush (v := (-14)) (dd dt_12_sheet 19 rfl) bp_m14 ?_
      obtain rfl := Option.some.inj h
      exact R_iret rfl (dd dt_12_sheet 20 rfl) hQ
def f_12_sheet (a0 : Nat) (a1 : Int32) (a2 : Int32) (a3 : Int32) (μ : mm) : Option (Int32 × mm) :=
  (f_12_isFour a1 μ).bind fun x2 =>
  if x2 = 0 then
    some ((-1), μ)
  else
    (f_12_within a2 (-1) 4 μ).bind fun x4 =>
    if x4 = 0 then
      some ((-1), μ)
    else
      if a2 < 0 then
        f_12_sheet_b28 a0 a1 a2 a3 μ
      else
        if a3 ≤ 40 then
          f_12_sheet_b28 a0 a1 a2 a3 μ
        else
          some ((-1), μ)
set_option maxRecDepth 100000 in
set_option maxHeartbeats 4000000 in
theorem ok_12_sheet {l : Launch} {E : ce} {d : Nat}  {a0 : Nat} {a1 : Int32} {a2 : Int32} {a3 : Int32} {μ : mm} {r : Int32 × mm} {Q : Option Value → mm → Prop} (h : f_12_sheet a0 a1 a2 a3 μ = some r) (k0 : kd a0 = 12) (hQ : Q (some (.int r.1)) r.2) : Ct l E (d + 2) yX12_sheet m_12_sheet [.ref a0, .int a1, .int a2, .int a3] μ Q := by
  refine Ct_of (lv := [some (.ref a0), some (.int a1), some (.int a2), some (.int a3), none]) (by decide) rfl (Nat.le_of_ble_eq_true rfl) rfl ?_
  unfold f_12_sheet at h
  refine R_iload_n (dd dt_12_sheet 0 rfl) 1 rfl rfl ?_
  obtain ⟨x2, e1, h⟩ := bi_el h
  refine c_12_302 (As := [.int a1]) (st1 := [.int x2]) rfl (fun Q1 hq => ok_12_isFour e1 hq) rfl rfl (Nat.le_of_ble_eq_true rfl) (dd dt_12_sheet 1 rfl) rfl ?_
  refine R_ifeq (dd dt_12_sheet 2 rfl) (tgt := 26) rfl (fun hc => ?_) (fun hc => ?_)
  · rw [if_pos hc] at h
    refine R_iconst (v := (-1)) (dd dt_12_sheet 13 rfl) ic_m1 ?_
    obtain rfl := Option.some.inj h
    exact R_iret rfl (dd dt_12_sheet 14 rfl) hQ
  · rw [if_neg hc] at h
    refine R_iload_n (dd dt_12_sheet 3 rfl) 2 rfl rfl ?_
    refine R_iconst (v := (-1)) (dd dt_12_sheet 4 rfl) ic_m1 ?_
    refine R_iconst (v := 4) (dd dt_12_sheet 5 rfl) ic_4 ?_
    obtain ⟨x4, e3, h⟩ := bi_el h
    refine c_12_80 (As := [.int a2, .int (-1), .int 4]) (st1 := [.int x4]) rfl (fun Q1 hq => ok_12_within e3 hq) rfl rfl (Nat.le_of_ble_eq_true rfl) (dd dt_12_sheet 6 rfl) rfl ?_
    refine R_ifeq (dd dt_12_sheet 7 rfl) (tgt := 26) rfl (fun hc => ?_) (fun hc => ?_)
    · rw [if_pos hc] at h
      refine R_iconst (v := (-1)) (dd dt_12_sheet 13 rfl) ic_m1 ?_
      obtain rfl := Option.some.inj h
      exact R_iret rfl (dd dt_12_sheet 14 rfl) hQ
    · rw [if_neg hc] at h
      refine R_iload_n (dd dt_12_sheet 8 rfl) 2 rfl rfl ?_
      refine R_iflt (dd dt_12_sheet 9 rfl) (tgt := 28) rfl (fun hc => ?_) (fun hc => ?_)
      · rw [if_pos hc] at h
        exact R_mask [true, true, true, true, false] rfl (ok_12_sheet_b28  h k0 hQ)
      · rw [if_neg hc] at h
        refine R_iload_n (dd dt_12_sheet 10 rfl) 3 rfl rfl ?_
        refine R_bipush (v := 40) (dd dt_12_sheet 11 rfl) bp_40 ?_
        refine R_cmple (dd dt_12_sheet 12 rfl) (tgt := 28) rfl (fun hc => ?_) (fun hc => ?_)
        · rw [if_pos hc] at h
          exact R_mask [true, true, true, true, false] rfl (ok_12_sheet_b28  h k0 hQ)
        · rw [if_neg hc] at h
          refine R_iconst (v := (-1)) (dd dt_12_sheet 13 rfl) ic_m1 ?_
          obtain rfl := Option.some.inj h
          exact R_iret rfl (dd dt_12_sheet 14 rfl) hQ
/-! LongStrikeModel.put(III)I -/
def tab_12_put : List (Nat × Instr × Nat) := [(0, .iload_n 1, 1), (1, .invokestatic 302, 3), (4, .ifCond .ne 5, 3), (7, .iconst (-1), 1), (8, .ireturn, 1), (9, .aload_n 0, 1), (10, .getfield 59, 3), (13, .iload_n 1, 1), (14, .iaload, 1), (15, .ifCond .ge 6, 3), (18, .bipush (-11), 2), (20, .ireturn, 1), (21, .iload_n 2, 1), (22, .iconst 0, 1), (23, .aload_n 0, 1), (24, .getfield 62, 3), (27, .iload_n 1, 1), (28, .iaload, 1), (29, .iconst 1, 1), (30, .isub, 1), (31, .invokestatic 80, 3), (34, .ifCond .ne 6, 3), (37, .bipush (-12), 2), (39, .ireturn, 1), (40, .aload_n 0, 1), (41, .getfield 65, 3), (44, .bipush 40, 2), (46, .iload_n 1, 1), (47, .imul, 1), (48, .iload_n 2, 1), (49, .iadd, 1), (50, .aload_n 0, 1), (51, .getfield 59, 3), (54, .iload_n 1, 1), (55, .iaload, 1), (56, .ifCond .ne 8, 3), (59, .iload_n 3, 1), (60, .i2b, 1), (61, .goto 41, 3), (64, .aload_n 0, 1), (65, .getfield 59, 3), (68, .iload_n 1, 1), (69, .iaload, 1), (70, .iconst 1, 1), (71, .if_icmp .ne 8, 3), (74, .iload_n 3, 1), (75, .i2s, 1), (76, .goto 26, 3), (79, .aload_n 0, 1), (80, .getfield 59, 3), (83, .iload_n 1, 1), (84, .iaload, 1), (85, .iconst 4, 1), (86, .if_icmp .ne 15, 3), (89, .iload_n 3, 1), (90, .ifCond .eq 7, 3), (93, .iconst 1, 1), (94, .goto 8, 3), (97, .iconst 0, 1), (98, .goto 4, 3), (101, .iload_n 3, 1), (102, .iastore, 1), (103, .iconst 1, 1), (104, .ireturn, 1)]
set_option maxRecDepth 100000 in
theorem dt_12_put : ∀ q ∈ tab_12_put, decode m_12_put.2.1 q.1 = .ok q.2 := by decide +kernel
def f_12_put (a0 : Nat) (a1 : Int32) (a2 : Int32) (a3 : Int32) (μ : mm) : Option (Int32 × mm) :=
  (f_12_isFour a1 μ).bind fun x2 =>
  if x2 = 0 then
    some ((-1), μ)
  else
    (ld μ (rf a0 26) a1).bind fun x3 =>
    if 0 ≤ x3 then
      (ld μ (rf a0 27) a1).bind fun x5 =>
      (f_12_within a2 0 (x5 - 1) μ).bind fun x8 =>
      if x8 = 0 then
        some ((-12), μ)
      else
        (ld μ (rf a0 26) a1).bind fun x9 =>
        (if x9 = 0 then
            some a3.toInt8.toInt32
          else
            (ld μ (rf a0 26) a1).bind fun x11 =>
            if x11 = 1 then
              some a3.toInt16.toInt32
            else
              (ld μ (rf a0 26) a1).bind fun x13 =>
              if x13 = 4 then
                if a3 = 0 then
                  some 0
                else
                  some 1
              else
                some a3).bind fun (z15 : Int32) =>
        (sto μ (rf a0 28) ((40 * a1) + a2) z15).bind fun μ16 =>
        some (1, μ16)
    else
      some ((-11), μ)
set_option maxRecDepth 100000 in
set_option maxHeartbeats 4000000 in
theorem ok_12_put {l : Launch} {E : ce} {d : Nat}  {a0 : Nat} {a1 : Int32} {a2 : Int32} {a3 : Int32} {μ : mm} {r : Int32 × mm} {Q : Option Value → mm → Prop} (h : f_12_put a0 a1 a2 a3 μ = some r) (k0 : kd a0 = 12) (hQ : Q (some (.int r.1)) r.2) : Ct l E (d + 2) yX12_put m_12_put [.ref a0, .int a1, .int a2, .int a3] μ Q := by
  refine Ct_of (lv := [some (.ref a0), some (.int a1), some (.int a2), some (.int a3)]) (by decide) rfl (Nat.le_of_ble_eq_true rfl) rfl ?_
  unfold f_12_put at h
  refine R_iload_n (dd dt_12_put 0 rfl) 1 rfl rfl ?_
  obtain ⟨x2, e1, h⟩ := bi_el h
  refine c_12_302 (As := [.int a1]) (st1 := [.int x2]) rfl (fun Q1 hq => ok_12_isFour e1 hq) rfl rfl (Nat.le_of_ble_eq_true rfl) (dd dt_12_put 1 rfl) rfl ?_
  refine R_ifne (dd dt_12_put 2 rfl) (tgt := 9) rfl (fun hc => ?_) (fun hc => ?_)
  · rw [if_neg hc] at h
    refine R_aload_n (dd dt_12_put 5 rfl) 0 rfl rfl ?_
    refine g_12_59 rfl k0 (dd dt_12_put 6 rfl) ?_
    refine R_iload_n (dd dt_12_put 7 rfl) 1 rfl rfl ?_
    obtain ⟨x3, e4, h⟩ := bi_el h
    refine R_ild e4 (ty_12_26 k0) (dd dt_12_put 8 rfl) ?_
    refine R_ifge (dd dt_12_put 9 rfl) (tgt := 21) rfl (fun hc => ?_) (fun hc => ?_)
    · rw [if_pos hc] at h
      refine R_iload_n (dd dt_12_put 12 rfl) 2 rfl rfl ?_
      refine R_iconst (v := 0) (dd dt_12_put 13 rfl) ic_0 ?_
      refine R_aload_n (dd dt_12_put 14 rfl) 0 rfl rfl ?_
      refine g_12_62 rfl k0 (dd dt_12_put 15 rfl) ?_
      refine R_iload_n (dd dt_12_put 16 rfl) 1 rfl rfl ?_
      obtain ⟨x5, e6, h⟩ := bi_el h
      refine R_ild e6 (ty_12_27 k0) (dd dt_12_put 17 rfl) ?_
      refine R_iconst (v := 1) (dd dt_12_put 18 rfl) ic_1 ?_
      refine R_isub (dd dt_12_put 19 rfl) ?_
      obtain ⟨x8, e7, h⟩ := bi_el h
      refine c_12_80 (As := [.int a2, .int 0, .int (x5 - 1)]) (st1 := [.int x8]) rfl (fun Q1 hq => ok_12_within e7 hq) rfl rfl (Nat.le_of_ble_eq_true rfl) (dd dt_12_put 20 rfl) rfl ?_
      refine R_ifne (dd dt_12_put 21 rfl) (tgt := 40) rfl (fun hc => ?_) (fun hc => ?_)
      · rw [if_neg hc] at h
        refine R_aload_n (dd dt_12_put 24 rfl) 0 rfl rfl ?_
        refine g_12_65 rfl k0 (dd dt_12_put 25 rfl) ?_
        refine R_bipush (v := 40) (dd dt_12_put 26 rfl) bp_40 ?_
        refine R_iload_n (dd dt_12_put 27 rfl) 1 rfl rfl ?_
        refine R_imul (dd dt_12_put 28 rfl) ?_
        refine R_iload_n (dd dt_12_put 29 rfl) 2 rfl rfl ?_
        refine R_iadd (dd dt_12_put 30 rfl) ?_
        refine R_aload_n (dd dt_12_put 31 rfl) 0 rfl rfl ?_
        refine g_12_59 rfl k0 (dd dt_12_put 32 rfl) ?_
        refine R_iload_n (dd dt_12_put 33 rfl) 1 rfl rfl ?_
        obtain ⟨x9, e10, h⟩ := bi_el h
        refine R_ild e10 (ty_12_26 k0) (dd dt_12_put 34 rfl) ?_
        obtain ⟨z15, hz15, h⟩ := bi_el h
        have K15 : Rj l E (d + 2) m_12_put 102 [none, none, none, none] [.int z15, .int ((40 * a1) + a2), .ref (rf a0 28)] μ Q := by
          clear hz15
          obtain ⟨μ16, e17, h⟩ := bi_el h
          refine R_isto e17 (ty_12_28 k0) (dd dt_12_put 61 rfl) ?_
          refine R_iconst (v := 1) (dd dt_12_put 62 rfl) ic_1 ?_
          obtain rfl := Option.some.inj h
          exact R_iret rfl (dd dt_12_put 63 rfl) hQ
        clear h
        have h := hz15
        clear hz15
        refine R_ifne (dd dt_12_put 35 rfl) (tgt := 64) rfl (fun hc => ?_) (fun hc => ?_)
        · rw [if_neg hc] at h
          refine R_aload_n (dd dt_12_put 39 rfl) 0 rfl rfl ?_
          refine g_12_59 rfl k0 (dd dt_12_put 40 rfl) ?_
          refine R_iload_n (dd dt_12_put 41 rfl) 1 rfl rfl ?_
          obtain ⟨x11, e12, h⟩ := bi_el h
          refine R_ild e12 (ty_12_26 k0) (dd dt_12_put 42 rfl) ?_
          refine R_iconst (v := 1) (dd dt_12_put 43 rfl) ic_1 ?_
          refine R_cmpne (dd dt_12_put 44 rfl) (tgt := 79) rfl (fun hc => ?_) (fun hc => ?_)
          · rw [if_neg hc] at h
            refine R_aload_n (dd dt_12_put 48 rfl) 0 rfl rfl ?_
            refine g_12_59 rfl k0 (dd dt_12_put 49 rfl) ?_
            refine R_iload_n (dd dt_12_put 50 rfl) 1 rfl rfl ?_
            obtain ⟨x13, e14, h⟩ := bi_el h
            refine R_ild e14 (ty_12_26 k0) (dd dt_12_put 51 rfl) ?_
            refine R_iconst (v := 4) (dd dt_12_put 52 rfl) ic_4 ?_
            refine R_cmpne (dd dt_12_put 53 rfl) (tgt := 101) rfl (fun hc => ?_) (fun hc => ?_)
            · rw [if_neg hc] at h
              refine R_iload_n (dd dt_12_put 60 rfl) 3 rfl rfl ?_
              obtain rfl := Option.some.inj h
              exact R_mask [false, false, false, false] rfl K15
            · rw [if_pos hc] at h
              refine R_iload_n (dd dt_12_put 54 rfl) 3 rfl rfl ?_
              refine R_ifeq (dd dt_12_put 55 rfl) (tgt := 97) rfl (fun hc => ?_) (fun hc => ?_)
              · rw [if_pos hc] at h
                refine R_iconst (v := 0) (dd dt_12_put 58 rfl) ic_0 ?_
                refine R_goto (dd dt_12_put 59 rfl) (tgt := 102) rfl ?_
                obtain rfl := Option.some.inj h
                exact R_mask [false, false, false, false] rfl K15
              · rw [if_neg hc] at h
                refine R_iconst (v := 1) (dd dt_12_put 56 rfl) ic_1 ?_
                refine R_goto (dd dt_12_put 57 rfl) (tgt := 102) rfl ?_
                obtain rfl := Option.some.inj h
                exact R_mask [false, false, false, false] rfl K15
          · rw [if_pos hc] at h
            refine R_iload_n (dd dt_12_put 45 rfl) 3 rfl rfl ?_
            refine R_i2s (dd dt_12_put 46 rfl) ?_
            refine R_goto (dd dt_12_put 47 rfl) (tgt := 102) rfl ?_
            obtain rfl := Option.some.inj h
            exact R_mask [false, false, false, false] rfl K15
        · rw [if_pos hc] at h
          refine R_iload_n (dd dt_12_put 36 rfl) 3 rfl rfl ?_
          refine R_i2b (dd dt_12_put 37 rfl) ?_
          refine R_goto (dd dt_12_put 38 rfl) (tgt := 102) rfl ?_
          obtain rfl := Option.some.inj h
          exact R_mask [false, false, false, false] rfl K15
      · rw [if_pos hc] at h
        refine R_bipush (v := (-12)) (dd dt_12_put 22 rfl) bp_m12 ?_
        obtain rfl := Option.some.inj h
        exact R_iret rfl (dd dt_12_put 23 rfl) hQ
    · rw [if_neg hc] at h
      refine R_bipush (v := (-11)) (dd dt_12_put 10 rfl) bp_m11 ?_
      obtain rfl := Option.some.inj h
      exact R_iret rfl (dd dt_12_put 11 rfl) hQ
  · rw [if_pos hc] at h
    refine R_iconst (v := (-1)) (dd dt_12_put 3 rfl) ic_m1 ?_
    obtain rfl := Option.some.inj h
    exact R_iret rfl (dd dt_12_put 4 rfl) hQ
/-! LongStrikeModel.notThere(IIII)I -/
def tab_12_notThere : List (Nat × Instr × Nat) := [(0, .aload_n 0, 1), (1, .getfield 59, 3), (4, .iload_n 1, 1), (5, .iaload, 1), (6, .ifCond .ge 8, 3), (9, .bipush (-11), 2), (11, .goto 45, 3), (14, .aload_n 0, 1), (15, .getfield 59, 3), (18, .iload_n 1, 1), (19, .iaload, 1), (20, .iload_n 2, 1), (21, .if_icmp .eq 8, 3), (24, .bipush (-13), 2), (26, .goto 30, 3), (29, .iload_n 3, 1), (30, .ifCond .lt 20, 3), (33, .iload 4, 2), (35, .aload_n 0, 1), (36, .getfield 62, 3), (39, .iload_n 1, 1), (40, .iaload, 1), (41, .if_icmp .ge 9, 3), (44, .iload 4, 2), (46, .iload_n 3, 1), (47, .if_icmp .ge 8, 3), (50, .bipush (-12), 2), (52, .goto 4, 3), (55, .iconst 0, 1), (56, .ireturn, 1)]
set_option maxRecDepth 100000 in
theorem dt_12_notThere : ∀ q ∈ tab_12_notThere, decode m_12_notThere.2.1 q.1 = .ok q.2 := by decide +kernel
def f_12_notThere (a0 : Nat) (a1 : Int32) (a2 : Int32) (a3 : Int32) (a4 : Int32) (μ : mm) : Option (Int32) :=
  (ld μ (rf a0 26) a1).bind fun x1 =>
  if 0 ≤ x1 then
    (ld μ (rf a0 26) a1).bind fun x3 =>
    if x3 = a2 then
      if a3 < 0 then
        some (-12)
      else
        (ld μ (rf a0 27) a1).bind fun x5 =>
        if x5 ≤ a4 then
          some (-12)
        else
          if a3 ≤ a4 then
            some 0
          else
            some (-12)
    else
      some (-13)
  else
    some (-11)
set_option maxRecDepth 100000 in
set_option maxHeartbeats 4000000 in
theorem ok_12_notThere {l : Launch} {E : ce} {d : Nat}  {a0 : Nat} {a1 : Int32} {a2 : Int32} {a3 : Int32} {a4 : Int32} {μ : mm} {r : Int32} {Q : Option Value → mm → Prop} (h : f_12_notThere a0 a1 a2 a3 a4 μ = some r) (k0 : kd a0 = 12) (hQ : Q (some (.int r)) μ) : Ct l E d yX12_notThere m_12_notThere [.ref a0, .int a1, .int a2, .int a3, .int a4] μ Q := by
  refine Ct_of (lv := [some (.ref a0), some (.int a1), some (.int a2), some (.int a3), some (.int a4)]) (by decide) rfl (Nat.le_of_ble_eq_true rfl) rfl ?_
  unfold f_12_notThere at h
  refine R_aload_n (dd dt_12_notThere 0 rfl) 0 rfl rfl ?_
  refine g_12_59 rfl k0 (dd dt_12_notThere 1 rfl) ?_
  refine R_iload_n (dd dt_12_notThere 2 rfl) 1 rfl rfl ?_
  obtain ⟨x1, e2, h⟩ := bi_el h
  refine R_ild e2 (ty_12_26 k0) (dd dt_12_notThere 3 rfl) ?_
  refine R_ifge (dd dt_12_notThere 4 rfl) (tgt := 14) rfl (fun hc => ?_) (fun hc => ?_)
  · rw [if_pos hc] at h
    refine R_aload_n (dd dt_12_notThere 7 rfl) 0 rfl rfl ?_
    refine g_12_59 rfl k0 (dd dt_12_notThere 8 rfl) ?_
    refine R_iload_n (dd dt_12_notThere 9 rfl) 1 rfl rfl ?_
    obtain ⟨x3, e4, h⟩ := bi_el h
    refine R_ild e4 (ty_12_26 k0) (dd dt_12_notThere 10 rfl) ?_
    refine R_iload_n (dd dt_12_notThere 11 rfl) 2 rfl rfl ?_
    refine R_cmpeq (dd dt_12_notThere 12 rfl) (tgt := 29) rfl (fun hc => ?_) (fun hc => ?_)
    · rw [if_pos hc] at h
      refine R_iload_n (dd dt_12_notThere 15 rfl) 3 rfl rfl ?_
      refine R_iflt (dd dt_12_notThere 16 rfl) (tgt := 50) rfl (fun hc => ?_) (fun hc => ?_)
      · rw [if_pos hc] at h
        refine R_bipush (v := (-12)) (dd dt_12_notThere 26 rfl) bp_m12 ?_
        refine R_goto (dd dt_12_notThere 27 rfl) (tgt := 56) rfl ?_
        obtain rfl := Option.some.inj h
        exact R_iret rfl (dd dt_12_notThere 29 rfl) hQ
      · rw [if_neg hc] at h
        refine R_iload (dd dt_12_notThere 17 rfl) rfl ?_
        refine R_aload_n (dd dt_12_notThere 18 rfl) 0 rfl rfl ?_
        refine g_12_62 rfl k0 (dd dt_12_notThere 19 rfl) ?_
        refine R_iload_n (dd dt_12_notThere 20 rfl) 1 rfl rfl ?_
        obtain ⟨x5, e6, h⟩ := bi_el h
        refine R_ild e6 (ty_12_27 k0) (dd dt_12_notThere 21 rfl) ?_
        refine R_cmpge (dd dt_12_notThere 22 rfl) (tgt := 50) rfl (fun hc => ?_) (fun hc => ?_)
        · rw [if_pos hc] at h
          refine R_bipush (v := (-12)) (dd dt_12_notThere 26 rfl) bp_m12 ?_
          refine R_goto (dd dt_12_notThere 27 rfl) (tgt := 56) rfl ?_
          obtain rfl := Option.some.inj h
          exact R_iret rfl (dd dt_12_notThere 29 rfl) hQ
        · rw [if_neg hc] at h
          refine R_iload (dd dt_12_notThere 23 rfl) rfl ?_
          refine R_iload_n (dd dt_12_notThere 24 rfl) 3 rfl rfl ?_
          refine R_cmpge (dd dt_12_notThere 25 rfl) (tgt := 55) rfl (fun hc => ?_) (fun hc => ?_)
          · rw [if_pos hc] at h
            refine R_iconst (v := 0) (dd dt_12_notThere 28 rfl) ic_0 ?_
            obtain rfl := Option.some.inj h
            exact R_iret rfl (dd dt_12_notThere 29 rfl) hQ
          · rw [if_neg hc] at h
            refine R_bipush (v := (-12)) (dd dt_12_notThere 26 rfl) bp_m12 ?_
            refine R_goto (dd dt_12_notThere 27 rfl) (tgt := 56) rfl ?_
            obtain rfl := Option.some.inj h
            exact R_iret rfl (dd dt_12_notThere 29 rfl) hQ
    · rw [if_neg hc] at h
      refine R_bipush (v := (-13)) (dd dt_12_notThere 13 rfl) bp_m13 ?_
      refine R_goto (dd dt_12_notThere 14 rfl) (tgt := 56) rfl ?_
      obtain rfl := Option.some.inj h
      exact R_iret rfl (dd dt_12_notThere 29 rfl) hQ
  · rw [if_neg hc] at h
    refine R_bipush (v := (-11)) (dd dt_12_notThere 5 rfl) bp_m11 ?_
    refine R_goto (dd dt_12_notThere 6 rfl) (tgt := 56) rfl ?_
    obtain rfl := Option.some.inj h
    exact R_iret rfl (dd dt_12_notThere 29 rfl) hQ
/-! LongStrikeModel.item(III)I -/
def tab_12_item : List (Nat × Instr × Nat) := [(0, .iload_n 1, 1), (1, .invokestatic 302, 3), (4, .ifCond .eq 12, 3), (7, .iload_n 2, 1), (8, .iconst 0, 1), (9, .iconst 4, 1), (10, .invokestatic 80, 3), (13, .ifCond .ne 5, 3), (16, .iconst (-1), 1), (17, .ireturn, 1), (18, .aload_n 0, 1), (19, .iload_n 1, 1), (20, .iload_n 2, 1), (21, .iload_n 3, 1), (22, .iload_n 3, 1), (23, .invokevirtual 305, 3), (26, .istore 4, 2), (28, .iload 4, 2), (30, .ifCond .eq 8, 3), (33, .iload 4, 2), (35, .goto 14, 3), (38, .aload_n 0, 1), (39, .getfield 65, 3), (42, .bipush 40, 2), (44, .iload_n 1, 1), (45, .imul, 1), (46, .iload_n 3, 1), (47, .iadd, 1), (48, .iaload, 1), (49, .ireturn, 1)]
set_option maxRecDepth 100000 in
theorem dt_12_item : ∀ q ∈ tab_12_item, decode m_12_item.2.1 q.1 = .ok q.2 := by decide +kernel
def f_12_item (a0 : Nat) (a1 : Int32) (a2 : Int32) (a3 : Int32) (μ : mm) : Option (Int32) :=
  (f_12_isFour a1 μ).bind fun x2 =>
  if x2 = 0 then
    some (-1)
  else
    (f_12_within a2 0 4 μ).bind fun x4 =>
    if x4 = 0 then
      some (-1)
    else
      (f_12_notThere a0 a1 a2 a3 a3 μ).bind fun x6 =>
      if x6 = 0 then
        (ld μ (rf a0 28) ((40 * a1) + a3)).bind fun x7 =>
        some x7
      else
        some x6
set_option maxRecDepth 100000 in
set_option maxHeartbeats 4000000 in
theorem ok_12_item {l : Launch} {E : ce} {d : Nat}  {a0 : Nat} {a1 : Int32} {a2 : Int32} {a3 : Int32} {μ : mm} {r : Int32} {Q : Option Value → mm → Prop} (h : f_12_item a0 a1 a2 a3 μ = some r) (k0 : kd a0 = 12) (hQ : Q (some (.int r)) μ) : Ct l E (d + 2) yX12_item m_12_item [.ref a0, .int a1, .int a2, .int a3] μ Q := by
  refine Ct_of (lv := [some (.ref a0), some (.int a1), some (.int a2), some (.int a3), none]) (by decide) rfl (Nat.le_of_ble_eq_true rfl) rfl ?_
  unfold f_12_item at h
  refine R_iload_n (dd dt_12_item 0 rfl) 1 rfl rfl ?_
  obtain ⟨x2, e1, h⟩ := bi_el h
  refine c_12_302 (As := [.int a1]) (st1 := [.int x2]) rfl (fun Q1 hq => ok_12_isFour e1 hq) rfl rfl (Nat.le_of_ble_eq_true rfl) (dd dt_12_item 1 rfl) rfl ?_
  refine R_ifeq (dd dt_12_item 2 rfl) (tgt := 16) rfl (fun hc => ?_) (fun hc => ?_)
  · rw [if_pos hc] at h
    refine R_iconst (v := (-1)) (dd dt_12_item 8 rfl) ic_m1 ?_
    obtain rfl := Option.some.inj h
    exact R_iret rfl (dd dt_12_item 9 rfl) hQ
  · rw [if_neg hc] at h
    refine R_iload_n (dd dt_12_item 3 rfl) 2 rfl rfl ?_
    refine R_iconst (v := 0) (dd dt_12_item 4 rfl) ic_0 ?_
    refine R_iconst (v := 4) (dd dt_12_item 5 rfl) ic_4 ?_
    obtain ⟨x4, e3, h⟩ := bi_el h
    refine c_12_80 (As := [.int a2, .int 0, .int 4]) (st1 := [.int x4]) rfl (fun Q1 hq => ok_12_within e3 hq) rfl rfl (Nat.le_of_ble_eq_true rfl) (dd dt_12_item 6 rfl) rfl ?_
    refine R_ifne (dd dt_12_item 7 rfl) (tgt := 18) rfl (fun hc => ?_) (fun hc => ?_)
    · rw [if_neg hc] at h
      refine R_aload_n (dd dt_12_item 10 rfl) 0 rfl rfl ?_
      refine R_iload_n (dd dt_12_item 11 rfl) 1 rfl rfl ?_
      refine R_iload_n (dd dt_12_item 12 rfl) 2 rfl rfl ?_
      refine R_iload_n (dd dt_12_item 13 rfl) 3 rfl rfl ?_
      refine R_iload_n (dd dt_12_item 14 rfl) 3 rfl rfl ?_
      obtain ⟨x6, e5, h⟩ := bi_el h
      refine c_12_305 (As := [.int a1, .int a2, .int a3, .int a3]) (st1 := [.int x6]) rfl (fun Q1 hq => ok_12_notThere e5 k0 hq) k0 rfl rfl (Nat.le_of_ble_eq_true rfl) (dd dt_12_item 15 rfl) rfl ?_
      refine R_istore (lv' := [some (.ref a0), some (.int a1), some (.int a2), some (.int a3), some (.int x6)]) (dd dt_12_item 16 rfl) (by decide) rfl rfl ?_
      refine R_iload (dd dt_12_item 17 rfl) rfl ?_
      refine R_ifeq (dd dt_12_item 18 rfl) (tgt := 38) rfl (fun hc => ?_) (fun hc => ?_)
      · rw [if_pos hc] at h
        refine R_aload_n (dd dt_12_item 21 rfl) 0 rfl rfl ?_
        refine g_12_65 rfl k0 (dd dt_12_item 22 rfl) ?_
        refine R_bipush (v := 40) (dd dt_12_item 23 rfl) bp_40 ?_
        refine R_iload_n (dd dt_12_item 24 rfl) 1 rfl rfl ?_
        refine R_imul (dd dt_12_item 25 rfl) ?_
        refine R_iload_n (dd dt_12_item 26 rfl) 3 rfl rfl ?_
        refine R_iadd (dd dt_12_item 27 rfl) ?_
        obtain ⟨x7, e8, h⟩ := bi_el h
        refine R_ild e8 (ty_12_28 k0) (dd dt_12_item 28 rfl) ?_
        obtain rfl := Option.some.inj h
        exact R_iret rfl (dd dt_12_item 29 rfl) hQ
      · rw [if_neg hc] at h
        refine R_iload (dd dt_12_item 19 rfl) rfl ?_
        refine R_goto (dd dt_12_item 20 rfl) (tgt := 49) rfl ?_
        obtain rfl := Option.some.inj h
        exact R_iret rfl (dd dt_12_item 29 rfl) hQ
    · rw [if_pos hc] at h
      refine R_iconst (v := (-1)) (dd dt_12_item 8 rfl) ic_m1 ?_
      obtain rfl := Option.some.inj h
      exact R_iret rfl (dd dt_12_item 9 rfl) hQ
/-! LongStrikeModel.comes(II)I -/
def tab_12_comes : List (Nat × Instr × Nat) := [(0, .iload_n 1, 1), (1, .invokestatic 302, 3), (4, .ifCond .ne 5, 3), (7, .iconst (-1), 1), (8, .ireturn, 1), (9, .aload_n 0, 1), (10, .iload_n 1, 1), (11, .iconst 1, 1), (12, .iload_n 2, 1), (13, .iload_n 2, 1), (14, .iconst 4, 1), (15, .iadd, 1), (16, .invokevirtual 305, 3), (19, .istore_n 3, 1), (20, .bipush 40, 2), (22, .iload_n 1, 1), (23, .imul, 1), (24, .iload_n 2, 1), (25, .iadd, 1), (26, .istore 4, 2), (28, .iload_n 3, 1), (29, .ifCond .eq 7, 3), (32, .iload_n 3, 1), (33, .goto 50, 3), (36, .aload_n 0, 1), (37, .aload_n 0, 1), (38, .getfield 65, 3), (41, .iload 4, 2), (43, .iaload, 1), (44, .aload_n 0, 1), (45, .getfield 65, 3), (48, .iload 4, 2), (50, .iconst 1, 1), (51, .iadd, 1), (52, .iaload, 1), (53, .aload_n 0, 1), (54, .getfield 65, 3), (57, .iload 4, 2), (59, .iconst 2, 1), (60, .iadd, 1), (61, .iaload, 1), (62, .aload_n 0, 1), (63, .getfield 65, 3), (66, .iload 4, 2), (68, .iconst 3, 1), (69, .iadd, 1), (70, .iaload, 1), (71, .aload_n 0, 1), (72, .getfield 65, 3), (75, .iload 4, 2), (77, .iconst 4, 1), (78, .iadd, 1), (79, .iaload, 1), (80, .invokevirtual 309, 3), (83, .ireturn, 1)]
set_option maxRecDepth 100000 in
theorem dt_12_comes : ∀ q ∈ tab_12_comes, decode m_12_comes.2.1 q.1 = .ok q.2 := by decide +kernel
def f_12_comes (a0 : Nat) (a1 : Int32) (a2 : Int32) (μ : mm) : Option (Int32 × mm) :=
  (f_12_isFour a1 μ).bind fun x2 =>
  if x2 = 0 then
    some ((-1), μ)
  else
    (f_12_notThere a0 a1 1 a2 (a2 + 4) μ).bind fun x4 =>
    if x4 = 0 then
      (ld μ (rf a0 28) ((40 * a1) + a2)).bind fun x5 =>
      (ld μ (rf a0 28) (((40 * a1) + a2) + 1)).bind fun x7 =>
      (ld μ (rf a0 28) (((40 * a1) + a2) + 2)).bind fun x9 =>
      (ld μ (rf a0 28) (((40 * a1) + a2) + 3)).bind fun x11 =>
      (ld μ (rf a0 28) (((40 * a1) + a2) + 4)).bind fun x13 =>
      (f_12_household a0 x5 x7 x9 x11 x13 μ).bind fun z16 =>
      some (z16.1, z16.2)
    else
      some (x4, μ)
set_option maxRecDepth 100000 in
set_option maxHeartbeats 4000000 in
theorem ok_12_comes {l : Launch} {E : ce} {d : Nat}  {a0 : Nat} {a1 : Int32} {a2 : Int32} {μ : mm} {r : Int32 × mm} {Q : Option Value → mm → Prop} (h : f_12_comes a0 a1 a2 μ = some r) (k0 : kd a0 = 12) (hQ : Q (some (.int r.1)) r.2) : Ct l E (d + 3) yX12_comes m_12_comes [.ref a0, .int a1, .int a2] μ Q := by
  refine Ct_of (lv := [some (.ref a0), some (.int a1), some (.int a2), none, none]) (by decide) rfl (Nat.le_of_ble_eq_true rfl) rfl ?_
  unfold f_12_comes at h
  refine R_iload_n (dd dt_12_comes 0 rfl) 1 rfl rfl ?_
  obtain ⟨x2, e1, h⟩ := bi_el h
  refine c_12_302 (As := [.int a1]) (st1 := [.int x2]) rfl (fun Q1 hq => ok_12_isFour e1 hq) rfl rfl (Nat.le_of_ble_eq_true rfl) (dd dt_12_comes 1 rfl) rfl ?_
  refine R_ifne (dd dt_12_comes 2 rfl) (tgt := 9) rfl (fun hc => ?_) (fun hc => ?_)
  · rw [if_neg hc] at h
    refine R_aload_n (dd dt_12_comes 5 rfl) 0 rfl rfl ?_
    refine R_iload_n (dd dt_12_comes 6 rfl) 1 rfl rfl ?_
    refine R_iconst (v := 1) (dd dt_12_comes 7 rfl) ic_1 ?_
    refine R_iload_n (dd dt_12_comes 8 rfl) 2 rfl rfl ?_
    refine R_iload_n (dd dt_12_comes 9 rfl) 2 rfl rfl ?_
    refine R_iconst (v := 4) (dd dt_12_comes 10 rfl) ic_4 ?_
    refine R_iadd (dd dt_12_comes 11 rfl) ?_
    obtain ⟨x4, e3, h⟩ := bi_el h
    refine c_12_305 (As := [.int a1, .int 1, .int a2, .int (a2 + 4)]) (st1 := [.int x4]) rfl (fun Q1 hq => ok_12_notThere e3 k0 hq) k0 rfl rfl (Nat.le_of_ble_eq_true rfl) (dd dt_12_comes 12 rfl) rfl ?_
    refine R_istore_n (lv' := [some (.ref a0), some (.int a1), some (.int a2), some (.int x4), none]) (dd dt_12_comes 13 rfl) 3 rfl (by decide) rfl rfl ?_
    refine R_bipush (v := 40) (dd dt_12_comes 14 rfl) bp_40 ?_
    refine R_iload_n (dd dt_12_comes 15 rfl) 1 rfl rfl ?_
    refine R_imul (dd dt_12_comes 16 rfl) ?_
    refine R_iload_n (dd dt_12_comes 17 rfl) 2 rfl rfl ?_
    refine R_iadd (dd dt_12_comes 18 rfl) ?_
    refine R_istore (lv' := [some (.ref a0), some (.int a1), some (.int a2), some (.int x4), some (.int ((40 * a1) + a2))]) (dd dt_12_comes 19 rfl) (by decide) rfl rfl ?_
    refine R_iload_n (dd dt_12_comes 20 rfl) 3 rfl rfl ?_
    refine R_ifeq (dd dt_12_comes 21 rfl) (tgt := 36) rfl (fun hc => ?_) (fun hc => ?_)
    · rw [if_pos hc] at h
      refine R_aload_n (dd dt_12_comes 24 rfl) 0 rfl rfl ?_
      refine R_aload_n (dd dt_12_comes 25 rfl) 0 rfl rfl ?_
      refine g_12_65 rfl k0 (dd dt_12_comes 26 rfl) ?_
      refine R_iload (dd dt_12_comes 27 rfl) rfl ?_
      obtain ⟨x5, e6, h⟩ := bi_el h
      refine R_ild e6 (ty_12_28 k0) (dd dt_12_comes 28 rfl) ?_
      refine R_aload_n (dd dt_12_comes 29 rfl) 0 rfl rfl ?_
      refine g_12_65 rfl k0 (dd dt_12_comes 30 rfl) ?_
      refine R_iload (dd dt_12_comes 31 rfl) rfl ?_
      refine R_iconst (v := 1) (dd dt_12_comes 32 rfl) ic_1 ?_
      refine R_iadd (dd dt_12_comes 33 rfl) ?_
      obtain ⟨x7, e8, h⟩ := bi_el h
      refine R_ild e8 (ty_12_28 k0) (dd dt_12_comes 34 rfl) ?_
      refine R_aload_n (dd dt_12_comes 35 rfl) 0 rfl rfl ?_
      refine g_12_65 rfl k0 (dd dt_12_comes 36 rfl) ?_
      refine R_iload (dd dt_12_comes 37 rfl) rfl ?_
      refine R_iconst (v := 2) (dd dt_12_comes 38 rfl) ic_2 ?_
      refine R_iadd (dd dt_12_comes 39 rfl) ?_
      obtain ⟨x9, e10, h⟩ := bi_el h
      refine R_ild e10 (ty_12_28 k0) (dd dt_12_comes 40 rfl) ?_
      refine R_aload_n (dd dt_12_comes 41 rfl) 0 rfl rfl ?_
      refine g_12_65 rfl k0 (dd dt_12_comes 42 rfl) ?_
      refine R_iload (dd dt_12_comes 43 rfl) rfl ?_
      refine R_iconst (v := 3) (dd dt_12_comes 44 rfl) ic_3 ?_
      refine R_iadd (dd dt_12_comes 45 rfl) ?_
      obtain ⟨x11, e12, h⟩ := bi_el h
      refine R_ild e12 (ty_12_28 k0) (dd dt_12_comes 46 rfl) ?_
      refine R_aload_n (dd dt_12_comes 47 rfl) 0 rfl rfl ?_
      refine g_12_65 rfl k0 (dd dt_12_comes 48 rfl) ?_
      refine R_iload (dd dt_12_comes 49 rfl) rfl ?_
      refine R_iconst (v := 4) (dd dt_12_comes 50 rfl) ic_4 ?_
      refine R_iadd (dd dt_12_comes 51 rfl) ?_
      obtain ⟨x13, e14, h⟩ := bi_el h
      refine R_ild e14 (ty_12_28 k0) (dd dt_12_comes 52 rfl) ?_
      obtain ⟨z16, e15, h⟩ := bi_el h
      refine c_12_309 (As := [.int x5, .int x7, .int x9, .int x11, .int x13]) (st1 := [.int z16.1]) rfl (fun Q1 hq => ok_12_household e15 k0 hq) k0 rfl rfl (Nat.le_of_ble_eq_true rfl) (dd dt_12_comes 53 rfl) rfl ?_
      obtain rfl := Option.some.inj h
      exact R_iret rfl (dd dt_12_comes 54 rfl) hQ
    · rw [if_neg hc] at h
      refine R_iload_n (dd dt_12_comes 22 rfl) 3 rfl rfl ?_
      refine R_goto (dd dt_12_comes 23 rfl) (tgt := 83) rfl ?_
      obtain rfl := Option.some.inj h
      exact R_iret rfl (dd dt_12_comes 54 rfl) hQ
  · rw [if_pos hc] at h
    refine R_iconst (v := (-1)) (dd dt_12_comes 3 rfl) ic_m1 ?_
    obtain rfl := Option.some.inj h
    exact R_iret rfl (dd dt_12_comes 4 rfl) hQ
/-! LongStrikeModel.shelf(III)I -/
def tab_12_shelf : List (Nat × Instr × Nat) := [(0, .iload_n 2, 1), (1, .ifCond .ne 13, 3), (4, .aload_n 0, 1), (5, .iload_n 3, 1), (6, .bipush 11, 2), (8, .invokevirtual 84, 3), (11, .goto 50, 3), (14, .iload_n 2, 1), (15, .iconst 1, 1), (16, .if_icmp .ne 13, 3), (19, .aload_n 0, 1), (20, .iload_n 3, 1), (21, .bipush 10, 2), (23, .invokevirtual 84, 3), (26, .goto 35, 3), (29, .iload_n 2, 1), (30, .iconst 2, 1), (31, .if_icmp .ne 13, 3), (34, .aload_n 0, 1), (35, .iload_n 3, 1), (36, .bipush 9, 2), (38, .invokevirtual 84, 3), (41, .goto 20, 3), (44, .iload_n 2, 1), (45, .iconst 3, 1), (46, .if_icmp .ne 10, 3), (49, .iload_n 3, 1), (50, .invokestatic 302, 3), (53, .ifCond .eq 7, 3), (56, .iconst 1, 1), (57, .goto 4, 3), (60, .iconst 0, 1), (61, .istore 4, 2), (63, .iload_n 1, 1), (64, .invokestatic 302, 3), (67, .ifCond .eq 17, 3), (70, .iload_n 2, 1), (71, .iconst 0, 1), (72, .iconst 4, 1), (73, .invokestatic 80, 3), (76, .ifCond .eq 8, 3), (79, .iload 4, 2), (81, .ifCond .ne 5, 3), (84, .iconst (-1), 1), (85, .ireturn, 1), (86, .iload_n 2, 1), (87, .iconst 4, 1), (88, .if_icmp .eq 17, 3), (91, .iload_n 2, 1), (92, .iconst 3, 1), (93, .if_icmp .ne 16, 3), (96, .aload_n 0, 1), (97, .getfield 59, 3), (100, .iload_n 3, 1), (101, .iaload, 1), (102, .ifCond .ge 7, 3), (105, .iconst 1, 1), (106, .goto 4, 3), (109, .iconst 0, 1), (110, .istore 5, 2), (112, .aload_n 0, 1), (113, .getfield 68, 3), (116, .iload_n 1, 1), (117, .iload 5, 2), (119, .ifCond .eq 7, 3), (122, .iconst 0, 1), (123, .goto 6, 3), (126, .iload_n 2, 1), (127, .iconst 1, 1), (128, .iadd, 1), (129, .iastore, 1), (130, .aload_n 0, 1), (131, .getfield 71, 3), (134, .iload_n 1, 1), (135, .iload 5, 2), (137, .ifCond .eq 7, 3), (140, .iconst 0, 1), (141, .goto 18, 3), (144, .iload_n 2, 1), (145, .iconst 3, 1), (146, .if_icmp .ne 12, 3), (149, .aload_n 0, 1), (150, .getfield 59, 3), (153, .iload_n 3, 1), (154, .iaload, 1), (155, .goto 4, 3), (158, .iload_n 3, 1), (159, .iastore, 1), (160, .aload_n 0, 1), (161, .getfield 74, 3), (164, .iload_n 1, 1), (165, .iload 5, 2), (167, .ifCond .ne 8, 3), (170, .iload_n 2, 1), (171, .iconst 3, 1), (172, .if_icmp .ge 7, 3), (175, .iconst 0, 1), (176, .goto 9, 3), (179, .aload_n 0, 1), (180, .getfield 62, 3), (183, .iload_n 3, 1), (184, .iaload, 1), (185, .iastore, 1), (186, .iconst 1, 1), (187, .ireturn, 1)]
set_option maxRecDepth 100000 in
theorem dt_12_shelf : ∀ q ∈ tab_12_shelf, decode m_12_shelf.2.1 q.1 = .ok q.2 := by decide +kernel
def f_12_shelf (a0 : Nat) (a1 : Int32) (a2 : Int32) (a3 : Int32) (μ : mm) : Option (Int32 × mm) :=
  (if a2 = 0 then
      (f_12_is a0 a3 11 μ).bind fun x8 =>
      some x8
    else
      if a2 = 1 then
        (f_12_is a0 a3 10 μ).bind fun x6 =>
        some x6
      else
        if a2 = 2 then
          (f_12_is a0 a3 9 μ).bind fun x4 =>
          some x4
        else
          if a2 = 3 then
            (f_12_isFour a3 μ).bind fun x2 =>
            if x2 = 0 then
              some 0
            else
              some 1
          else
            some 1).bind fun (z9 : Int32) =>
  (f_12_isFour a1 μ).bind fun x11 =>
  if x11 = 0 then
    some ((-1), μ)
  else
    (f_12_within a2 0 4 μ).bind fun x13 =>
    if x13 = 0 then
      some ((-1), μ)
    else
      if z9 = 0 then
        some ((-1), μ)
      else
        (if a2 = 4 then
            some 1
          else
            if a2 = 3 then
              (ld μ (rf a0 26) a3).bind fun x14 =>
              if 0 ≤ x14 then
                some 0
              else
                some 1
            else
              some 0).bind fun (z16 : Int32) =>
        (if z16 = 0 then
            some (a2 + 1)
          else
            some 0).bind fun (z17 : Int32) =>
        (sto μ (rf a0 29) a1 z17).bind fun μ18 =>
        (if z16 = 0 then
            if a2 = 3 then
              (ld μ18 (rf a0 26) a3).bind fun x20 =>
              some x20
            else
              some a3
          else
            some 0).bind fun (z22 : Int32) =>
        (sto μ18 (rf a0 30) a1 z22).bind fun μ23 =>
        (if z16 = 0 then
            if 3 ≤ a2 then
              (ld μ23 (rf a0 27) a3).bind fun x25 =>
              some x25
            else
              some 0
          else
            some 0).bind fun (z27 : Int32) =>
        (sto μ23 (rf a0 31) a1 z27).bind fun μ28 =>
        some (1, μ28)
set_option maxRecDepth 100000 in
set_option maxHeartbeats 4000000 in
theorem ok_12_shelf {l : Launch} {E : ce} {d : Nat}  {a0 : Nat} {a1 : Int32} {a2 : Int32} {a3 : Int32} {μ : mm} {r : Int32 × mm} {Q : Option Value → mm → Prop} (h : f_12_shelf a0 a1 a2 a3 μ = some r) (k0 : kd a0 = 12) (hQ : Q (some (.int r.1)) r.2) : Ct l E (d + 2) yX12_shelf m_12_shelf [.ref a0, .int a1, .int a2, .int a3] μ Q := by
  refine Ct_of (lv := [some (.ref a0), some (.int a1), some (.int a2), some (.int a3), none, none]) (by decide) rfl (Nat.le_of_ble_eq_true rfl) rfl ?_
  unfold f_12_shelf at h
  refine R_iload_n (dd dt_12_shelf 0 rfl) 2 rfl rfl ?_
  obtain ⟨z9, hz9, h⟩ := bi_el h
  have K9 : Rj l E (d + 2) m_12_shelf 61 [some (.ref a0), some (.int a1), some (.int a2), some (.int a3), none, none] [.int z9] μ Q := by
    clear hz9
    refine R_istore (lv' := [some (.ref a0), some (.int a1), some (.int a2), some (.int a3), some (.int z9), none]) (dd dt_12_shelf 32 rfl) (by decide) rfl rfl ?_
    refine R_iload_n (dd dt_12_shelf 33 rfl) 1 rfl rfl ?_
    obtain ⟨x11, e10, h⟩ := bi_el h
    refine c_12_302 (As := [.int a1]) (st1 := [.int x11]) rfl (fun Q1 hq => ok_12_isFour e10 hq) rfl rfl (Nat.le_of_ble_eq_true rfl) (dd dt_12_shelf 34 rfl) rfl ?_
    refine R_ifeq (dd dt_12_shelf 35 rfl) (tgt := 84) rfl (fun hc => ?_) (fun hc => ?_)
    · rw [if_pos hc] at h
      refine R_iconst (v := (-1)) (dd dt_12_shelf 43 rfl) ic_m1 ?_
      obtain rfl := Option.some.inj h
      exact R_iret rfl (dd dt_12_shelf 44 rfl) hQ
    · rw [if_neg hc] at h
      refine R_iload_n (dd dt_12_shelf 36 rfl) 2 rfl rfl ?_
      refine R_iconst (v := 0) (dd dt_12_shelf 37 rfl) ic_0 ?_
      refine R_iconst (v := 4) (dd dt_12_shelf 38 rfl) ic_4 ?_
      obtain ⟨x13, e12, h⟩ := bi_el h
      refine c_12_80 (As := [.int a2, .int 0, .int 4]) (st1 := [.int x13]) rfl (fun Q1 hq => ok_12_within e12 hq) rfl rfl (Nat.le_of_ble_eq_true rfl) (dd dt_12_shelf 39 rfl) rfl ?_
      refine R_ifeq (dd dt_12_shelf 40 rfl) (tgt := 84) rfl (fun hc => ?_) (fun hc => ?_)
      · rw [if_pos hc] at h
        refine R_iconst (v := (-1)) (dd dt_12_shelf 43 rfl) ic_m1 ?_
        obtain rfl := Option.some.inj h
        exact R_iret rfl (dd dt_12_shelf 44 rfl) hQ
      · rw [if_neg hc] at h
        refine R_iload (dd dt_12_shelf 41 rfl) rfl ?_
        refine R_ifne (dd dt_12_shelf 42 rfl) (tgt := 86) rfl (fun hc => ?_) (fun hc => ?_)
        · rw [if_neg hc] at h
          refine R_iload_n (dd dt_12_shelf 45 rfl) 2 rfl rfl ?_
          refine R_iconst (v := 4) (dd dt_12_shelf 46 rfl) ic_4 ?_
          obtain ⟨z16, hz16, h⟩ := bi_el h
          have K16 : Rj l E (d + 2) m_12_shelf 110 [some (.ref a0), some (.int a1), some (.int a2), some (.int a3), none, none] [.int z16] μ Q := by
            clear hz16
            refine R_istore (lv' := [some (.ref a0), some (.int a1), some (.int a2), some (.int a3), none, some (.int z16)]) (dd dt_12_shelf 59 rfl) (by decide) rfl rfl ?_
            refine R_aload_n (dd dt_12_shelf 60 rfl) 0 rfl rfl ?_
            refine g_12_68 rfl k0 (dd dt_12_shelf 61 rfl) ?_
            refine R_iload_n (dd dt_12_shelf 62 rfl) 1 rfl rfl ?_
            refine R_iload (dd dt_12_shelf 63 rfl) rfl ?_
            obtain ⟨z17, hz17, h⟩ := bi_el h
            have K17 : Rj l E (d + 2) m_12_shelf 129 [some (.ref a0), some (.int a1), some (.int a2), some (.int a3), none, some (.int z16)] [.int z17, .int a1, .ref (rf a0 29)] μ Q := by
              clear hz17
              obtain ⟨μ18, e19, h⟩ := bi_el h
              refine R_isto e19 (ty_12_29 k0) (dd dt_12_shelf 70 rfl) ?_
              refine R_aload_n (dd dt_12_shelf 71 rfl) 0 rfl rfl ?_
              refine g_12_71 rfl k0 (dd dt_12_shelf 72 rfl) ?_
              refine R_iload_n (dd dt_12_shelf 73 rfl) 1 rfl rfl ?_
              refine R_iload (dd dt_12_shelf 74 rfl) rfl ?_
              obtain ⟨z22, hz22, h⟩ := bi_el h
              have K22 : Rj l E (d + 2) m_12_shelf 159 [some (.ref a0), some (.int a1), some (.int a2), some (.int a3), none, some (.int z16)] [.int z22, .int a1, .ref (rf a0 30)] μ18 Q := by
                clear hz22
                obtain ⟨μ23, e24, h⟩ := bi_el h
                refine R_isto e24 (ty_12_30 k0) (dd dt_12_shelf 87 rfl) ?_
                refine R_aload_n (dd dt_12_shelf 88 rfl) 0 rfl rfl ?_
                refine g_12_74 rfl k0 (dd dt_12_shelf 89 rfl) ?_
                refine R_iload_n (dd dt_12_shelf 90 rfl) 1 rfl rfl ?_
                refine R_iload (dd dt_12_shelf 91 rfl) rfl ?_
                obtain ⟨z27, hz27, h⟩ := bi_el h
                have K27 : Rj l E (d + 2) m_12_shelf 185 [none, none, none, none, none, none] [.int z27, .int a1, .ref (rf a0 31)] μ23 Q := by
                  clear hz27
                  obtain ⟨μ28, e29, h⟩ := bi_el h
                  refine R_isto e29 (ty_12_31 k0) (dd dt_12_shelf 102 rfl) ?_
                  refine R_iconst (v := 1) (dd dt_12_shelf 103 rfl) ic_1 ?_
                  obtain rfl := Option.some.inj h
                  exact R_iret rfl (dd dt_12_shelf 104 rfl) hQ
                clear h
                have h := hz27
                clear hz27
                refine R_ifne (dd dt_12_shelf 92 rfl) (tgt := 175) rfl (fun hc => ?_) (fun hc => ?_)
                · rw [if_neg hc] at h
                  refine R_iconst (v := 0) (dd dt_12_shelf 96 rfl) ic_0 ?_
                  refine R_goto (dd dt_12_shelf 97 rfl) (tgt := 185) rfl ?_
                  obtain rfl := Option.some.inj h
                  exact R_mask [false, false, false, false, false, false] rfl K27
                · rw [if_pos hc] at h
                  refine R_iload_n (dd dt_12_shelf 93 rfl) 2 rfl rfl ?_
                  refine R_iconst (v := 3) (dd dt_12_shelf 94 rfl) ic_3 ?_
                  refine R_cmpge (dd dt_12_shelf 95 rfl) (tgt := 179) rfl (fun hc => ?_) (fun hc => ?_)
                  · rw [if_pos hc] at h
                    refine R_aload_n (dd dt_12_shelf 98 rfl) 0 rfl rfl ?_
                    refine g_12_62 rfl k0 (dd dt_12_shelf 99 rfl) ?_
                    refine R_iload_n (dd dt_12_shelf 100 rfl) 3 rfl rfl ?_
                    obtain ⟨x25, e26, h⟩ := bi_el h
                    refine R_ild e26 (ty_12_27 k0) (dd dt_12_shelf 101 rfl) ?_
                    obtain rfl := Option.some.inj h
                    exact R_mask [false, false, false, false, false, false] rfl K27
                  · rw [if_neg hc] at h
                    refine R_iconst (v := 0) (dd dt_12_shelf 96 rfl) ic_0 ?_
                    refine R_goto (dd dt_12_shelf 97 rfl) (tgt := 185) rfl ?_
                    obtain rfl := Option.some.inj h
                    exact R_mask [false, false, false, false, false, false] rfl K27
              clear h
              have h := hz22
              clear hz22
              refine R_ifeq (dd dt_12_shelf 75 rfl) (tgt := 144) rfl (fun hc => ?_) (fun hc => ?_)
              · rw [if_pos hc] at h
                refine R_iload_n (dd dt_12_shelf 78 rfl) 2 rfl rfl ?_
                refine R_iconst (v := 3) (dd dt_12_shelf 79 rfl) ic_3 ?_
                refine R_cmpne (dd dt_12_shelf 80 rfl) (tgt := 158) rfl (fun hc => ?_) (fun hc => ?_)
                · rw [if_neg hc] at h
                  refine R_iload_n (dd dt_12_shelf 86 rfl) 3 rfl rfl ?_
                  obtain rfl := Option.some.inj h
                  exact R_mask [true, true, true, true, false, true] rfl K22
                · rw [if_pos hc] at h
                  refine R_aload_n (dd dt_12_shelf 81 rfl) 0 rfl rfl ?_
                  refine g_12_59 rfl k0 (dd dt_12_shelf 82 rfl) ?_
                  refine R_iload_n (dd dt_12_shelf 83 rfl) 3 rfl rfl ?_
                  obtain ⟨x20, e21, h⟩ := bi_el h
                  refine R_ild e21 (ty_12_26 k0) (dd dt_12_shelf 84 rfl) ?_
                  refine R_goto (dd dt_12_shelf 85 rfl) (tgt := 159) rfl ?_
                  obtain rfl := Option.some.inj h
                  exact R_mask [true, true, true, true, false, true] rfl K22
              · rw [if_neg hc] at h
                refine R_iconst (v := 0) (dd dt_12_shelf 76 rfl) ic_0 ?_
                refine R_goto (dd dt_12_shelf 77 rfl) (tgt := 159) rfl ?_
                obtain rfl := Option.some.inj h
                exact R_mask [true, true, true, true, false, true] rfl K22
            clear h
            have h := hz17
            clear hz17
            refine R_ifeq (dd dt_12_shelf 64 rfl) (tgt := 126) rfl (fun hc => ?_) (fun hc => ?_)
            · rw [if_pos hc] at h
              refine R_iload_n (dd dt_12_shelf 67 rfl) 2 rfl rfl ?_
              refine R_iconst (v := 1) (dd dt_12_shelf 68 rfl) ic_1 ?_
              refine R_iadd (dd dt_12_shelf 69 rfl) ?_
              obtain rfl := Option.some.inj h
              exact R_mask [true, true, true, true, false, true] rfl K17
            · rw [if_neg hc] at h
              refine R_iconst (v := 0) (dd dt_12_shelf 65 rfl) ic_0 ?_
              refine R_goto (dd dt_12_shelf 66 rfl) (tgt := 129) rfl ?_
              obtain rfl := Option.some.inj h
              exact R_mask [true, true, true, true, false, true] rfl K17
          clear h
          have h := hz16
          clear hz16
          refine R_cmpeq (dd dt_12_shelf 47 rfl) (tgt := 105) rfl (fun hc => ?_) (fun hc => ?_)
          · rw [if_pos hc] at h
            refine R_iconst (v := 1) (dd dt_12_shelf 56 rfl) ic_1 ?_
            refine R_goto (dd dt_12_shelf 57 rfl) (tgt := 110) rfl ?_
            obtain rfl := Option.some.inj h
            exact R_mask [true, true, true, true, false, false] rfl K16
          · rw [if_neg hc] at h
            refine R_iload_n (dd dt_12_shelf 48 rfl) 2 rfl rfl ?_
            refine R_iconst (v := 3) (dd dt_12_shelf 49 rfl) ic_3 ?_
            refine R_cmpne (dd dt_12_shelf 50 rfl) (tgt := 109) rfl (fun hc => ?_) (fun hc => ?_)
            · rw [if_neg hc] at h
              refine R_iconst (v := 0) (dd dt_12_shelf 58 rfl) ic_0 ?_
              obtain rfl := Option.some.inj h
              exact R_mask [true, true, true, true, false, false] rfl K16
            · rw [if_pos hc] at h
              refine R_aload_n (dd dt_12_shelf 51 rfl) 0 rfl rfl ?_
              refine g_12_59 rfl k0 (dd dt_12_shelf 52 rfl) ?_
              refine R_iload_n (dd dt_12_shelf 53 rfl) 3 rfl rfl ?_
              obtain ⟨x14, e15, h⟩ := bi_el h
              refine R_ild e15 (ty_12_26 k0) (dd dt_12_shelf 54 rfl) ?_
              refine R_ifge (dd dt_12_shelf 55 rfl) (tgt := 109) rfl (fun hc => ?_) (fun hc => ?_)
              · rw [if_pos hc] at h
                refine R_iconst (v := 0) (dd dt_12_shelf 58 rfl) ic_0 ?_
                obtain rfl := Option.some.inj h
                exact R_mask [true, true, true, true, false, false] rfl K16
              · rw [if_neg hc] at h
                refine R_iconst (v := 1) (dd dt_12_shelf 56 rfl) ic_1 ?_
                refine R_goto (dd dt_12_shelf 57 rfl) (tgt := 110) rfl ?_
                obtain rfl := Option.some.inj h
                exact R_mask [true, true, true, true, false, false] rfl K16
        · rw [if_pos hc] at h
          refine R_iconst (v := (-1)) (dd dt_12_shelf 43 rfl) ic_m1 ?_
          obtain rfl := Option.some.inj h
          exact R_iret rfl (dd dt_12_shelf 44 rfl) hQ
  clear h
  have h := hz9
  clear hz9
  refine R_ifne (dd dt_12_shelf 1 rfl) (tgt := 14) rfl (fun hc => ?_) (fun hc => ?_)
  · rw [if_neg hc] at h
    refine R_iload_n (dd dt_12_shelf 7 rfl) 2 rfl rfl ?_
    refine R_iconst (v := 1) (dd dt_12_shelf 8 rfl) ic_1 ?_
    refine R_cmpne (dd dt_12_shelf 9 rfl) (tgt := 29) rfl (fun hc => ?_) (fun hc => ?_)
    · rw [if_neg hc] at h
      refine R_iload_n (dd dt_12_shelf 15 rfl) 2 rfl rfl ?_
      refine R_iconst (v := 2) (dd dt_12_shelf 16 rfl) ic_2 ?_
      refine R_cmpne (dd dt_12_shelf 17 rfl) (tgt := 44) rfl (fun hc => ?_) (fun hc => ?_)
      · rw [if_neg hc] at h
        refine R_iload_n (dd dt_12_shelf 23 rfl) 2 rfl rfl ?_
        refine R_iconst (v := 3) (dd dt_12_shelf 24 rfl) ic_3 ?_
        refine R_cmpne (dd dt_12_shelf 25 rfl) (tgt := 56) rfl (fun hc => ?_) (fun hc => ?_)
        · rw [if_neg hc] at h
          refine R_iconst (v := 1) (dd dt_12_shelf 29 rfl) ic_1 ?_
          refine R_goto (dd dt_12_shelf 30 rfl) (tgt := 61) rfl ?_
          obtain rfl := Option.some.inj h
          exact R_mask [true, true, true, true, false, false] rfl K9
        · rw [if_pos hc] at h
          refine R_iload_n (dd dt_12_shelf 26 rfl) 3 rfl rfl ?_
          obtain ⟨x2, e1, h⟩ := bi_el h
          refine c_12_302 (As := [.int a3]) (st1 := [.int x2]) rfl (fun Q1 hq => ok_12_isFour e1 hq) rfl rfl (Nat.le_of_ble_eq_true rfl) (dd dt_12_shelf 27 rfl) rfl ?_
          refine R_ifeq (dd dt_12_shelf 28 rfl) (tgt := 60) rfl (fun hc => ?_) (fun hc => ?_)
          · rw [if_pos hc] at h
            refine R_iconst (v := 0) (dd dt_12_shelf 31 rfl) ic_0 ?_
            obtain rfl := Option.some.inj h
            exact R_mask [true, true, true, true, false, false] rfl K9
          · rw [if_neg hc] at h
            refine R_iconst (v := 1) (dd dt_12_shelf 29 rfl) ic_1 ?_
            refine R_goto (dd dt_12_shelf 30 rfl) (tgt := 61) rfl ?_
            obtain rfl := Option.some.inj h
            exact R_mask [true, true, true, true, false, false] rfl K9
      · rw [if_pos hc] at h
        refine R_aload_n (dd dt_12_shelf 18 rfl) 0 rfl rfl ?_
        refine R_iload_n (dd dt_12_shelf 19 rfl) 3 rfl rfl ?_
        refine R_bipush (v := 9) (dd dt_12_shelf 20 rfl) bp_9 ?_
        obtain ⟨x4, e3, h⟩ := bi_el h
        refine c_12_84 (As := [.int a3, .int 9]) (st1 := [.int x4]) rfl (fun Q1 hq => ok_12_is e3 k0 hq) k0 rfl rfl (Nat.le_of_ble_eq_true rfl) (dd dt_12_shelf 21 rfl) rfl ?_
        refine R_goto (dd dt_12_shelf 22 rfl) (tgt := 61) rfl ?_
        obtain rfl := Option.some.inj h
        exact R_mask [true, true, true, true, false, false] rfl K9
    · rw [if_pos hc] at h
      refine R_aload_n (dd dt_12_shelf 10 rfl) 0 rfl rfl ?_
      refine R_iload_n (dd dt_12_shelf 11 rfl) 3 rfl rfl ?_
      refine R_bipush (v := 10) (dd dt_12_shelf 12 rfl) bp_10 ?_
      obtain ⟨x6, e5, h⟩ := bi_el h
      refine c_12_84 (As := [.int a3, .int 10]) (st1 := [.int x6]) rfl (fun Q1 hq => ok_12_is e5 k0 hq) k0 rfl rfl (Nat.le_of_ble_eq_true rfl) (dd dt_12_shelf 13 rfl) rfl ?_
      refine R_goto (dd dt_12_shelf 14 rfl) (tgt := 61) rfl ?_
      obtain rfl := Option.some.inj h
      exact R_mask [true, true, true, true, false, false] rfl K9
  · rw [if_pos hc] at h
    refine R_aload_n (dd dt_12_shelf 2 rfl) 0 rfl rfl ?_
    refine R_iload_n (dd dt_12_shelf 3 rfl) 3 rfl rfl ?_
    refine R_bipush (v := 11) (dd dt_12_shelf 4 rfl) bp_11 ?_
    obtain ⟨x8, e7, h⟩ := bi_el h
    refine c_12_84 (As := [.int a3, .int 11]) (st1 := [.int x8]) rfl (fun Q1 hq => ok_12_is e7 k0 hq) k0 rfl rfl (Nat.le_of_ble_eq_true rfl) (dd dt_12_shelf 5 rfl) rfl ?_
    refine R_goto (dd dt_12_shelf 6 rfl) (tgt := 61) rfl ?_
    obtain rfl := Option.some.inj h
    exact R_mask [true, true, true, true, false, false] rfl K9
/-! LongStrikeModel.above(I)I -/
def tab_12_above : List (Nat × Instr × Nat) := [(0, .iload_n 0, 1), (1, .iconst 4, 1), (2, .if_icmp .eq 8, 3), (5, .iload_n 0, 1), (6, .iconst 5, 1), (7, .if_icmp .ne 7, 3), (10, .iconst 1, 1), (11, .goto 22, 3), (14, .iload_n 0, 1), (15, .bipush 6, 2), (17, .if_icmp .ne 7, 3), (20, .iconst 3, 1), (21, .goto 12, 3), (24, .iload_n 0, 1), (25, .ifCond .ne 7, 3), (28, .iconst (-1), 1), (29, .goto 4, 3), (32, .iconst 0, 1), (33, .ireturn, 1)]
set_option maxRecDepth 100000 in
theorem dt_12_above : ∀ q ∈ tab_12_above, decode m_12_above.2.1 q.1 = .ok q.2 := by decide +kernel
def f_12_above (a0 : Int32) (μ : mm) : Option (Int32) :=
  if a0 = 4 then
    some 1
  else
    if a0 = 5 then
      some 1
    else
      if a0 = 6 then
        some 3
      else
        if a0 = 0 then
          some (-1)
        else
          some 0
set_option maxRecDepth 100000 in
set_option maxHeartbeats 4000000 in
theorem ok_12_above {l : Launch} {E : ce} {d : Nat}  {a0 : Int32} {μ : mm} {r : Int32} {Q : Option Value → mm → Prop} (h : f_12_above a0 μ = some r)  (hQ : Q (some (.int r)) μ) : Ct l E d yX12_above m_12_above [.int a0] μ Q := by
  refine Ct_of (lv := [some (.int a0)]) (by decide) rfl (Nat.le_of_ble_eq_true rfl) rfl ?_
  unfold f_12_above at h
  refine R_iload_n (dd dt_12_above 0 rfl) 0 rfl rfl ?_
  refine R_iconst (v := 4) (dd dt_12_above 1 rfl) ic_4 ?_
  refine R_cmpeq (dd dt_12_above 2 rfl) (tgt := 10) rfl (fun hc => ?_) (fun hc => ?_)
  · rw [if_pos hc] at h
    refine R_iconst (v := 1) (dd dt_12_above 6 rfl) ic_1 ?_
    refine R_goto (dd dt_12_above 7 rfl) (tgt := 33) rfl ?_
    obtain rfl := Option.some.inj h
    exact R_iret rfl (dd dt_12_above 18 rfl) hQ
  · rw [if_neg hc] at h
    refine R_iload_n (dd dt_12_above 3 rfl) 0 rfl rfl ?_
    refine R_iconst (v := 5) (dd dt_12_above 4 rfl) ic_5 ?_
    refine R_cmpne (dd dt_12_above 5 rfl) (tgt := 14) rfl (fun hc => ?_) (fun hc => ?_)
    · rw [if_neg hc] at h
      refine R_iload_n (dd dt_12_above 8 rfl) 0 rfl rfl ?_
      refine R_bipush (v := 6) (dd dt_12_above 9 rfl) bp_6 ?_
      refine R_cmpne (dd dt_12_above 10 rfl) (tgt := 24) rfl (fun hc => ?_) (fun hc => ?_)
      · rw [if_neg hc] at h
        refine R_iload_n (dd dt_12_above 13 rfl) 0 rfl rfl ?_
        refine R_ifne (dd dt_12_above 14 rfl) (tgt := 32) rfl (fun hc => ?_) (fun hc => ?_)
        · rw [if_neg hc] at h
          refine R_iconst (v := 0) (dd dt_12_above 17 rfl) ic_0 ?_
          obtain rfl := Option.some.inj h
          exact R_iret rfl (dd dt_12_above 18 rfl) hQ
        · rw [if_pos hc] at h
          refine R_iconst (v := (-1)) (dd dt_12_above 15 rfl) ic_m1 ?_
          refine R_goto (dd dt_12_above 16 rfl) (tgt := 33) rfl ?_
          obtain rfl := Option.some.inj h
          exact R_iret rfl (dd dt_12_above 18 rfl) hQ
      · rw [if_pos hc] at h
        refine R_iconst (v := 3) (dd dt_12_above 11 rfl) ic_3 ?_
        refine R_goto (dd dt_12_above 12 rfl) (tgt := 33) rfl ?_
        obtain rfl := Option.some.inj h
        exact R_iret rfl (dd dt_12_above 18 rfl) hQ
    · rw [if_pos hc] at h
      refine R_iconst (v := 1) (dd dt_12_above 6 rfl) ic_1 ?_
      refine R_goto (dd dt_12_above 7 rfl) (tgt := 33) rfl ?_
      obtain rfl := Option.some.inj h
      exact R_iret rfl (dd dt_12_above 18 rfl) hQ
/-! LongStrikeModel.kindOn(I)I -/
def tab_12_kindOn : List (Nat × Instr × Nat) := [(0, .aload_n 0, 1), (1, .getfield 71, 3), (4, .iload_n 1, 1), (5, .iaload, 1), (6, .istore_n 2, 1), (7, .aload_n 0, 1), (8, .getfield 68, 3), (11, .iload_n 1, 1), (12, .iaload, 1), (13, .tableswitch 125 1 3 #[27, 73, 89], 27), (40, .aload_n 0, 1), (41, .iload_n 2, 1), (42, .bipush 11, 2), (44, .invokevirtual 84, 3), (47, .ifCond .ne 7, 3), (50, .iconst (-1), 1), (51, .goto 34, 3), (54, .aload_n 0, 1), (55, .iload_n 2, 1), (56, .bipush 10, 2), (58, .invokevirtual 98, 3), (61, .iconst 1, 1), (62, .if_icmp .ne 7, 3), (65, .iconst 5, 1), (66, .goto 19, 3), (69, .aload_n 0, 1), (70, .iload_n 2, 1), (71, .bipush 11, 2), (73, .invokevirtual 98, 3), (76, .iconst 1, 1), (77, .if_icmp .ne 7, 3), (80, .iconst 4, 1), (81, .goto 4, 3), (84, .iconst 1, 1), (85, .ireturn, 1), (86, .aload_n 0, 1), (87, .iload_n 2, 1), (88, .bipush 10, 2), (90, .invokevirtual 84, 3), (93, .ifCond .eq 7, 3), (96, .iconst 2, 1), (97, .goto 4, 3), (100, .iconst (-1), 1), (101, .ireturn, 1), (102, .aload_n 0, 1), (103, .iload_n 2, 1), (104, .bipush 9, 2), (106, .invokevirtual 84, 3), (109, .ifCond .ne 7, 3), (112, .iconst (-1), 1), (113, .goto 24, 3), (116, .aload_n 0, 1), (117, .getfield 9, 3), (120, .iload_n 2, 1), (121, .iconst 5, 1), (122, .invokestatic 92, 3), (125, .iaload, 1), (126, .bipush (-3), 2), (128, .if_icmp .ne 7, 3), (131, .iconst 3, 1), (132, .goto 5, 3), (135, .bipush 6, 2), (137, .ireturn, 1), (138, .iconst (-1), 1), (139, .ireturn, 1)]
set_option maxRecDepth 100000 in
theorem dt_12_kindOn : ∀ q ∈ tab_12_kindOn, decode m_12_kindOn.2.1 q.1 = .ok q.2 := by decide +kernel
def f_12_kindOn (a0 : Nat) (a1 : Int32) (μ : mm) : Option (Int32) :=
  (ld μ (rf a0 30) a1).bind fun x1 =>
  (ld μ (rf a0 29) a1).bind fun x3 =>
  if x3 = 1 then
    (f_12_is a0 x1 11 μ).bind fun x6 =>
    if x6 = 0 then
      some (-1)
    else
      (f_12_house a0 x1 10 μ).bind fun x8 =>
      if x8 = 1 then
        some 5
      else
        (f_12_house a0 x1 11 μ).bind fun x10 =>
        if x10 = 1 then
          some 4
        else
          some 1
  else if x3 = 2 then
    (f_12_is a0 x1 10 μ).bind fun x12 =>
    if x12 = 0 then
      some (-1)
    else
      some 2
  else if x3 = 3 then
    (f_12_is a0 x1 9 μ).bind fun x14 =>
    if x14 = 0 then
      some (-1)
    else
      (f_12_ofPit x1 5 μ).bind fun x16 =>
      (ld μ (rf a0 0) x16).bind fun x17 =>
      if x17 = (-3) then
        some 3
      else
        some 6
  else 
    some (-1)
set_option maxRecDepth 100000 in
set_option maxHeartbeats 4000000 in
theorem ok_12_kindOn {l : Launch} {E : ce} {d : Nat}  {a0 : Nat} {a1 : Int32} {μ : mm} {r : Int32} {Q : Option Value → mm → Prop} (h : f_12_kindOn a0 a1 μ = some r) (k0 : kd a0 = 12) (hQ : Q (some (.int r)) μ) : Ct l E (d + 2) yX12_kindOn m_12_kindOn [.ref a0, .int a1] μ Q := by
  refine Ct_of (lv := [some (.ref a0), some (.int a1), none]) (by decide) rfl (Nat.le_of_ble_eq_true rfl) rfl ?_
  unfold f_12_kindOn at h
  refine R_aload_n (dd dt_12_kindOn 0 rfl) 0 rfl rfl ?_
  refine g_12_71 rfl k0 (dd dt_12_kindOn 1 rfl) ?_
  refine R_iload_n (dd dt_12_kindOn 2 rfl) 1 rfl rfl ?_
  obtain ⟨x1, e2, h⟩ := bi_el h
  refine R_ild e2 (ty_12_30 k0) (dd dt_12_kindOn 3 rfl) ?_
  refine R_istore_n (lv' := [some (.ref a0), some (.int a1), some (.int x1)]) (dd dt_12_kindOn 4 rfl) 2 rfl (by decide) rfl rfl ?_
  refine R_aload_n (dd dt_12_kindOn 5 rfl) 0 rfl rfl ?_
  refine g_12_68 rfl k0 (dd dt_12_kindOn 6 rfl) ?_
  refine R_iload_n (dd dt_12_kindOn 7 rfl) 1 rfl rfl ?_
  obtain ⟨x3, e4, h⟩ := bi_el h
  refine R_ild e4 (ty_12_29 k0) (dd dt_12_kindOn 8 rfl) ?_
  by_cases hs1 : x3 = 1
  · refine R_tabIn (off := 27) (tgt := 40) (dd dt_12_kindOn 9 rfl) (by rw [hs1]; decide) (by rw [hs1]; decide) (by rw [hs1]; rfl) rfl ?_
    rw [if_pos hs1] at h
    refine R_aload_n (dd dt_12_kindOn 10 rfl) 0 rfl rfl ?_
    refine R_iload_n (dd dt_12_kindOn 11 rfl) 2 rfl rfl ?_
    refine R_bipush (v := 11) (dd dt_12_kindOn 12 rfl) bp_11 ?_
    obtain ⟨x6, e5, h⟩ := bi_el h
    refine c_12_84 (As := [.int x1, .int 11]) (st1 := [.int x6]) rfl (fun Q1 hq => ok_12_is e5 k0 hq) k0 rfl rfl (Nat.le_of_ble_eq_true rfl) (dd dt_12_kindOn 13 rfl) rfl ?_
    refine R_ifne (dd dt_12_kindOn 14 rfl) (tgt := 54) rfl (fun hc => ?_) (fun hc => ?_)
    · rw [if_neg hc] at h
      refine R_aload_n (dd dt_12_kindOn 17 rfl) 0 rfl rfl ?_
      refine R_iload_n (dd dt_12_kindOn 18 rfl) 2 rfl rfl ?_
      refine R_bipush (v := 10) (dd dt_12_kindOn 19 rfl) bp_10 ?_
      obtain ⟨x8, e7, h⟩ := bi_el h
      refine c_12_98 (As := [.int x1, .int 10]) (st1 := [.int x8]) rfl (fun Q1 hq => ok_12_house e7 k0 hq) k0 rfl rfl (Nat.le_of_ble_eq_true rfl) (dd dt_12_kindOn 20 rfl) rfl ?_
      refine R_iconst (v := 1) (dd dt_12_kindOn 21 rfl) ic_1 ?_
      refine R_cmpne (dd dt_12_kindOn 22 rfl) (tgt := 69) rfl (fun hc => ?_) (fun hc => ?_)
      · rw [if_neg hc] at h
        refine R_aload_n (dd dt_12_kindOn 25 rfl) 0 rfl rfl ?_
        refine R_iload_n (dd dt_12_kindOn 26 rfl) 2 rfl rfl ?_
        refine R_bipush (v := 11) (dd dt_12_kindOn 27 rfl) bp_11 ?_
        obtain ⟨x10, e9, h⟩ := bi_el h
        refine c_12_98 (As := [.int x1, .int 11]) (st1 := [.int x10]) rfl (fun Q1 hq => ok_12_house e9 k0 hq) k0 rfl rfl (Nat.le_of_ble_eq_true rfl) (dd dt_12_kindOn 28 rfl) rfl ?_
        refine R_iconst (v := 1) (dd dt_12_kindOn 29 rfl) ic_1 ?_
        refine R_cmpne (dd dt_12_kindOn 30 rfl) (tgt := 84) rfl (fun hc => ?_) (fun hc => ?_)
        · rw [if_neg hc] at h
          refine R_iconst (v := 1) (dd dt_12_kindOn 33 rfl) ic_1 ?_
          obtain rfl := Option.some.inj h
          exact R_iret rfl (dd dt_12_kindOn 34 rfl) hQ
        · rw [if_pos hc] at h
          refine R_iconst (v := 4) (dd dt_12_kindOn 31 rfl) ic_4 ?_
          refine R_goto (dd dt_12_kindOn 32 rfl) (tgt := 85) rfl ?_
          obtain rfl := Option.some.inj h
          exact R_iret rfl (dd dt_12_kindOn 34 rfl) hQ
      · rw [if_pos hc] at h
        refine R_iconst (v := 5) (dd dt_12_kindOn 23 rfl) ic_5 ?_
        refine R_goto (dd dt_12_kindOn 24 rfl) (tgt := 85) rfl ?_
        obtain rfl := Option.some.inj h
        exact R_iret rfl (dd dt_12_kindOn 34 rfl) hQ
    · rw [if_pos hc] at h
      refine R_iconst (v := (-1)) (dd dt_12_kindOn 15 rfl) ic_m1 ?_
      refine R_goto (dd dt_12_kindOn 16 rfl) (tgt := 85) rfl ?_
      obtain rfl := Option.some.inj h
      exact R_iret rfl (dd dt_12_kindOn 34 rfl) hQ
  rw [if_neg hs1] at h
  by_cases hs2 : x3 = 2
  · refine R_tabIn (off := 73) (tgt := 86) (dd dt_12_kindOn 9 rfl) (by rw [hs2]; decide) (by rw [hs2]; decide) (by rw [hs2]; rfl) rfl ?_
    rw [if_pos hs2] at h
    refine R_aload_n (dd dt_12_kindOn 35 rfl) 0 rfl rfl ?_
    refine R_iload_n (dd dt_12_kindOn 36 rfl) 2 rfl rfl ?_
    refine R_bipush (v := 10) (dd dt_12_kindOn 37 rfl) bp_10 ?_
    obtain ⟨x12, e11, h⟩ := bi_el h
    refine c_12_84 (As := [.int x1, .int 10]) (st1 := [.int x12]) rfl (fun Q1 hq => ok_12_is e11 k0 hq) k0 rfl rfl (Nat.le_of_ble_eq_true rfl) (dd dt_12_kindOn 38 rfl) rfl ?_
    refine R_ifeq (dd dt_12_kindOn 39 rfl) (tgt := 100) rfl (fun hc => ?_) (fun hc => ?_)
    · rw [if_pos hc] at h
      refine R_iconst (v := (-1)) (dd dt_12_kindOn 42 rfl) ic_m1 ?_
      obtain rfl := Option.some.inj h
      exact R_iret rfl (dd dt_12_kindOn 43 rfl) hQ
    · rw [if_neg hc] at h
      refine R_iconst (v := 2) (dd dt_12_kindOn 40 rfl) ic_2 ?_
      refine R_goto (dd dt_12_kindOn 41 rfl) (tgt := 101) rfl ?_
      obtain rfl := Option.some.inj h
      exact R_iret rfl (dd dt_12_kindOn 43 rfl) hQ
  rw [if_neg hs2] at h
  by_cases hs3 : x3 = 3
  · refine R_tabIn (off := 89) (tgt := 102) (dd dt_12_kindOn 9 rfl) (by rw [hs3]; decide) (by rw [hs3]; decide) (by rw [hs3]; rfl) rfl ?_
    rw [if_pos hs3] at h
    refine R_aload_n (dd dt_12_kindOn 44 rfl) 0 rfl rfl ?_
    refine R_iload_n (dd dt_12_kindOn 45 rfl) 2 rfl rfl ?_
    refine R_bipush (v := 9) (dd dt_12_kindOn 46 rfl) bp_9 ?_
    obtain ⟨x14, e13, h⟩ := bi_el h
    refine c_12_84 (As := [.int x1, .int 9]) (st1 := [.int x14]) rfl (fun Q1 hq => ok_12_is e13 k0 hq) k0 rfl rfl (Nat.le_of_ble_eq_true rfl) (dd dt_12_kindOn 47 rfl) rfl ?_
    refine R_ifne (dd dt_12_kindOn 48 rfl) (tgt := 116) rfl (fun hc => ?_) (fun hc => ?_)
    · rw [if_neg hc] at h
      refine R_aload_n (dd dt_12_kindOn 51 rfl) 0 rfl rfl ?_
      refine g_12_9 rfl k0 (dd dt_12_kindOn 52 rfl) ?_
      refine R_iload_n (dd dt_12_kindOn 53 rfl) 2 rfl rfl ?_
      refine R_iconst (v := 5) (dd dt_12_kindOn 54 rfl) ic_5 ?_
      obtain ⟨x16, e15, h⟩ := bi_el h
      refine c_12_92 (As := [.int x1, .int 5]) (st1 := [.int x16, .ref (rf a0 0)]) rfl (fun Q1 hq => ok_12_ofPit e15 hq) rfl rfl (Nat.le_of_ble_eq_true rfl) (dd dt_12_kindOn 55 rfl) rfl ?_
      obtain ⟨x17, e18, h⟩ := bi_el h
      refine R_ild e18 (ty_12_0 k0) (dd dt_12_kindOn 56 rfl) ?_
      refine R_bipush (v := (-3)) (dd dt_12_kindOn 57 rfl) bp_m3 ?_
      refine R_cmpne (dd dt_12_kindOn 58 rfl) (tgt := 135) rfl (fun hc => ?_) (fun hc => ?_)
      · rw [if_neg hc] at h
        refine R_bipush (v := 6) (dd dt_12_kindOn 61 rfl) bp_6 ?_
        obtain rfl := Option.some.inj h
        exact R_iret rfl (dd dt_12_kindOn 62 rfl) hQ
      · rw [if_pos hc] at h
        refine R_iconst (v := 3) (dd dt_12_kindOn 59 rfl) ic_3 ?_
        refine R_goto (dd dt_12_kindOn 60 rfl) (tgt := 137) rfl ?_
        obtain rfl := Option.some.inj h
        exact R_iret rfl (dd dt_12_kindOn 62 rfl) hQ
    · rw [if_pos hc] at h
      refine R_iconst (v := (-1)) (dd dt_12_kindOn 49 rfl) ic_m1 ?_
      refine R_goto (dd dt_12_kindOn 50 rfl) (tgt := 137) rfl ?_
      obtain rfl := Option.some.inj h
      exact R_iret rfl (dd dt_12_kindOn 62 rfl) hQ
  rw [if_neg hs3] at h
  refine R_tabOut (tgt := 138) (dd dt_12_kindOn 9 rfl) (by have hn1 := lv_neT hs1 (a := 1) (by decide); have hn2 := lv_neT hs2 (a := 2) (by decide); have hn3 := lv_neT hs3 (a := 3) (by decide); omega) rfl ?_
  refine R_iconst (v := (-1)) (dd dt_12_kindOn 63 rfl) ic_m1 ?_
  obtain rfl := Option.some.inj h
  exact R_iret rfl (dd dt_12_kindOn 64 rfl) hQ
/-! LongStrikeModel.taken(II)I -/
def tab_12_taken : List (Nat × Instr × Nat) := [(0, .iload_n 1, 1), (1, .invokestatic 302, 3), (4, .ifCond .eq 24, 3), (7, .iload_n 2, 1), (8, .iconst 0, 1), (9, .bipush 6, 2), (11, .invokestatic 80, 3), (14, .ifCond .ne 16, 3), (17, .iload_n 2, 1), (18, .bipush 10, 2), (20, .bipush 14, 2), (22, .invokestatic 80, 3), (25, .ifCond .ne 5, 3), (28, .iconst (-1), 1), (29, .ireturn, 1), (30, .aload_n 0, 1), (31, .getfield 68, 3), (34, .iload_n 1, 1), (35, .iaload, 1), (36, .iconst 4, 1), (37, .if_icmp .ne 28, 3), (40, .iload_n 2, 1), (41, .bipush 10, 2), (43, .isub, 1), (44, .aload_n 0, 1), (45, .getfield 71, 3), (48, .iload_n 1, 1), (49, .iaload, 1), (50, .if_icmp .ne 12, 3), (53, .aload_n 0, 1), (54, .getfield 74, 3), (57, .iload_n 1, 1), (58, .iaload, 1), (59, .goto 5, 3), (62, .bipush (-13), 2), (64, .ireturn, 1), (65, .aload_n 0, 1), (66, .iload_n 1, 1), (67, .invokevirtual 313, 3), (70, .istore_n 3, 1), (71, .iload_n 3, 1), (72, .ifCond .ge 6, 3), (75, .bipush (-11), 2), (77, .ireturn, 1), (78, .iload_n 3, 1), (79, .ifCond .lt 16, 3), (82, .iload_n 3, 1), (83, .iload_n 2, 1), (84, .if_icmp .eq 11, 3), (87, .iload_n 3, 1), (88, .invokestatic 316, 3), (91, .istore_n 3, 1), (92, .goto (-14), 3), (95, .iload_n 3, 1), (96, .iload_n 2, 1), (97, .if_icmp .ne 12, 3), (100, .aload_n 0, 1), (101, .getfield 71, 3), (104, .iload_n 1, 1), (105, .iaload, 1), (106, .goto 5, 3), (109, .bipush (-13), 2), (111, .ireturn, 1)]
set_option maxRecDepth 100000 in
theorem dt_12_taken : ∀ q ∈ tab_12_taken, decode m_12_taken.2.1 q.1 = .ok q.2 := by decide +kernel
def f_12_taken_l78 (a0 : Nat) (a1 : Int32) (a2 : Int32) (μ : mm) : Nat → Int32 → Option (Int32)
  | 0, _ => none
  | n + 1, v3 => if v3 < 0 then
      some v3
    else
      if v3 = a2 then
        some v3
      else
        (f_12_above v3 μ).bind fun x2 =>
        f_12_taken_l78 a0 a1 a2 μ n x2
set_option maxRecDepth 100000 in
theorem ok_12_taken_l78 {l : Launch} {E : ce} {d : Nat} {Q : Option Value → mm → Prop} (a0 : Nat) (a1 : Int32) (a2 : Int32) (μ : mm) (k0 : kd a0 = 12) : ∀ (n : Nat) (v3 : Int32) (z : Int32), f_12_taken_l78 a0 a1 a2 μ n v3 = some z → Rj l E (d + 3) m_12_taken 95 [some (.ref a0), some (.int a1), some (.int a2), some (.int z)] [] μ Q → Rj l E (d + 3) m_12_taken 78 [some (.ref a0), some (.int a1), some (.int a2), some (.int v3)] [] μ Q
  | 0, _, z, h, _ => by
    rw [f_12_taken_l78] at h
    cases h
  | n + 1, v3, z, h, KX => by
    rw [f_12_taken_l78] at h
    refine R_iload_n (dd dt_12_taken 44 rfl) 3 rfl rfl ?_
    refine R_iflt (dd dt_12_taken 45 rfl) (tgt := 95) rfl (fun hc => ?_) (fun hc => ?_)
    · rw [if_pos hc] at h
      obtain rfl := Option.some.inj h
      exact R_mask [true, true, true, true] rfl KX
    · rw [if_neg hc] at h
      refine R_iload_n (dd dt_12_taken 46 rfl) 3 rfl rfl ?_
      refine R_iload_n (dd dt_12_taken 47 rfl) 2 rfl rfl ?_
      refine R_cmpeq (dd dt_12_taken 48 rfl) (tgt := 95) rfl (fun hc => ?_) (fun hc => ?_)
      · rw [if_pos hc] at h
        obtain rfl := Option.some.inj h
        exact R_mask [true, true, true, true] rfl KX
      · rw [if_neg hc] at h
        refine R_iload_n (dd dt_12_taken 49 rfl) 3 rfl rfl ?_
        obtain ⟨x2, e1, h⟩ := bi_el h
        refine c_12_316 (As := [.int v3]) (st1 := [.int x2]) rfl (fun Q1 hq => ok_12_above e1 hq) rfl rfl (Nat.le_of_ble_eq_true rfl) (dd dt_12_taken 50 rfl) rfl ?_
        refine R_istore_n (lv' := [some (.ref a0), some (.int a1), some (.int a2), some (.int x2)]) (dd dt_12_taken 51 rfl) 3 rfl (by decide) rfl rfl ?_
        refine R_goto (dd dt_12_taken 52 rfl) (tgt := 78) rfl ?_
        exact R_mask [true, true, true, true] rfl (ok_12_taken_l78 a0 a1 a2 μ k0 n x2 _ h KX)
def f_12_taken_b30 (a0 : Nat) (a1 : Int32) (a2 : Int32) (μ : mm) : Option (Int32) :=
  (ld μ (rf a0 29) a1).bind fun x1 =>
  if x1 = 4 then
    (ld μ (rf a0 30) a1).bind fun x9 =>
    if (a2 - 10) = x9 then
      (ld μ (rf a0 31) a1).bind fun x11 =>
      some x11
    else
      some (-13)
  else
    (f_12_kindOn a0 a1 μ).bind fun x4 =>
    if 0 ≤ x4 then
      (f_12_taken_l78 a0 a1 a2 μ FU x4).bind fun z5 =>
      if z5 = a2 then
        (ld μ (rf a0 30) a1).bind fun x7 =>
        some x7
      else
        some (-13)
    else
      some (-11)
set_option maxRecDepth 100000 in
set_option maxHeartbeats 4000000 in
theorem ok_12_taken_b30 {l : Launch} {E : ce} {d : Nat}  {a0 : Nat} {a1 : Int32} {a2 : Int32} {μ : mm} {r : Int32} {Q : Option Value → mm → Prop} (h : f_12_taken_b30 a0 a1 a2 μ = some r) (k0 : kd a0 = 12) (hQ : Q (some (.int r)) μ) : Rj l E (d + 3) m_12_taken 30 [some (.ref a0), some (.int a1), some (.int a2), none] [] μ Q := by
  unfold f_12_taken_b30 at h
  refine R_aload_n (dd dt_12_taken 15 rfl) 0 rfl rfl ?_
  refine g_12_68 rfl k0 (dd dt_12_taken 16 rfl) ?_
  refine R_iload_n (dd dt_12_taken 17 rfl) 1 rfl rfl ?_
  obtain ⟨x1, e2, h⟩ := bi_el h
  refine R_ild e2 (ty_12_29 k0) (dd dt_12_taken 18 rfl) ?_
  refine R_iconst (v := 4) (dd dt_12_taken 19 rfl) ic_4 ?_
  refine R_cmpne (dd dt_12_taken 20 rfl) (tgt := 65) rfl (fun hc => ?_) (fun hc => ?_)
  · rw [if_neg hc] at h
    refine R_aload_n (dd dt_12_taken 36 rfl) 0 rfl rfl ?_
    refine R_iload_n (dd dt_12_taken 37 rfl) 1 rfl rfl ?_
    obtain ⟨x4, e3, h⟩ := bi_el h
    refine c_12_313 (As := [.int a1]) (st1 := [.int x4]) rfl (fun Q1 hq => ok_12_kindOn e3 k0 hq) k0 rfl rfl (Nat.le_of_ble_eq_true rfl) (dd dt_12_taken 38 rfl) rfl ?_
    refine R_istore_n (lv' := [some (.ref a0), some (.int a1), some (.int a2), some (.int x4)]) (dd dt_12_taken 39 rfl) 3 rfl (by decide) rfl rfl ?_
    refine R_iload_n (dd dt_12_taken 40 rfl) 3 rfl rfl ?_
    refine R_ifge (dd dt_12_taken 41 rfl) (tgt := 78) rfl (fun hc => ?_) (fun hc => ?_)
    · rw [if_pos hc] at h
      obtain ⟨z5, e6, h⟩ := bi_el h
      refine R_mask [true, true, true, true] rfl (ok_12_taken_l78 a0 a1 a2 μ k0 FU x4 _ e6 ?_)
      refine R_iload_n (dd dt_12_taken 53 rfl) 3 rfl rfl ?_
      refine R_iload_n (dd dt_12_taken 54 rfl) 2 rfl rfl ?_
      refine R_cmpne (dd dt_12_taken 55 rfl) (tgt := 109) rfl (fun hc => ?_) (fun hc => ?_)
      · rw [if_neg hc] at h
        refine R_bipush (v := (-13)) (dd dt_12_taken 61 rfl) bp_m13 ?_
        obtain rfl := Option.some.inj h
        exact R_iret rfl (dd dt_12_taken 62 rfl) hQ
      · rw [if_pos hc] at h
        refine R_aload_n (dd dt_12_taken 56 rfl) 0 rfl rfl ?_
        refine g_12_71 rfl k0 (dd dt_12_taken 57 rfl) ?_
        refine R_iload_n (dd dt_12_taken 58 rfl) 1 rfl rfl ?_
        obtain ⟨x7, e8, h⟩ := bi_el h
        refine R_ild e8 (ty_12_30 k0) (dd dt_12_taken 59 rfl) ?_
        refine R_goto (dd dt_12_taken 60 rfl) (tgt := 111) rfl ?_
        obtain rfl := Option.some.inj h
        exact R_iret rfl (dd dt_12_taken 62 rfl) hQ
    · rw [if_neg hc] at h
      refine R_bipush (v := (-11)) (dd dt_12_taken 42 rfl) bp_m11 ?_
      obtain rfl := Option.some.inj h
      exact R_iret rfl (dd dt_12_taken 43 rfl) hQ
  · rw [if_pos hc] at h
    refine R_iload_n (dd dt_12_taken 21 rfl) 2 rfl rfl ?_
    refine R_bipush (v := 10) (dd dt_12_taken 22 rfl) bp_10 ?_
    refine R_isub (dd dt_12_taken 23 rfl) ?_
    refine R_aload_n (dd dt_12_taken 24 rfl) 0 rfl rfl ?_
    refine g_12_71 rfl k0 (dd dt_12_taken 25 rfl) ?_
    refine R_iload_n (dd dt_12_taken 26 rfl) 1 rfl rfl ?_
    obtain ⟨x9, e10, h⟩ := bi_el h
    refine R_ild e10 (ty_12_30 k0) (dd dt_12_taken 27 rfl) ?_
    refine R_cmpne (dd dt_12_taken 28 rfl) (tgt := 62) rfl (fun hc => ?_) (fun hc => ?_)
    · rw [if_neg hc] at h
      refine R_bipush (v := (-13)) (dd dt_12_taken 34 rfl) bp_m13 ?_
      obtain rfl := Option.some.inj h
      exact R_iret rfl (dd dt_12_taken 35 rfl) hQ
    · rw [if_pos hc] at h
      refine R_aload_n (dd dt_12_taken 29 rfl) 0 rfl rfl ?_
      refine g_12_74 rfl k0 (dd dt_12_taken 30 rfl) ?_
      refine R_iload_n (dd dt_12_taken 31 rfl) 1 rfl rfl ?_
      obtain ⟨x11, e12, h⟩ := bi_el h
      refine R_ild e12 (ty_12_31 k0) (dd dt_12_taken 32 rfl) ?_
      refine R_goto (dd dt_12_taken 33 rfl) (tgt := 64) rfl ?_
      obtain rfl := Option.some.inj h
      exact R_iret rfl (dd dt_12_taken 35 rfl) hQ
def f_12_taken (a0 : Nat) (a1 : Int32) (a2 : Int32) (μ : mm) : Option (Int32) :=
  (f_12_isFour a1 μ).bind fun x2 =>
  if x2 = 0 then
    some (-1)
  else
    (f_12_within a2 0 6 μ).bind fun x4 =>
    if x4 = 0 then
      (f_12_within a2 10 14 μ).bind fun x6 =>
      if x6 = 0 then
        some (-1)
      else
        f_12_taken_b30 a0 a1 a2 μ
    else
      f_12_taken_b30 a0 a1 a2 μ
set_option maxRecDepth 100000 in
set_option maxHeartbeats 4000000 in
theorem ok_12_taken {l : Launch} {E : ce} {d : Nat}  {a0 : Nat} {a1 : Int32} {a2 : Int32} {μ : mm} {r : Int32} {Q : Option Value → mm → Prop} (h : f_12_taken a0 a1 a2 μ = some r) (k0 : kd a0 = 12) (hQ : Q (some (.int r)) μ) : Ct l E (d + 3) yX12_taken m_12_taken [.ref a0, .int a1, .int a2] μ Q := by
  refine Ct_of (lv := [some (.ref a0), some (.int a1), some (.int a2), none]) (by decide) rfl (Nat.le_of_ble_eq_true rfl) rfl ?_
  unfold f_12_taken at h
  refine R_iload_n (dd dt_12_taken 0 rfl) 1 rfl rfl ?_
  obtain ⟨x2, e1, h⟩ := bi_el h
  refine c_12_302 (As := [.int a1]) (st1 := [.int x2]) rfl (fun Q1 hq => ok_12_isFour e1 hq) rfl rfl (Nat.le_of_ble_eq_true rfl) (dd dt_12_taken 1 rfl) rfl ?_
  refine R_ifeq (dd dt_12_taken 2 rfl) (tgt := 28) rfl (fun hc => ?_) (fun hc => ?_)
  · rw [if_pos hc] at h
    refine R_iconst (v := (-1)) (dd dt_12_taken 13 rfl) ic_m1 ?_
    obtain rfl := Option.some.inj h
    exact R_iret rfl (dd dt_12_taken 14 rfl) hQ
  · rw [if_neg hc] at h
    refine R_iload_n (dd dt_12_taken 3 rfl) 2 rfl rfl ?_
    refine R_iconst (v := 0) (dd dt_12_taken 4 rfl) ic_0 ?_
    refine R_bipush (v := 6) (dd dt_12_taken 5 rfl) bp_6 ?_
    obtain ⟨x4, e3, h⟩ := bi_el h
    refine c_12_80 (As := [.int a2, .int 0, .int 6]) (st1 := [.int x4]) rfl (fun Q1 hq => ok_12_within e3 hq) rfl rfl (Nat.le_of_ble_eq_true rfl) (dd dt_12_taken 6 rfl) rfl ?_
    refine R_ifne (dd dt_12_taken 7 rfl) (tgt := 30) rfl (fun hc => ?_) (fun hc => ?_)
    · rw [if_neg hc] at h
      exact R_mask [true, true, true, false] rfl (ok_12_taken_b30  h k0 hQ)
    · rw [if_pos hc] at h
      refine R_iload_n (dd dt_12_taken 8 rfl) 2 rfl rfl ?_
      refine R_bipush (v := 10) (dd dt_12_taken 9 rfl) bp_10 ?_
      refine R_bipush (v := 14) (dd dt_12_taken 10 rfl) bp_14 ?_
      obtain ⟨x6, e5, h⟩ := bi_el h
      refine c_12_80 (As := [.int a2, .int 10, .int 14]) (st1 := [.int x6]) rfl (fun Q1 hq => ok_12_within e5 hq) rfl rfl (Nat.le_of_ble_eq_true rfl) (dd dt_12_taken 11 rfl) rfl ?_
      refine R_ifne (dd dt_12_taken 12 rfl) (tgt := 30) rfl (fun hc => ?_) (fun hc => ?_)
      · rw [if_neg hc] at h
        exact R_mask [true, true, true, false] rfl (ok_12_taken_b30  h k0 hQ)
      · rw [if_pos hc] at h
        refine R_iconst (v := (-1)) (dd dt_12_taken 13 rfl) ic_m1 ?_
        obtain rfl := Option.some.inj h
        exact R_iret rfl (dd dt_12_taken 14 rfl) hQ
/-! LongStrikeModel.has(II)Z -/
def tab_12_has : List (Nat × Instr × Nat) := [(0, .iload_n 0, 1), (1, .tableswitch 109 0 5 #[39, 41, 56, 67, 83, 93], 39), (40, .iconst 1, 1), (41, .ireturn, 1), (42, .iload_n 1, 1), (43, .ifCond .eq 8, 3), (46, .iload_n 1, 1), (47, .iconst 2, 1), (48, .if_icmp .ne 7, 3), (51, .iconst 1, 1), (52, .goto 4, 3), (55, .iconst 0, 1), (56, .ireturn, 1), (57, .iload_n 1, 1), (58, .iconst 1, 1), (59, .if_icmp .ne 7, 3), (62, .iconst 1, 1), (63, .goto 4, 3), (66, .iconst 0, 1), (67, .ireturn, 1), (68, .iload_n 1, 1), (69, .iconst 2, 1), (70, .if_icmp .eq 8, 3), (73, .iload_n 1, 1), (74, .iconst 3, 1), (75, .if_icmp .ne 7, 3), (78, .iconst 1, 1), (79, .goto 4, 3), (82, .iconst 0, 1), (83, .ireturn, 1), (84, .iload_n 1, 1), (85, .ifCond .ne 7, 3), (88, .iconst 1, 1), (89, .goto 4, 3), (92, .iconst 0, 1), (93, .ireturn, 1), (94, .iload_n 1, 1), (95, .iconst 1, 1), (96, .if_icmp .eq 8, 3), (99, .iload_n 1, 1), (100, .iconst 3, 1), (101, .if_icmp .ne 7, 3), (104, .iconst 1, 1), (105, .goto 4, 3), (108, .iconst 0, 1), (109, .ireturn, 1), (110, .iload_n 1, 1), (111, .iconst 2, 1), (112, .if_icmp .eq 7, 3), (115, .iload_n 1, 1), (116, .ifCond .ne 7, 3), (119, .iconst 1, 1), (120, .goto 4, 3), (123, .iconst 0, 1), (124, .ireturn, 1)]
set_option maxRecDepth 100000 in
theorem dt_12_has : ∀ q ∈ tab_12_has, decode m_12_has.2.1 q.1 = .ok q.2 := by decide +kernel
def f_12_has (a0 : Int32) (a1 : Int32) (μ : mm) : Option (Int32) :=
  if a0 = 0 then
    some 1
  else if a0 = 1 then
    if a1 = 0 then
      some 1
    else
      if a1 = 2 then
        some 1
      else
        some 0
  else if a0 = 2 then
    if a1 = 1 then
      some 1
    else
      some 0
  else if a0 = 3 then
    if a1 = 2 then
      some 1
    else
      if a1 = 3 then
        some 1
      else
        some 0
  else if a0 = 4 then
    if a1 = 0 then
      some 1
    else
      some 0
  else if a0 = 5 then
    if a1 = 1 then
      some 1
    else
      if a1 = 3 then
        some 1
      else
        some 0
  else 
    if a1 = 2 then
      some 1
    else
      if a1 = 0 then
        some 1
      else
        some 0
set_option maxRecDepth 100000 in
set_option maxHeartbeats 4000000 in
theorem ok_12_has {l : Launch} {E : ce} {d : Nat}  {a0 : Int32} {a1 : Int32} {μ : mm} {r : Int32} {Q : Option Value → mm → Prop} (h : f_12_has a0 a1 μ = some r)  (hQ : Q (some (.int r)) μ) : Ct l E d yX12_has m_12_has [.int a0, .int a1] μ Q := by
  refine Ct_of (lv := [some (.int a0), some (.int a1)]) (by decide) rfl (Nat.le_of_ble_eq_true rfl) rfl ?_
  unfold f_12_has at h
  refine R_iload_n (dd dt_12_has 0 rfl) 0 rfl rfl ?_
  by_cases hs0 : a0 = 0
  · refine R_tabIn (off := 39) (tgt := 40) (dd dt_12_has 1 rfl) (by rw [hs0]; decide) (by rw [hs0]; decide) (by rw [hs0]; rfl) rfl ?_
    rw [if_pos hs0] at h
    refine R_iconst (v := 1) (dd dt_12_has 2 rfl) ic_1 ?_
    obtain rfl := Option.some.inj h
    exact R_zret rfl (by decide) (dd dt_12_has 3 rfl) hQ
  rw [if_neg hs0] at h
  by_cases hs1 : a0 = 1
  · refine R_tabIn (off := 41) (tgt := 42) (dd dt_12_has 1 rfl) (by rw [hs1]; decide) (by rw [hs1]; decide) (by rw [hs1]; rfl) rfl ?_
    rw [if_pos hs1] at h
    refine R_iload_n (dd dt_12_has 4 rfl) 1 rfl rfl ?_
    refine R_ifeq (dd dt_12_has 5 rfl) (tgt := 51) rfl (fun hc => ?_) (fun hc => ?_)
    · rw [if_pos hc] at h
      refine R_iconst (v := 1) (dd dt_12_has 9 rfl) ic_1 ?_
      refine R_goto (dd dt_12_has 10 rfl) (tgt := 56) rfl ?_
      obtain rfl := Option.some.inj h
      exact R_zret rfl (by decide) (dd dt_12_has 12 rfl) hQ
    · rw [if_neg hc] at h
      refine R_iload_n (dd dt_12_has 6 rfl) 1 rfl rfl ?_
      refine R_iconst (v := 2) (dd dt_12_has 7 rfl) ic_2 ?_
      refine R_cmpne (dd dt_12_has 8 rfl) (tgt := 55) rfl (fun hc => ?_) (fun hc => ?_)
      · rw [if_neg hc] at h
        refine R_iconst (v := 0) (dd dt_12_has 11 rfl) ic_0 ?_
        obtain rfl := Option.some.inj h
        exact R_zret rfl (by decide) (dd dt_12_has 12 rfl) hQ
      · rw [if_pos hc] at h
        refine R_iconst (v := 1) (dd dt_12_has 9 rfl) ic_1 ?_
        refine R_goto (dd dt_12_has 10 rfl) (tgt := 56) rfl ?_
        obtain rfl := Option.some.inj h
        exact R_zret rfl (by decide) (dd dt_12_has 12 rfl) hQ
  rw [if_neg hs1] at h
  by_cases hs2 : a0 = 2
  · refine R_tabIn (off := 56) (tgt := 57) (dd dt_12_has 1 rfl) (by rw [hs2]; decide) (by rw [hs2]; decide) (by rw [hs2]; rfl) rfl ?_
    rw [if_pos hs2] at h
    refine R_iload_n (dd dt_12_has 13 rfl) 1 rfl rfl ?_
    refine R_iconst (v := 1) (dd dt_12_has 14 rfl) ic_1 ?_
    refine R_cmpne (dd dt_12_has 15 rfl) (tgt := 66) rfl (fun hc => ?_) (fun hc => ?_)
    · rw [if_neg hc] at h
      refine R_iconst (v := 0) (dd dt_12_has 18 rfl) ic_0 ?_
      obtain rfl := Option.some.inj h
      exact R_zret rfl (by decide) (dd dt_12_has 19 rfl) hQ
    · rw [if_pos hc] at h
      refine R_iconst (v := 1) (dd dt_12_has 16 rfl) ic_1 ?_
      refine R_goto (dd dt_12_has 17 rfl) (tgt := 67) rfl ?_
      obtain rfl := Option.some.inj h
      exact R_zret rfl (by decide) (dd dt_12_has 19 rfl) hQ
  rw [if_neg hs2] at h
  by_cases hs3 : a0 = 3
  · refine R_tabIn (off := 67) (tgt := 68) (dd dt_12_has 1 rfl) (by rw [hs3]; decide) (by rw [hs3]; decide) (by rw [hs3]; rfl) rfl ?_
    rw [if_pos hs3] at h
    refine R_iload_n (dd dt_12_has 20 rfl) 1 rfl rfl ?_
    refine R_iconst (v := 2) (dd dt_12_has 21 rfl) ic_2 ?_
    refine R_cmpeq (dd dt_12_has 22 rfl) (tgt := 78) rfl (fun hc => ?_) (fun hc => ?_)
    · rw [if_pos hc] at h
      refine R_iconst (v := 1) (dd dt_12_has 26 rfl) ic_1 ?_
      refine R_goto (dd dt_12_has 27 rfl) (tgt := 83) rfl ?_
      obtain rfl := Option.some.inj h
      exact R_zret rfl (by decide) (dd dt_12_has 29 rfl) hQ
    · rw [if_neg hc] at h
      refine R_iload_n (dd dt_12_has 23 rfl) 1 rfl rfl ?_
      refine R_iconst (v := 3) (dd dt_12_has 24 rfl) ic_3 ?_
      refine R_cmpne (dd dt_12_has 25 rfl) (tgt := 82) rfl (fun hc => ?_) (fun hc => ?_)
      · rw [if_neg hc] at h
        refine R_iconst (v := 0) (dd dt_12_has 28 rfl) ic_0 ?_
        obtain rfl := Option.some.inj h
        exact R_zret rfl (by decide) (dd dt_12_has 29 rfl) hQ
      · rw [if_pos hc] at h
        refine R_iconst (v := 1) (dd dt_12_has 26 rfl) ic_1 ?_
        refine R_goto (dd dt_12_has 27 rfl) (tgt := 83) rfl ?_
        obtain rfl := Option.some.inj h
        exact R_zret rfl (by decide) (dd dt_12_has 29 rfl) hQ
  rw [if_neg hs3] at h
  by_cases hs4 : a0 = 4
  · refine R_tabIn (off := 83) (tgt := 84) (dd dt_12_has 1 rfl) (by rw [hs4]; decide) (by rw [hs4]; decide) (by rw [hs4]; rfl) rfl ?_
    rw [if_pos hs4] at h
    refine R_iload_n (dd dt_12_has 30 rfl) 1 rfl rfl ?_
    refine R_ifne (dd dt_12_has 31 rfl) (tgt := 92) rfl (fun hc => ?_) (fun hc => ?_)
    · rw [if_neg hc] at h
      refine R_iconst (v := 0) (dd dt_12_has 34 rfl) ic_0 ?_
      obtain rfl := Option.some.inj h
      exact R_zret rfl (by decide) (dd dt_12_has 35 rfl) hQ
    · rw [if_pos hc] at h
      refine R_iconst (v := 1) (dd dt_12_has 32 rfl) ic_1 ?_
      refine R_goto (dd dt_12_has 33 rfl) (tgt := 93) rfl ?_
      obtain rfl := Option.some.inj h
      exact R_zret rfl (by decide) (dd dt_12_has 35 rfl) hQ
  rw [if_neg hs4] at h
  by_cases hs5 : a0 = 5
  · refine R_tabIn (off := 93) (tgt := 94) (dd dt_12_has 1 rfl) (by rw [hs5]; decide) (by rw [hs5]; decide) (by rw [hs5]; rfl) rfl ?_
    rw [if_pos hs5] at h
    refine R_iload_n (dd dt_12_has 36 rfl) 1 rfl rfl ?_
    refine R_iconst (v := 1) (dd dt_12_has 37 rfl) ic_1 ?_
    refine R_cmpeq (dd dt_12_has 38 rfl) (tgt := 104) rfl (fun hc => ?_) (fun hc => ?_)
    · rw [if_pos hc] at h
      refine R_iconst (v := 1) (dd dt_12_has 42 rfl) ic_1 ?_
      refine R_goto (dd dt_12_has 43 rfl) (tgt := 109) rfl ?_
      obtain rfl := Option.some.inj h
      exact R_zret rfl (by decide) (dd dt_12_has 45 rfl) hQ
    · rw [if_neg hc] at h
      refine R_iload_n (dd dt_12_has 39 rfl) 1 rfl rfl ?_
      refine R_iconst (v := 3) (dd dt_12_has 40 rfl) ic_3 ?_
      refine R_cmpne (dd dt_12_has 41 rfl) (tgt := 108) rfl (fun hc => ?_) (fun hc => ?_)
      · rw [if_neg hc] at h
        refine R_iconst (v := 0) (dd dt_12_has 44 rfl) ic_0 ?_
        obtain rfl := Option.some.inj h
        exact R_zret rfl (by decide) (dd dt_12_has 45 rfl) hQ
      · rw [if_pos hc] at h
        refine R_iconst (v := 1) (dd dt_12_has 42 rfl) ic_1 ?_
        refine R_goto (dd dt_12_has 43 rfl) (tgt := 109) rfl ?_
        obtain rfl := Option.some.inj h
        exact R_zret rfl (by decide) (dd dt_12_has 45 rfl) hQ
  rw [if_neg hs5] at h
  refine R_tabOut (tgt := 110) (dd dt_12_has 1 rfl) (by have hn0 := lv_neT hs0 (a := 0) (by decide); have hn1 := lv_neT hs1 (a := 1) (by decide); have hn2 := lv_neT hs2 (a := 2) (by decide); have hn3 := lv_neT hs3 (a := 3) (by decide); have hn4 := lv_neT hs4 (a := 4) (by decide); have hn5 := lv_neT hs5 (a := 5) (by decide); omega) rfl ?_
  refine R_iload_n (dd dt_12_has 46 rfl) 1 rfl rfl ?_
  refine R_iconst (v := 2) (dd dt_12_has 47 rfl) ic_2 ?_
  refine R_cmpeq (dd dt_12_has 48 rfl) (tgt := 119) rfl (fun hc => ?_) (fun hc => ?_)
  · rw [if_pos hc] at h
    refine R_iconst (v := 1) (dd dt_12_has 51 rfl) ic_1 ?_
    refine R_goto (dd dt_12_has 52 rfl) (tgt := 124) rfl ?_
    obtain rfl := Option.some.inj h
    exact R_zret rfl (by decide) (dd dt_12_has 54 rfl) hQ
  · rw [if_neg hc] at h
    refine R_iload_n (dd dt_12_has 49 rfl) 1 rfl rfl ?_
    refine R_ifne (dd dt_12_has 50 rfl) (tgt := 123) rfl (fun hc => ?_) (fun hc => ?_)
    · rw [if_neg hc] at h
      refine R_iconst (v := 0) (dd dt_12_has 53 rfl) ic_0 ?_
      obtain rfl := Option.some.inj h
      exact R_zret rfl (by decide) (dd dt_12_has 54 rfl) hQ
    · rw [if_pos hc] at h
      refine R_iconst (v := 1) (dd dt_12_has 51 rfl) ic_1 ?_
      refine R_goto (dd dt_12_has 52 rfl) (tgt := 124) rfl ?_
      obtain rfl := Option.some.inj h
      exact R_zret rfl (by decide) (dd dt_12_has 54 rfl) hQ
/-! LongStrikeModel.began(I)V -/
def tab_12_began : List (Nat × Instr × Nat) := [(0, .aload_n 0, 1), (1, .getfield 319, 3), (4, .bipush 30, 2), (6, .if_icmp .ge 23, 3), (9, .aload_n 0, 1), (10, .getfield 77, 3), (13, .aload_n 0, 1), (14, .getfield 319, 3), (17, .iload_n 1, 1), (18, .iastore, 1), (19, .aload_n 0, 1), (20, .dup, 1), (21, .getfield 319, 3), (24, .iconst 1, 1), (25, .iadd, 1), (26, .putfield 319, 3), (29, .return_, 1)]
set_option maxRecDepth 100000 in
theorem dt_12_began : ∀ q ∈ tab_12_began, decode m_12_began.2.1 q.1 = .ok q.2 := by decide +kernel
def f_12_began (a0 : Nat) (a1 : Int32) (μ : mm) : Option (mm) :=
  if 30 ≤ (μ a0 33) then
    some μ
  else
    (sto μ (rf a0 32) (μ a0 33) a1).bind fun μ1 =>
    (pf μ1 a0 33 ((μ1 a0 33) + 1)).bind fun μ3 =>
    some μ3
set_option maxRecDepth 100000 in
set_option maxHeartbeats 4000000 in
theorem ok_12_began {l : Launch} {E : ce} {d : Nat}  {a0 : Nat} {a1 : Int32} {μ : mm} {r : mm} {Q : Option Value → mm → Prop} (h : f_12_began a0 a1 μ = some r) (k0 : kd a0 = 12) (hQ : Q none r) : Ct l E d yX12_began m_12_began [.ref a0, .int a1] μ Q := by
  refine Ct_of (lv := [some (.ref a0), some (.int a1)]) (by decide) rfl (Nat.le_of_ble_eq_true rfl) rfl ?_
  unfold f_12_began at h
  refine R_aload_n (dd dt_12_began 0 rfl) 0 rfl rfl ?_
  refine g_12_319 rfl k0 (dd dt_12_began 1 rfl) ?_
  refine R_bipush (v := 30) (dd dt_12_began 2 rfl) bp_30 ?_
  refine R_cmpge (dd dt_12_began 3 rfl) (tgt := 29) rfl (fun hc => ?_) (fun hc => ?_)
  · rw [if_pos hc] at h
    obtain rfl := Option.some.inj h
    exact R_vret rfl (dd dt_12_began 16 rfl) hQ
  · rw [if_neg hc] at h
    refine R_aload_n (dd dt_12_began 4 rfl) 0 rfl rfl ?_
    refine g_12_77 rfl k0 (dd dt_12_began 5 rfl) ?_
    refine R_aload_n (dd dt_12_began 6 rfl) 0 rfl rfl ?_
    refine g_12_319 rfl k0 (dd dt_12_began 7 rfl) ?_
    refine R_iload_n (dd dt_12_began 8 rfl) 1 rfl rfl ?_
    obtain ⟨μ1, e2, h⟩ := bi_el h
    refine R_isto e2 (ty_12_32 k0) (dd dt_12_began 9 rfl) ?_
    refine R_aload_n (dd dt_12_began 10 rfl) 0 rfl rfl ?_
    refine R_dup (dd dt_12_began 11 rfl) rfl ?_
    refine g_12_319 rfl k0 (dd dt_12_began 12 rfl) ?_
    refine R_iconst (v := 1) (dd dt_12_began 13 rfl) ic_1 ?_
    refine R_iadd (dd dt_12_began 14 rfl) ?_
    obtain ⟨μ3, e4, h⟩ := bi_el h
    refine p_12_319 rfl k0 (dd dt_12_began 15 rfl) e4 ?_
    obtain rfl := Option.some.inj h
    exact R_vret rfl (dd dt_12_began 16 rfl) hQ
