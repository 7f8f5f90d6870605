/-! LongStrikeModel.days(I)I -/
def tab_12_days : List (Nat × Instr × Nat) := [(0, .iload_n 1, 1), (1, .iconst 1, 1), (2, .bipush 60, 2), (4, .invokestatic 80, 3), (7, .ifCond .ne 5, 3), (10, .iconst (-1), 1), (11, .ireturn, 1), (12, .aload_n 0, 1), (13, .getfield 9, 3), (16, .iconst 0, 1), (17, .iaload, 1), (18, .iload_n 1, 1), (19, .iadd, 1), (20, .sipush 999, 3), (23, .if_icmp .le 6, 3), (26, .bipush (-4), 2), (28, .ireturn, 1), (29, .iconst 0, 1), (30, .istore_n 2, 1), (31, .iload_n 2, 1), (32, .iload_n 1, 1), (33, .if_icmp .ge 33, 3), (36, .aload_n 0, 1), (37, .getfield 9, 3), (40, .iconst 0, 1), (41, .dup2, 1), (42, .iaload, 1), (43, .iconst 1, 1), (44, .iadd, 1), (45, .iastore, 1), (46, .aload_n 0, 1), (47, .invokevirtual 253, 3), (50, .aload_n 0, 1), (51, .iconst 1, 1), (52, .invokevirtual 256, 3), (55, .aload_n 0, 1), (56, .iconst 1, 1), (57, .invokevirtual 259, 3), (60, .iinc 2 1, 3), (63, .goto (-32), 3), (66, .aload_n 0, 1), (67, .getfield 9, 3), (70, .iconst 0, 1), (71, .iaload, 1), (72, .ireturn, 1)]
set_option maxRecDepth 100000 in
theorem dt_12_days : ∀ q ∈ tab_12_days, decode m_12_days.2.1 q.1 = .ok q.2 := by decide +kernel
def f_12_days_l31 (a0 : Nat) (a1 : Int32) : Nat → Int32 → mm → Option (mm)
  | 0, _, _ => none
  | n + 1, v2, μ => if a1 ≤ v2 then
      some μ
    else
      (ld μ (rf a0 0) 0).bind fun x1 =>
      (sto μ (rf a0 0) 0 (x1 + 1)).bind fun μ3 =>
      (f_12_pitsGo a0 μ3).bind fun μ6 =>
      (f_12_valleyGoes a0 1 μ6).bind fun μ8 =>
      (f_12_worksGo a0 1 μ8).bind fun μ10 =>
      f_12_days_l31 a0 a1 n (v2 + 1) μ10
set_option maxRecDepth 100000 in
theorem ok_12_days_l31 {l : Launch} {E : ce} {d : Nat} {Q : Option Value → mm → Prop} (a0 : Nat) (a1 : Int32) (k0 : kd a0 = 12) : ∀ (n : Nat) (v2 : Int32) (μ : mm) (z : mm), f_12_days_l31 a0 a1 n v2 μ = some z → Rj l E (d + 7) m_12_days 66 [some (.ref a0), none, none] [] z Q → Rj l E (d + 7) m_12_days 31 [some (.ref a0), some (.int a1), some (.int v2)] [] μ Q
  | 0, _, _, z, h, _ => by
    rw [f_12_days_l31] at h
    cases h
  | n + 1, v2, μ, z, h, KX => by
    rw [f_12_days_l31] at h
    refine R_iload_n (dd dt_12_days 19 rfl) 2 rfl rfl ?_
    refine R_iload_n (dd dt_12_days 20 rfl) 1 rfl rfl ?_
    refine R_cmpge (dd dt_12_days 21 rfl) (tgt := 66) rfl (fun hc => ?_) (fun hc => ?_)
    · rw [if_pos hc] at h
      obtain rfl := Option.some.inj h
      exact R_mask [true, false, false] rfl KX
    · rw [if_neg hc] at h
      refine R_aload_n (dd dt_12_days 22 rfl) 0 rfl rfl ?_
      refine g_12_9 rfl k0 (dd dt_12_days 23 rfl) ?_
      refine R_iconst (v := 0) (dd dt_12_days 24 rfl) ic_0 ?_
      refine R_dup2 (dd dt_12_days 25 rfl) rfl rfl ?_
      obtain ⟨x1, e2, h⟩ := bi_el h
      refine R_ild e2 (ty_12_0 k0) (dd dt_12_days 26 rfl) ?_
      refine R_iconst (v := 1) (dd dt_12_days 27 rfl) ic_1 ?_
      refine R_iadd (dd dt_12_days 28 rfl) ?_
      obtain ⟨μ3, e4, h⟩ := bi_el h
      refine R_isto e4 (ty_12_0 k0) (dd dt_12_days 29 rfl) ?_
      refine R_aload_n (dd dt_12_days 30 rfl) 0 rfl rfl ?_
      obtain ⟨μ6, e5, h⟩ := bi_el h
      refine c_12_253 (As := []) (st1 := []) rfl (fun Q1 hq => ok_12_pitsGo e5 k0 hq) k0 rfl rfl (Nat.le_of_ble_eq_true rfl) (dd dt_12_days 31 rfl) rfl ?_
      refine R_aload_n (dd dt_12_days 32 rfl) 0 rfl rfl ?_
      refine R_iconst (v := 1) (dd dt_12_days 33 rfl) ic_1 ?_
      obtain ⟨μ8, e7, h⟩ := bi_el h
      refine c_12_256 (As := [.int 1]) (st1 := []) rfl (fun Q1 hq => ok_12_valleyGoes e7 k0 hq) k0 rfl rfl (Nat.le_of_ble_eq_true rfl) (dd dt_12_days 34 rfl) rfl ?_
      refine R_aload_n (dd dt_12_days 35 rfl) 0 rfl rfl ?_
      refine R_iconst (v := 1) (dd dt_12_days 36 rfl) ic_1 ?_
      obtain ⟨μ10, e9, h⟩ := bi_el h
      refine c_12_259 (As := [.int 1]) (st1 := []) rfl (fun Q1 hq => ok_12_worksGo e9 k0 hq) k0 rfl rfl (Nat.le_of_ble_eq_true rfl) (dd dt_12_days 37 rfl) rfl ?_
      refine R_iinc (v := 1) (lv' := [some (.ref a0), some (.int a1), some (.int (v2 + 1))]) (dd dt_12_days 38 rfl) (by decide) rfl rfl ic_1 rfl ?_
      refine R_goto (dd dt_12_days 39 rfl) (tgt := 31) rfl ?_
      exact R_mask [true, true, true] rfl (ok_12_days_l31 a0 a1 k0 n (v2 + 1) μ10 _ h KX)
def f_12_days (a0 : Nat) (a1 : Int32) (μ : mm) : Option (Int32 × mm) :=
  (f_12_within a1 1 60 μ).bind fun x2 =>
  if x2 = 0 then
    some ((-1), μ)
  else
    (ld μ (rf a0 0) 0).bind fun x3 =>
    if (x3 + a1) ≤ 999 then
      (f_12_days_l31 a0 a1 FU 0 μ).bind fun z5 =>
      (ld z5 (rf a0 0) 0).bind fun x7 =>
      some (x7, z5)
    else
      some ((-4), μ)
set_option maxRecDepth 100000 in
set_option maxHeartbeats 4000000 in
theorem ok_12_days {l : Launch} {E : ce} {d : Nat}  {a0 : Nat} {a1 : Int32} {μ : mm} {r : Int32 × mm} {Q : Option Value → mm → Prop} (h : f_12_days a0 a1 μ = some r) (k0 : kd a0 = 12) (hQ : Q (some (.int r.1)) r.2) : Ct l E (d + 7) yX12_days m_12_days [.ref a0, .int a1] μ Q := by
  refine Ct_of (lv := [some (.ref a0), some (.int a1), none]) (by decide) rfl (Nat.le_of_ble_eq_true rfl) rfl ?_
  unfold f_12_days at h
  refine R_iload_n (dd dt_12_days 0 rfl) 1 rfl rfl ?_
  refine R_iconst (v := 1) (dd dt_12_days 1 rfl) ic_1 ?_
  refine R_bipush (v := 60) (dd dt_12_days 2 rfl) bp_60 ?_
  obtain ⟨x2, e1, h⟩ := bi_el h
  refine c_12_80 (As := [.int a1, .int 1, .int 60]) (st1 := [.int x2]) rfl (fun Q1 hq => ok_12_within e1 hq) rfl rfl (Nat.le_of_ble_eq_true rfl) (dd dt_12_days 3 rfl) rfl ?_
  refine R_ifne (dd dt_12_days 4 rfl) (tgt := 12) rfl (fun hc => ?_) (fun hc => ?_)
  · rw [if_neg hc] at h
    refine R_aload_n (dd dt_12_days 7 rfl) 0 rfl rfl ?_
    refine g_12_9 rfl k0 (dd dt_12_days 8 rfl) ?_
    refine R_iconst (v := 0) (dd dt_12_days 9 rfl) ic_0 ?_
    obtain ⟨x3, e4, h⟩ := bi_el h
    refine R_ild e4 (ty_12_0 k0) (dd dt_12_days 10 rfl) ?_
    refine R_iload_n (dd dt_12_days 11 rfl) 1 rfl rfl ?_
    refine R_iadd (dd dt_12_days 12 rfl) ?_
    refine R_sipush (v := 999) (dd dt_12_days 13 rfl) sp_999 ?_
    refine R_cmple (dd dt_12_days 14 rfl) (tgt := 29) rfl (fun hc => ?_) (fun hc => ?_)
    · rw [if_pos hc] at h
      refine R_iconst (v := 0) (dd dt_12_days 17 rfl) ic_0 ?_
      refine R_istore_n (lv' := [some (.ref a0), some (.int a1), some (.int 0)]) (dd dt_12_days 18 rfl) 2 rfl (by decide) rfl rfl ?_
      obtain ⟨z5, e6, h⟩ := bi_el h
      refine R_mask [true, true, true] rfl (ok_12_days_l31 a0 a1 k0 FU 0 μ _ e6 ?_)
      refine R_aload_n (dd dt_12_days 40 rfl) 0 rfl rfl ?_
      refine g_12_9 rfl k0 (dd dt_12_days 41 rfl) ?_
      refine R_iconst (v := 0) (dd dt_12_days 42 rfl) ic_0 ?_
      obtain ⟨x7, e8, h⟩ := bi_el h
      refine R_ild e8 (ty_12_0 k0) (dd dt_12_days 43 rfl) ?_
      obtain rfl := Option.some.inj h
      exact R_iret rfl (dd dt_12_days 44 rfl) hQ
    · rw [if_neg hc] at h
      refine R_bipush (v := (-4)) (dd dt_12_days 15 rfl) bp_m4 ?_
      obtain rfl := Option.some.inj h
      exact R_iret rfl (dd dt_12_days 16 rfl) hQ
  · rw [if_pos hc] at h
    refine R_iconst (v := (-1)) (dd dt_12_days 5 rfl) ic_m1 ?_
    obtain rfl := Option.some.inj h
    exact R_iret rfl (dd dt_12_days 6 rfl) hQ
/-! LongStrikeModel.news(II)I -/
def tab_12_news : List (Nat × Instr × Nat) := [(0, .aload_n 0, 1), (1, .iload_n 1, 1), (2, .bipush 8, 2), (4, .invokevirtual 84, 3), (7, .ifCond .eq 14, 3), (10, .iload_n 2, 1), (11, .bipush (-20), 2), (13, .bipush 20, 2), (15, .invokestatic 80, 3), (18, .ifCond .ne 5, 3), (21, .iconst (-1), 1), (22, .ireturn, 1), (23, .aload_n 0, 1), (24, .getfield 9, 3), (27, .bipush 12, 2), (29, .iaload, 1), (30, .istore_n 3, 1), (31, .iload_n 3, 1), (32, .bipush 12, 2), (34, .if_icmp .ne 6, 3), (37, .bipush (-2), 2), (39, .ireturn, 1), (40, .aload_n 0, 1), (41, .getfield 9, 3), (44, .sipush 771, 3), (47, .iconst 3, 1), (48, .iload_n 3, 1), (49, .imul, 1), (50, .iadd, 1), (51, .iload_n 1, 1), (52, .iastore, 1), (53, .aload_n 0, 1), (54, .getfield 9, 3), (57, .sipush 771, 3), (60, .iconst 3, 1), (61, .iload_n 3, 1), (62, .imul, 1), (63, .iadd, 1), (64, .iconst 1, 1), (65, .iadd, 1), (66, .aload_n 0, 1), (67, .getfield 9, 3), (70, .iconst 0, 1), (71, .iaload, 1), (72, .iastore, 1), (73, .aload_n 0, 1), (74, .getfield 9, 3), (77, .sipush 771, 3), (80, .iconst 3, 1), (81, .iload_n 3, 1), (82, .imul, 1), (83, .iadd, 1), (84, .iconst 2, 1), (85, .iadd, 1), (86, .iload_n 2, 1), (87, .iastore, 1), (88, .aload_n 0, 1), (89, .getfield 9, 3), (92, .bipush 12, 2), (94, .dup2, 1), (95, .iaload, 1), (96, .iconst 1, 1), (97, .iadd, 1), (98, .iastore, 1), (99, .iload_n 3, 1), (100, .ireturn, 1)]
set_option maxRecDepth 100000 in
theorem dt_12_news : ∀ q ∈ tab_12_news, decode m_12_news.2.1 q.1 = .ok q.2 := by decide +kernel
def f_12_news (a0 : Nat) (a1 : Int32) (a2 : Int32) (μ : mm) : Option (Int32 × mm) :=
  (f_12_is a0 a1 8 μ).bind fun x2 =>
  if x2 = 0 then
    some ((-1), μ)
  else
    (f_12_within a2 (-20) 20 μ).bind fun x4 =>
    if x4 = 0 then
      some ((-1), μ)
    else
      (ld μ (rf a0 0) 12).bind fun x5 =>
      if x5 = 12 then
        some ((-2), μ)
      else
        (sto μ (rf a0 0) (771 + (3 * x5)) a1).bind fun μ7 =>
        (ld μ7 (rf a0 0) 0).bind fun x9 =>
        (sto μ7 (rf a0 0) ((771 + (3 * x5)) + 1) x9).bind fun μ11 =>
        (sto μ11 (rf a0 0) ((771 + (3 * x5)) + 2) a2).bind fun μ13 =>
        (ld μ13 (rf a0 0) 12).bind fun x15 =>
        (sto μ13 (rf a0 0) 12 (x15 + 1)).bind fun μ17 =>
        some (x5, μ17)
set_option maxRecDepth 100000 in
set_option maxHeartbeats 4000000 in
theorem ok_12_news {l : Launch} {E : ce} {d : Nat}  {a0 : Nat} {a1 : Int32} {a2 : Int32} {μ : mm} {r : Int32 × mm} {Q : Option Value → mm → Prop} (h : f_12_news a0 a1 a2 μ = some r) (k0 : kd a0 = 12) (hQ : Q (some (.int r.1)) r.2) : Ct l E (d + 2) yX12_news m_12_news [.ref a0, .int a1, .int a2] μ Q := by
  refine Ct_of (lv := [some (.ref a0), some (.int a1), some (.int a2), none]) (by decide) rfl (Nat.le_of_ble_eq_true rfl) rfl ?_
  unfold f_12_news at h
  refine R_aload_n (dd dt_12_news 0 rfl) 0 rfl rfl ?_
  refine R_iload_n (dd dt_12_news 1 rfl) 1 rfl rfl ?_
  refine R_bipush (v := 8) (dd dt_12_news 2 rfl) bp_8 ?_
  obtain ⟨x2, e1, h⟩ := bi_el h
  refine c_12_84 (As := [.int a1, .int 8]) (st1 := [.int x2]) rfl (fun Q1 hq => ok_12_is e1 k0 hq) k0 rfl rfl (Nat.le_of_ble_eq_true rfl) (dd dt_12_news 3 rfl) rfl ?_
  refine R_ifeq (dd dt_12_news 4 rfl) (tgt := 21) rfl (fun hc => ?_) (fun hc => ?_)
  · rw [if_pos hc] at h
    refine R_iconst (v := (-1)) (dd dt_12_news 10 rfl) ic_m1 ?_
    obtain rfl := Option.some.inj h
    exact R_iret rfl (dd dt_12_news 11 rfl) hQ
  · rw [if_neg hc] at h
    refine R_iload_n (dd dt_12_news 5 rfl) 2 rfl rfl ?_
    refine R_bipush (v := (-20)) (dd dt_12_news 6 rfl) bp_m20 ?_
    refine R_bipush (v := 20) (dd dt_12_news 7 rfl) bp_20 ?_
    obtain ⟨x4, e3, h⟩ := bi_el h
    refine c_12_80 (As := [.int a2, .int (-20), .int 20]) (st1 := [.int x4]) rfl (fun Q1 hq => ok_12_within e3 hq) rfl rfl (Nat.le_of_ble_eq_true rfl) (dd dt_12_news 8 rfl) rfl ?_
    refine R_ifne (dd dt_12_news 9 rfl) (tgt := 23) rfl (fun hc => ?_) (fun hc => ?_)
    · rw [if_neg hc] at h
      refine R_aload_n (dd dt_12_news 12 rfl) 0 rfl rfl ?_
      refine g_12_9 rfl k0 (dd dt_12_news 13 rfl) ?_
      refine R_bipush (v := 12) (dd dt_12_news 14 rfl) bp_12 ?_
      obtain ⟨x5, e6, h⟩ := bi_el h
      refine R_ild e6 (ty_12_0 k0) (dd dt_12_news 15 rfl) ?_
      refine R_istore_n (lv' := [some (.ref a0), some (.int a1), some (.int a2), some (.int x5)]) (dd dt_12_news 16 rfl) 3 rfl (by decide) rfl rfl ?_
      refine R_iload_n (dd dt_12_news 17 rfl) 3 rfl rfl ?_
      refine R_bipush (v := 12) (dd dt_12_news 18 rfl) bp_12 ?_
      refine R_cmpne (dd dt_12_news 19 rfl) (tgt := 40) rfl (fun hc => ?_) (fun hc => ?_)
      · rw [if_neg hc] at h
        refine R_aload_n (dd dt_12_news 22 rfl) 0 rfl rfl ?_
        refine g_12_9 rfl k0 (dd dt_12_news 23 rfl) ?_
        refine R_sipush (v := 771) (dd dt_12_news 24 rfl) sp_771 ?_
        refine R_iconst (v := 3) (dd dt_12_news 25 rfl) ic_3 ?_
        refine R_iload_n (dd dt_12_news 26 rfl) 3 rfl rfl ?_
        refine R_imul (dd dt_12_news 27 rfl) ?_
        refine R_iadd (dd dt_12_news 28 rfl) ?_
        refine R_iload_n (dd dt_12_news 29 rfl) 1 rfl rfl ?_
        obtain ⟨μ7, e8, h⟩ := bi_el h
        refine R_isto e8 (ty_12_0 k0) (dd dt_12_news 30 rfl) ?_
        refine R_aload_n (dd dt_12_news 31 rfl) 0 rfl rfl ?_
        refine g_12_9 rfl k0 (dd dt_12_news 32 rfl) ?_
        refine R_sipush (v := 771) (dd dt_12_news 33 rfl) sp_771 ?_
        refine R_iconst (v := 3) (dd dt_12_news 34 rfl) ic_3 ?_
        refine R_iload_n (dd dt_12_news 35 rfl) 3 rfl rfl ?_
        refine R_imul (dd dt_12_news 36 rfl) ?_
        refine R_iadd (dd dt_12_news 37 rfl) ?_
        refine R_iconst (v := 1) (dd dt_12_news 38 rfl) ic_1 ?_
        refine R_iadd (dd dt_12_news 39 rfl) ?_
        refine R_aload_n (dd dt_12_news 40 rfl) 0 rfl rfl ?_
        refine g_12_9 rfl k0 (dd dt_12_news 41 rfl) ?_
        refine R_iconst (v := 0) (dd dt_12_news 42 rfl) ic_0 ?_
        obtain ⟨x9, e10, h⟩ := bi_el h
        refine R_ild e10 (ty_12_0 k0) (dd dt_12_news 43 rfl) ?_
        obtain ⟨μ11, e12, h⟩ := bi_el h
        refine R_isto e12 (ty_12_0 k0) (dd dt_12_news 44 rfl) ?_
        refine R_aload_n (dd dt_12_news 45 rfl) 0 rfl rfl ?_
        refine g_12_9 rfl k0 (dd dt_12_news 46 rfl) ?_
        refine R_sipush (v := 771) (dd dt_12_news 47 rfl) sp_771 ?_
        refine R_iconst (v := 3) (dd dt_12_news 48 rfl) ic_3 ?_
        refine R_iload_n (dd dt_12_news 49 rfl) 3 rfl rfl ?_
        refine R_imul (dd dt_12_news 50 rfl) ?_
        refine R_iadd (dd dt_12_news 51 rfl) ?_
        refine R_iconst (v := 2) (dd dt_12_news 52 rfl) ic_2 ?_
        refine R_iadd (dd dt_12_news 53 rfl) ?_
        refine R_iload_n (dd dt_12_news 54 rfl) 2 rfl rfl ?_
        obtain ⟨μ13, e14, h⟩ := bi_el h
        refine R_isto e14 (ty_12_0 k0) (dd dt_12_news 55 rfl) ?_
        refine R_aload_n (dd dt_12_news 56 rfl) 0 rfl rfl ?_
        refine g_12_9 rfl k0 (dd dt_12_news 57 rfl) ?_
        refine R_bipush (v := 12) (dd dt_12_news 58 rfl) bp_12 ?_
        refine R_dup2 (dd dt_12_news 59 rfl) rfl rfl ?_
        obtain ⟨x15, e16, h⟩ := bi_el h
        refine R_ild e16 (ty_12_0 k0) (dd dt_12_news 60 rfl) ?_
        refine R_iconst (v := 1) (dd dt_12_news 61 rfl) ic_1 ?_
        refine R_iadd (dd dt_12_news 62 rfl) ?_
        obtain ⟨μ17, e18, h⟩ := bi_el h
        refine R_isto e18 (ty_12_0 k0) (dd dt_12_news 63 rfl) ?_
        refine R_iload_n (dd dt_12_news 64 rfl) 3 rfl rfl ?_
        obtain rfl := Option.some.inj h
        exact R_iret rfl (dd dt_12_news 65 rfl) hQ
      · rw [if_pos hc] at h
        refine R_bipush (v := (-2)) (dd dt_12_news 20 rfl) bp_m2 ?_
        obtain rfl := Option.some.inj h
        exact R_iret rfl (dd dt_12_news 21 rfl) hQ
    · rw [if_pos hc] at h
      refine R_iconst (v := (-1)) (dd dt_12_news 10 rfl) ic_m1 ?_
      obtain rfl := Option.some.inj h
      exact R_iret rfl (dd dt_12_news 11 rfl) hQ
/-! LongStrikeModel.hears(II)I -/
def tab_12_hears : List (Nat × Instr × Nat) := [(0, .aload_n 0, 1), (1, .iload_n 1, 1), (2, .bipush 11, 2), (4, .invokevirtual 84, 3), (7, .ifCond .eq 13, 3), (10, .aload_n 0, 1), (11, .iload_n 2, 1), (12, .bipush 12, 2), (14, .invokevirtual 84, 3), (17, .ifCond .ne 7, 3), (20, .iconst (-1), 1), (21, .goto 29, 3), (24, .aload_n 0, 1), (25, .getfield 9, 3), (28, .sipush 771, 3), (31, .iconst 3, 1), (32, .iload_n 2, 1), (33, .imul, 1), (34, .iadd, 1), (35, .iconst 1, 1), (36, .iadd, 1), (37, .iaload, 1), (38, .aload_n 0, 1), (39, .iload_n 2, 1), (40, .aload_n 0, 1), (41, .iload_n 1, 1), (42, .iconst 0, 1), (43, .invokevirtual 98, 3), (46, .invokevirtual 237, 3), (49, .iadd, 1), (50, .ireturn, 1)]
set_option maxRecDepth 100000 in
theorem dt_12_hears : ∀ q ∈ tab_12_hears, decode m_12_hears.2.1 q.1 = .ok q.2 := by decide +kernel
def f_12_hears (a0 : Nat) (a1 : Int32) (a2 : Int32) (μ : mm) : Option (Int32) :=
  (f_12_is a0 a1 11 μ).bind fun x2 =>
  if x2 = 0 then
    some (-1)
  else
    (f_12_is a0 a2 12 μ).bind fun x4 =>
    if x4 = 0 then
      some (-1)
    else
      (ld μ (rf a0 0) ((771 + (3 * a2)) + 1)).bind fun x5 =>
      (f_12_house a0 a1 0 μ).bind fun x8 =>
      (f_12_wayOfNews a0 a2 x8 μ).bind fun x10 =>
      some (x5 + x10)
set_option maxRecDepth 100000 in
set_option maxHeartbeats 4000000 in
theorem ok_12_hears {l : Launch} {E : ce} {d : Nat}  {a0 : Nat} {a1 : Int32} {a2 : Int32} {μ : mm} {r : Int32} {Q : Option Value → mm → Prop} (h : f_12_hears a0 a1 a2 μ = some r) (k0 : kd a0 = 12) (hQ : Q (some (.int r)) μ) : Ct l E (d + 2) yX12_hears m_12_hears [.ref a0, .int a1, .int a2] μ Q := by
  refine Ct_of (lv := [some (.ref a0), some (.int a1), some (.int a2)]) (by decide) rfl (Nat.le_of_ble_eq_true rfl) rfl ?_
  unfold f_12_hears at h
  refine R_aload_n (dd dt_12_hears 0 rfl) 0 rfl rfl ?_
  refine R_iload_n (dd dt_12_hears 1 rfl) 1 rfl rfl ?_
  refine R_bipush (v := 11) (dd dt_12_hears 2 rfl) bp_11 ?_
  obtain ⟨x2, e1, h⟩ := bi_el h
  refine c_12_84 (As := [.int a1, .int 11]) (st1 := [.int x2]) rfl (fun Q1 hq => ok_12_is e1 k0 hq) k0 rfl rfl (Nat.le_of_ble_eq_true rfl) (dd dt_12_hears 3 rfl) rfl ?_
  refine R_ifeq (dd dt_12_hears 4 rfl) (tgt := 20) rfl (fun hc => ?_) (fun hc => ?_)
  · rw [if_pos hc] at h
    refine R_iconst (v := (-1)) (dd dt_12_hears 10 rfl) ic_m1 ?_
    refine R_goto (dd dt_12_hears 11 rfl) (tgt := 50) rfl ?_
    obtain rfl := Option.some.inj h
    exact R_iret rfl (dd dt_12_hears 30 rfl) hQ
  · rw [if_neg hc] at h
    refine R_aload_n (dd dt_12_hears 5 rfl) 0 rfl rfl ?_
    refine R_iload_n (dd dt_12_hears 6 rfl) 2 rfl rfl ?_
    refine R_bipush (v := 12) (dd dt_12_hears 7 rfl) bp_12 ?_
    obtain ⟨x4, e3, h⟩ := bi_el h
    refine c_12_84 (As := [.int a2, .int 12]) (st1 := [.int x4]) rfl (fun Q1 hq => ok_12_is e3 k0 hq) k0 rfl rfl (Nat.le_of_ble_eq_true rfl) (dd dt_12_hears 8 rfl) rfl ?_
    refine R_ifne (dd dt_12_hears 9 rfl) (tgt := 24) rfl (fun hc => ?_) (fun hc => ?_)
    · rw [if_neg hc] at h
      refine R_aload_n (dd dt_12_hears 12 rfl) 0 rfl rfl ?_
      refine g_12_9 rfl k0 (dd dt_12_hears 13 rfl) ?_
      refine R_sipush (v := 771) (dd dt_12_hears 14 rfl) sp_771 ?_
      refine R_iconst (v := 3) (dd dt_12_hears 15 rfl) ic_3 ?_
      refine R_iload_n (dd dt_12_hears 16 rfl) 2 rfl rfl ?_
      refine R_imul (dd dt_12_hears 17 rfl) ?_
      refine R_iadd (dd dt_12_hears 18 rfl) ?_
      refine R_iconst (v := 1) (dd dt_12_hears 19 rfl) ic_1 ?_
      refine R_iadd (dd dt_12_hears 20 rfl) ?_
      obtain ⟨x5, e6, h⟩ := bi_el h
      refine R_ild e6 (ty_12_0 k0) (dd dt_12_hears 21 rfl) ?_
      refine R_aload_n (dd dt_12_hears 22 rfl) 0 rfl rfl ?_
      refine R_iload_n (dd dt_12_hears 23 rfl) 2 rfl rfl ?_
      refine R_aload_n (dd dt_12_hears 24 rfl) 0 rfl rfl ?_
      refine R_iload_n (dd dt_12_hears 25 rfl) 1 rfl rfl ?_
      refine R_iconst (v := 0) (dd dt_12_hears 26 rfl) ic_0 ?_
      obtain ⟨x8, e7, h⟩ := bi_el h
      refine c_12_98 (As := [.int a1, .int 0]) (st1 := [.int x8, .int a2, .ref a0, .int x5]) rfl (fun Q1 hq => ok_12_house e7 k0 hq) k0 rfl rfl (Nat.le_of_ble_eq_true rfl) (dd dt_12_hears 27 rfl) rfl ?_
      obtain ⟨x10, e9, h⟩ := bi_el h
      refine c_12_237 (As := [.int a2, .int x8]) (st1 := [.int x10, .int x5]) rfl (fun Q1 hq => ok_12_wayOfNews e9 k0 hq) k0 rfl rfl (Nat.le_of_ble_eq_true rfl) (dd dt_12_hears 28 rfl) rfl ?_
      refine R_iadd (dd dt_12_hears 29 rfl) ?_
      obtain rfl := Option.some.inj h
      exact R_iret rfl (dd dt_12_hears 30 rfl) hQ
    · rw [if_pos hc] at h
      refine R_iconst (v := (-1)) (dd dt_12_hears 10 rfl) ic_m1 ?_
      refine R_goto (dd dt_12_hears 11 rfl) (tgt := 50) rfl ?_
      obtain rfl := Option.some.inj h
      exact R_iret rfl (dd dt_12_hears 30 rfl) hQ
/-! LongStrikeModel.press(Z)I -/
def tab_12_press : List (Nat × Instr × Nat) := [(0, .aload_n 0, 1), (1, .getfield 9, 3), (4, .iload_n 1, 1), (5, .ifCond .eq 8, 3), (8, .bipush 6, 2), (10, .goto 5, 3), (13, .bipush 7, 2), (15, .aload_n 0, 1), (16, .getfield 9, 3), (19, .iload_n 1, 1), (20, .ifCond .eq 7, 3), (23, .iconst 1, 1), (24, .goto 4, 3), (27, .iconst 2, 1), (28, .iaload, 1), (29, .iastore, 1), (30, .aload_n 0, 1), (31, .getfield 9, 3), (34, .iload_n 1, 1), (35, .ifCond .eq 7, 3), (38, .iconst 1, 1), (39, .goto 4, 3), (42, .iconst 2, 1), (43, .iaload, 1), (44, .ireturn, 1)]
set_option maxRecDepth 100000 in
theorem dt_12_press : ∀ q ∈ tab_12_press, decode m_12_press.2.1 q.1 = .ok q.2 := by decide +kernel
def f_12_press (a0 : Nat) (a1 : Int32) (μ : mm) : Option (Int32 × mm) :=
  (if a1 = 0 then
      some 7
    else
      some 6).bind fun (z1 : Int32) =>
  (if a1 = 0 then
      some 2
    else
      some 1).bind fun (z2 : Int32) =>
  (ld μ (rf a0 0) z2).bind fun x3 =>
  (sto μ (rf a0 0) z1 x3).bind fun μ5 =>
  if a1 = 0 then
    (ld μ5 (rf a0 0) 2).bind fun x7 =>
    some (x7, μ5)
  else
    (ld μ5 (rf a0 0) 1).bind fun x9 =>
    some (x9, μ5)
set_option maxRecDepth 100000 in
set_option maxHeartbeats 4000000 in
theorem ok_12_press {l : Launch} {E : ce} {d : Nat}  {a0 : Nat} {a1 : Int32} {μ : mm} {r : Int32 × mm} {Q : Option Value → mm → Prop} (h : f_12_press a0 a1 μ = some r) (k0 : kd a0 = 12) (hQ : Q (some (.int r.1)) r.2) : Ct l E d yX12_press m_12_press [.ref a0, .int a1] μ Q := by
  refine Ct_of (lv := [some (.ref a0), some (.int a1)]) (by decide) rfl (Nat.le_of_ble_eq_true rfl) rfl ?_
  unfold f_12_press at h
  refine R_aload_n (dd dt_12_press 0 rfl) 0 rfl rfl ?_
  refine g_12_9 rfl k0 (dd dt_12_press 1 rfl) ?_
  refine R_iload_n (dd dt_12_press 2 rfl) 1 rfl rfl ?_
  obtain ⟨z1, hz1, h⟩ := bi_el h
  have K1 : Rj l E d m_12_press 15 [some (.ref a0), some (.int a1)] [.int z1, .ref (rf a0 0)] μ Q := by
    clear hz1
    refine R_aload_n (dd dt_12_press 7 rfl) 0 rfl rfl ?_
    refine g_12_9 rfl k0 (dd dt_12_press 8 rfl) ?_
    refine R_iload_n (dd dt_12_press 9 rfl) 1 rfl rfl ?_
    obtain ⟨z2, hz2, h⟩ := bi_el h
    have K2 : Rj l E d m_12_press 28 [some (.ref a0), some (.int a1)] [.int z2, .ref (rf a0 0), .int z1, .ref (rf a0 0)] μ Q := by
      clear hz2
      obtain ⟨x3, e4, h⟩ := bi_el h
      refine R_ild e4 (ty_12_0 k0) (dd dt_12_press 14 rfl) ?_
      obtain ⟨μ5, e6, h⟩ := bi_el h
      refine R_isto e6 (ty_12_0 k0) (dd dt_12_press 15 rfl) ?_
      refine R_aload_n (dd dt_12_press 16 rfl) 0 rfl rfl ?_
      refine g_12_9 rfl k0 (dd dt_12_press 17 rfl) ?_
      refine R_iload_n (dd dt_12_press 18 rfl) 1 rfl rfl ?_
      refine R_ifeq (dd dt_12_press 19 rfl) (tgt := 42) rfl (fun hc => ?_) (fun hc => ?_)
      · rw [if_pos hc] at h
        refine R_iconst (v := 2) (dd dt_12_press 22 rfl) ic_2 ?_
        obtain ⟨x7, e8, h⟩ := bi_el h
        refine R_ild e8 (ty_12_0 k0) (dd dt_12_press 23 rfl) ?_
        obtain rfl := Option.some.inj h
        exact R_iret rfl (dd dt_12_press 24 rfl) hQ
      · rw [if_neg hc] at h
        refine R_iconst (v := 1) (dd dt_12_press 20 rfl) ic_1 ?_
        refine R_goto (dd dt_12_press 21 rfl) (tgt := 43) rfl ?_
        obtain ⟨x9, e10, h⟩ := bi_el h
        refine R_ild e10 (ty_12_0 k0) (dd dt_12_press 23 rfl) ?_
        obtain rfl := Option.some.inj h
        exact R_iret rfl (dd dt_12_press 24 rfl) hQ
    clear h
    have h := hz2
    clear hz2
    refine R_ifeq (dd dt_12_press 10 rfl) (tgt := 27) rfl (fun hc => ?_) (fun hc => ?_)
    · rw [if_pos hc] at h
      refine R_iconst (v := 2) (dd dt_12_press 13 rfl) ic_2 ?_
      obtain rfl := Option.some.inj h
      exact R_mask [true, true] rfl K2
    · rw [if_neg hc] at h
      refine R_iconst (v := 1) (dd dt_12_press 11 rfl) ic_1 ?_
      refine R_goto (dd dt_12_press 12 rfl) (tgt := 28) rfl ?_
      obtain rfl := Option.some.inj h
      exact R_mask [true, true] rfl K2
  clear h
  have h := hz1
  clear hz1
  refine R_ifeq (dd dt_12_press 3 rfl) (tgt := 13) rfl (fun hc => ?_) (fun hc => ?_)
  · rw [if_pos hc] at h
    refine R_bipush (v := 7) (dd dt_12_press 6 rfl) bp_7 ?_
    obtain rfl := Option.some.inj h
    exact R_mask [true, true] rfl K1
  · rw [if_neg hc] at h
    refine R_bipush (v := 6) (dd dt_12_press 4 rfl) bp_6 ?_
    refine R_goto (dd dt_12_press 5 rfl) (tgt := 15) rfl ?_
    obtain rfl := Option.some.inj h
    exact R_mask [true, true] rfl K1
/-! LongStrikeModel.isGone(I)Z -/
def tab_12_isGone : List (Nat × Instr × Nat) := [(0, .aload_n 0, 1), (1, .iload_n 1, 1), (2, .bipush 10, 2), (4, .invokevirtual 98, 3), (7, .iconst 1, 1), (8, .if_icmp .eq 14, 3), (11, .aload_n 0, 1), (12, .iload_n 1, 1), (13, .bipush 11, 2), (15, .invokevirtual 98, 3), (18, .iconst 1, 1), (19, .if_icmp .ne 7, 3), (22, .iconst 1, 1), (23, .goto 4, 3), (26, .iconst 0, 1), (27, .ireturn, 1)]
set_option maxRecDepth 100000 in
theorem dt_12_isGone : ∀ q ∈ tab_12_isGone, decode m_12_isGone.2.1 q.1 = .ok q.2 := by decide +kernel
def f_12_isGone (a0 : Nat) (a1 : Int32) (μ : mm) : Option (Int32) :=
  (f_12_house a0 a1 10 μ).bind fun x2 =>
  if x2 = 1 then
    some 1
  else
    (f_12_house a0 a1 11 μ).bind fun x4 =>
    if x4 = 1 then
      some 1
    else
      some 0
set_option maxRecDepth 100000 in
set_option maxHeartbeats 4000000 in
theorem ok_12_isGone {l : Launch} {E : ce} {d : Nat}  {a0 : Nat} {a1 : Int32} {μ : mm} {r : Int32} {Q : Option Value → mm → Prop} (h : f_12_isGone a0 a1 μ = some r) (k0 : kd a0 = 12) (hQ : Q (some (.int r)) μ) : Ct l E (d + 1) yX12_isGone m_12_isGone [.ref a0, .int a1] μ Q := by
  refine Ct_of (lv := [some (.ref a0), some (.int a1)]) (by decide) rfl (Nat.le_of_ble_eq_true rfl) rfl ?_
  unfold f_12_isGone at h
  refine R_aload_n (dd dt_12_isGone 0 rfl) 0 rfl rfl ?_
  refine R_iload_n (dd dt_12_isGone 1 rfl) 1 rfl rfl ?_
  refine R_bipush (v := 10) (dd dt_12_isGone 2 rfl) bp_10 ?_
  obtain ⟨x2, e1, h⟩ := bi_el h
  refine c_12_98 (As := [.int a1, .int 10]) (st1 := [.int x2]) rfl (fun Q1 hq => ok_12_house e1 k0 hq) k0 rfl rfl (Nat.le_of_ble_eq_true rfl) (dd dt_12_isGone 3 rfl) rfl ?_
  refine R_iconst (v := 1) (dd dt_12_isGone 4 rfl) ic_1 ?_
  refine R_cmpeq (dd dt_12_isGone 5 rfl) (tgt := 22) rfl (fun hc => ?_) (fun hc => ?_)
  · rw [if_pos hc] at h
    refine R_iconst (v := 1) (dd dt_12_isGone 12 rfl) ic_1 ?_
    refine R_goto (dd dt_12_isGone 13 rfl) (tgt := 27) rfl ?_
    obtain rfl := Option.some.inj h
    exact R_zret rfl (by decide) (dd dt_12_isGone 15 rfl) hQ
  · rw [if_neg hc] at h
    refine R_aload_n (dd dt_12_isGone 6 rfl) 0 rfl rfl ?_
    refine R_iload_n (dd dt_12_isGone 7 rfl) 1 rfl rfl ?_
    refine R_bipush (v := 11) (dd dt_12_isGone 8 rfl) bp_11 ?_
    obtain ⟨x4, e3, h⟩ := bi_el h
    refine c_12_98 (As := [.int a1, .int 11]) (st1 := [.int x4]) rfl (fun Q1 hq => ok_12_house e3 k0 hq) k0 rfl rfl (Nat.le_of_ble_eq_true rfl) (dd dt_12_isGone 9 rfl) rfl ?_
    refine R_iconst (v := 1) (dd dt_12_isGone 10 rfl) ic_1 ?_
    refine R_cmpne (dd dt_12_isGone 11 rfl) (tgt := 26) rfl (fun hc => ?_) (fun hc => ?_)
    · rw [if_neg hc] at h
      refine R_iconst (v := 0) (dd dt_12_isGone 14 rfl) ic_0 ?_
      obtain rfl := Option.some.inj h
      exact R_zret rfl (by decide) (dd dt_12_isGone 15 rfl) hQ
    · rw [if_pos hc] at h
      refine R_iconst (v := 1) (dd dt_12_isGone 12 rfl) ic_1 ?_
      refine R_goto (dd dt_12_isGone 13 rfl) (tgt := 27) rfl ?_
      obtain rfl := Option.some.inj h
      exact R_zret rfl (by decide) (dd dt_12_isGone 15 rfl) hQ
/-! LongStrikeModel.paper(I)I -/
def tab_12_paper : List (Nat × Instr × Nat) := [(0, .aload_n 0, 1), (1, .iload_n 1, 1), (2, .bipush 11, 2), (4, .invokevirtual 84, 3), (7, .ifCond .ne 5, 3), (10, .iconst (-1), 1), (11, .ireturn, 1), (12, .aload_n 0, 1), (13, .iload_n 1, 1), (14, .invokevirtual 262, 3), (17, .ifCond .eq 6, 3), (20, .bipush (-4), 2), (22, .ireturn, 1), (23, .aload_n 0, 1), (24, .getfield 9, 3), (27, .bipush 13, 2), (29, .iaload, 1), (30, .istore_n 2, 1), (31, .iload_n 2, 1), (32, .bipush 12, 2), (34, .if_icmp .ne 6, 3), (37, .bipush (-2), 2), (39, .ireturn, 1), (40, .aload_n 0, 1), (41, .getfield 9, 3), (44, .sipush 807, 3), (47, .iconst 3, 1), (48, .iload_n 2, 1), (49, .imul, 1), (50, .iadd, 1), (51, .iload_n 1, 1), (52, .iastore, 1), (53, .aload_n 0, 1), (54, .getfield 9, 3), (57, .sipush 807, 3), (60, .iconst 3, 1), (61, .iload_n 2, 1), (62, .imul, 1), (63, .iadd, 1), (64, .iconst 1, 1), (65, .iadd, 1), (66, .aload_n 0, 1), (67, .getfield 9, 3), (70, .iconst 0, 1), (71, .iaload, 1), (72, .iastore, 1), (73, .aload_n 0, 1), (74, .getfield 9, 3), (77, .sipush 807, 3), (80, .iconst 3, 1), (81, .iload_n 2, 1), (82, .imul, 1), (83, .iadd, 1), (84, .iconst 2, 1), (85, .iadd, 1), (86, .iconst 0, 1), (87, .iastore, 1), (88, .aload_n 0, 1), (89, .getfield 9, 3), (92, .bipush 13, 2), (94, .dup2, 1), (95, .iaload, 1), (96, .iconst 1, 1), (97, .iadd, 1), (98, .iastore, 1), (99, .iload_n 2, 1), (100, .ireturn, 1)]
set_option maxRecDepth 100000 in
theorem dt_12_paper : ∀ q ∈ tab_12_paper, decode m_12_paper.2.1 q.1 = .ok q.2 := by decide +kernel
def f_12_paper (a0 : Nat) (a1 : Int32) (μ : mm) : Option (Int32 × mm) :=
  (f_12_is a0 a1 11 μ).bind fun x2 =>
  if x2 = 0 then
    some ((-1), μ)
  else
    (f_12_isGone a0 a1 μ).bind fun x4 =>
    if x4 = 0 then
      (ld μ (rf a0 0) 13).bind fun x5 =>
      if x5 = 12 then
        some ((-2), μ)
      else
        (sto μ (rf a0 0) (807 + (3 * x5)) a1).bind fun μ7 =>
        (ld μ7 (rf a0 0) 0).bind fun x9 =>
        (sto μ7 (rf a0 0) ((807 + (3 * x5)) + 1) x9).bind fun μ11 =>
        (sto μ11 (rf a0 0) ((807 + (3 * x5)) + 2) 0).bind fun μ13 =>
        (ld μ13 (rf a0 0) 13).bind fun x15 =>
        (sto μ13 (rf a0 0) 13 (x15 + 1)).bind fun μ17 =>
        some (x5, μ17)
    else
      some ((-4), μ)
set_option maxRecDepth 100000 in
set_option maxHeartbeats 4000000 in
theorem ok_12_paper {l : Launch} {E : ce} {d : Nat}  {a0 : Nat} {a1 : Int32} {μ : mm} {r : Int32 × mm} {Q : Option Value → mm → Prop} (h : f_12_paper a0 a1 μ = some r) (k0 : kd a0 = 12) (hQ : Q (some (.int r.1)) r.2) : Ct l E (d + 2) yX12_paper m_12_paper [.ref a0, .int a1] μ Q := by
  refine Ct_of (lv := [some (.ref a0), some (.int a1), none]) (by decide) rfl (Nat.le_of_ble_eq_true rfl) rfl ?_
  unfold f_12_paper at h
  refine R_aload_n (dd dt_12_paper 0 rfl) 0 rfl rfl ?_
  refine R_iload_n (dd dt_12_paper 1 rfl) 1 rfl rfl ?_
  refine R_bipush (v := 11) (dd dt_12_paper 2 rfl) bp_11 ?_
  obtain ⟨x2, e1, h⟩ := bi_el h
  refine c_12_84 (As := [.int a1, .int 11]) (st1 := [.int x2]) rfl (fun Q1 hq => ok_12_is e1 k0 hq) k0 rfl rfl (Nat.le_of_ble_eq_true rfl) (dd dt_12_paper 3 rfl) rfl ?_
  refine R_ifne (dd dt_12_paper 4 rfl) (tgt := 12) rfl (fun hc => ?_) (fun hc => ?_)
  · rw [if_neg hc] at h
    refine R_aload_n (dd dt_12_paper 7 rfl) 0 rfl rfl ?_
    refine R_iload_n (dd dt_12_paper 8 rfl) 1 rfl rfl ?_
    obtain ⟨x4, e3, h⟩ := bi_el h
    refine c_12_262 (As := [.int a1]) (st1 := [.int x4]) rfl (fun Q1 hq => ok_12_isGone e3 k0 hq) k0 rfl rfl (Nat.le_of_ble_eq_true rfl) (dd dt_12_paper 9 rfl) rfl ?_
    refine R_ifeq (dd dt_12_paper 10 rfl) (tgt := 23) rfl (fun hc => ?_) (fun hc => ?_)
    · rw [if_pos hc] at h
      refine R_aload_n (dd dt_12_paper 13 rfl) 0 rfl rfl ?_
      refine g_12_9 rfl k0 (dd dt_12_paper 14 rfl) ?_
      refine R_bipush (v := 13) (dd dt_12_paper 15 rfl) bp_13 ?_
      obtain ⟨x5, e6, h⟩ := bi_el h
      refine R_ild e6 (ty_12_0 k0) (dd dt_12_paper 16 rfl) ?_
      refine R_istore_n (lv' := [some (.ref a0), some (.int a1), some (.int x5)]) (dd dt_12_paper 17 rfl) 2 rfl (by decide) rfl rfl ?_
      refine R_iload_n (dd dt_12_paper 18 rfl) 2 rfl rfl ?_
      refine R_bipush (v := 12) (dd dt_12_paper 19 rfl) bp_12 ?_
      refine R_cmpne (dd dt_12_paper 20 rfl) (tgt := 40) rfl (fun hc => ?_) (fun hc => ?_)
      · rw [if_neg hc] at h
        refine R_aload_n (dd dt_12_paper 23 rfl) 0 rfl rfl ?_
        refine g_12_9 rfl k0 (dd dt_12_paper 24 rfl) ?_
        refine R_sipush (v := 807) (dd dt_12_paper 25 rfl) sp_807 ?_
        refine R_iconst (v := 3) (dd dt_12_paper 26 rfl) ic_3 ?_
        refine R_iload_n (dd dt_12_paper 27 rfl) 2 rfl rfl ?_
        refine R_imul (dd dt_12_paper 28 rfl) ?_
        refine R_iadd (dd dt_12_paper 29 rfl) ?_
        refine R_iload_n (dd dt_12_paper 30 rfl) 1 rfl rfl ?_
        obtain ⟨μ7, e8, h⟩ := bi_el h
        refine R_isto e8 (ty_12_0 k0) (dd dt_12_paper 31 rfl) ?_
        refine R_aload_n (dd dt_12_paper 32 rfl) 0 rfl rfl ?_
        refine g_12_9 rfl k0 (dd dt_12_paper 33 rfl) ?_
        refine R_sipush (v := 807) (dd dt_12_paper 34 rfl) sp_807 ?_
        refine R_iconst (v := 3) (dd dt_12_paper 35 rfl) ic_3 ?_
        refine R_iload_n (dd dt_12_paper 36 rfl) 2 rfl rfl ?_
        refine R_imul (dd dt_12_paper 37 rfl) ?_
        refine R_iadd (dd dt_12_paper 38 rfl) ?_
        refine R_iconst (v := 1) (dd dt_12_paper 39 rfl) ic_1 ?_
        refine R_iadd (dd dt_12_paper 40 rfl) ?_
        refine R_aload_n (dd dt_12_paper 41 rfl) 0 rfl rfl ?_
        refine g_12_9 rfl k0 (dd dt_12_paper 42 rfl) ?_
        refine R_iconst (v := 0) (dd dt_12_paper 43 rfl) ic_0 ?_
        obtain ⟨x9, e10, h⟩ := bi_el h
        refine R_ild e10 (ty_12_0 k0) (dd dt_12_paper 44 rfl) ?_
        obtain ⟨μ11, e12, h⟩ := bi_el h
        refine R_isto e12 (ty_12_0 k0) (dd dt_12_paper 45 rfl) ?_
        refine R_aload_n (dd dt_12_paper 46 rfl) 0 rfl rfl ?_
        refine g_12_9 rfl k0 (dd dt_12_paper 47 rfl) ?_
        refine R_sipush (v := 807) (dd dt_12_paper 48 rfl) sp_807 ?_
        refine R_iconst (v := 3) (dd dt_12_paper 49 rfl) ic_3 ?_
        refine R_iload_n (dd dt_12_paper 50 rfl) 2 rfl rfl ?_
        refine R_imul (dd dt_12_paper 51 rfl) ?_
        refine R_iadd (dd dt_12_paper 52 rfl) ?_
        refine R_iconst (v := 2) (dd dt_12_paper 53 rfl) ic_2 ?_
        refine R_iadd (dd dt_12_paper 54 rfl) ?_
        refine R_iconst (v := 0) (dd dt_12_paper 55 rfl) ic_0 ?_
        obtain ⟨μ13, e14, h⟩ := bi_el h
        refine R_isto e14 (ty_12_0 k0) (dd dt_12_paper 56 rfl) ?_
        refine R_aload_n (dd dt_12_paper 57 rfl) 0 rfl rfl ?_
        refine g_12_9 rfl k0 (dd dt_12_paper 58 rfl) ?_
        refine R_bipush (v := 13) (dd dt_12_paper 59 rfl) bp_13 ?_
        refine R_dup2 (dd dt_12_paper 60 rfl) rfl rfl ?_
        obtain ⟨x15, e16, h⟩ := bi_el h
        refine R_ild e16 (ty_12_0 k0) (dd dt_12_paper 61 rfl) ?_
        refine R_iconst (v := 1) (dd dt_12_paper 62 rfl) ic_1 ?_
        refine R_iadd (dd dt_12_paper 63 rfl) ?_
        obtain ⟨μ17, e18, h⟩ := bi_el h
        refine R_isto e18 (ty_12_0 k0) (dd dt_12_paper 64 rfl) ?_
        refine R_iload_n (dd dt_12_paper 65 rfl) 2 rfl rfl ?_
        obtain rfl := Option.some.inj h
        exact R_iret rfl (dd dt_12_paper 66 rfl) hQ
      · rw [if_pos hc] at h
        refine R_bipush (v := (-2)) (dd dt_12_paper 21 rfl) bp_m2 ?_
        obtain rfl := Option.some.inj h
        exact R_iret rfl (dd dt_12_paper 22 rfl) hQ
    · rw [if_neg hc] at h
      refine R_bipush (v := (-4)) (dd dt_12_paper 11 rfl) bp_m4 ?_
      obtain rfl := Option.some.inj h
      exact R_iret rfl (dd dt_12_paper 12 rfl) hQ
  · rw [if_pos hc] at h
    refine R_iconst (v := (-1)) (dd dt_12_paper 5 rfl) ic_m1 ?_
    obtain rfl := Option.some.inj h
    exact R_iret rfl (dd dt_12_paper 6 rfl) hQ
/-! LongStrikeModel.evict(I)I -/
def tab_12_evict : List (Nat × Instr × Nat) := [(0, .aload_n 0, 1), (1, .iload_n 1, 1), (2, .bipush 13, 2), (4, .invokevirtual 84, 3), (7, .ifCond .ne 5, 3), (10, .iconst (-1), 1), (11, .ireturn, 1), (12, .aload_n 0, 1), (13, .getfield 9, 3), (16, .sipush 807, 3), (19, .iconst 3, 1), (20, .iload_n 1, 1), (21, .imul, 1), (22, .iadd, 1), (23, .iaload, 1), (24, .istore_n 2, 1), (25, .aload_n 0, 1), (26, .iload_n 2, 1), (27, .invokevirtual 262, 3), (30, .ifCond .eq 6, 3), (33, .bipush (-4), 2), (35, .ireturn, 1), (36, .aload_n 0, 1), (37, .getfield 9, 3), (40, .sipush 807, 3), (43, .iconst 3, 1), (44, .iload_n 1, 1), (45, .imul, 1), (46, .iadd, 1), (47, .iconst 1, 1), (48, .iadd, 1), (49, .iaload, 1), (50, .bipush 7, 2), (52, .aload_n 0, 1), (53, .iconst 2, 1), (54, .invokevirtual 115, 3), (57, .imul, 1), (58, .iadd, 1), (59, .istore_n 3, 1), (60, .aload_n 0, 1), (61, .getfield 9, 3), (64, .sipush 807, 3), (67, .iconst 3, 1), (68, .iload_n 1, 1), (69, .imul, 1), (70, .iadd, 1), (71, .iconst 2, 1), (72, .iadd, 1), (73, .iaload, 1), (74, .iconst 1, 1), (75, .if_icmp .eq 13, 3), (78, .aload_n 0, 1), (79, .getfield 9, 3), (82, .iconst 0, 1), (83, .iaload, 1), (84, .iload_n 3, 1), (85, .if_icmp .le 20, 3), (88, .aload_n 0, 1), (89, .getfield 9, 3), (92, .sipush 807, 3), (95, .iconst 3, 1), (96, .iload_n 1, 1), (97, .imul, 1), (98, .iadd, 1), (99, .iconst 2, 1), (100, .iadd, 1), (101, .iconst 1, 1), (102, .iastore, 1), (103, .iconst 2, 1), (104, .ireturn, 1), (105, .aload_n 0, 1), (106, .getfield 9, 3), (109, .iconst 0, 1), (110, .iaload, 1), (111, .iload_n 3, 1), (112, .if_icmp .ge 5, 3), (115, .iconst 0, 1), (116, .ireturn, 1), (117, .aload_n 0, 1), (118, .getfield 9, 3), (121, .bipush 96, 2), (123, .bipush 12, 2), (125, .iload_n 2, 1), (126, .imul, 1), (127, .iadd, 1), (128, .bipush 11, 2), (130, .iadd, 1), (131, .iconst 1, 1), (132, .iastore, 1), (133, .aload_n 0, 1), (134, .getfield 9, 3), (137, .bipush 96, 2), (139, .bipush 12, 2), (141, .iload_n 2, 1), (142, .imul, 1), (143, .iadd, 1), (144, .iconst 3, 1), (145, .iadd, 1), (146, .iconst 0, 1), (147, .iastore, 1), (148, .iconst 1, 1), (149, .ireturn, 1)]
set_option maxRecDepth 100000 in
theorem dt_12_evict : ∀ q ∈ tab_12_evict, decode m_12_evict.2.1 q.1 = .ok q.2 := by decide +kernel
def f_12_evict_b88 (a0 : Nat) (a1 : Int32) (μ : mm) : Option (Int32 × mm) :=
  (sto μ (rf a0 0) ((807 + (3 * a1)) + 2) 1).bind fun μ1 =>
  some (2, μ1)
set_option maxRecDepth 100000 in
set_option maxHeartbeats 4000000 in
theorem ok_12_evict_b88 {l : Launch} {E : ce} {d : Nat}  {a0 : Nat} {a1 : Int32} {μ : mm} {r : Int32 × mm} {Q : Option Value → mm → Prop} (h : f_12_evict_b88 a0 a1 μ = some r) (k0 : kd a0 = 12) (hQ : Q (some (.int r.1)) r.2) : Rj l E (d + 3) m_12_evict 88 [some (.ref a0), some (.int a1), none, none] [] μ Q := by
  unfold f_12_evict_b88 at h
  refine R_aload_n (dd dt_12_evict 57 rfl) 0 rfl rfl ?_
  refine g_12_9 rfl k0 (dd dt_12_evict 58 rfl) ?_
  refine R_sipush (v := 807) (dd dt_12_evict 59 rfl) sp_807 ?_
  refine R_iconst (v := 3) (dd dt_12_evict 60 rfl) ic_3 ?_
  refine R_iload_n (dd dt_12_evict 61 rfl) 1 rfl rfl ?_
  refine R_imul (dd dt_12_evict 62 rfl) ?_
  refine R_iadd (dd dt_12_evict 63 rfl) ?_
  refine R_iconst (v := 2) (dd dt_12_evict 64 rfl) ic_2 ?_
  refine R_iadd (dd dt_12_evict 65 rfl) ?_
  refine R_iconst (v := 1) (dd dt_12_evict 66 rfl) ic_1 ?_
  obtain ⟨μ1, e2, h⟩ := bi_el h
  refine R_isto e2 (ty_12_0 k0) (dd dt_12_evict 67 rfl) ?_
  refine R_iconst (v := 2) (dd dt_12_evict 68 rfl) ic_2 ?_
  obtain rfl := Option.some.inj h
  exact R_iret rfl (dd dt_12_evict 69 rfl) hQ
def f_12_evict (a0 : Nat) (a1 : Int32) (μ : mm) : Option (Int32 × mm) :=
  (f_12_is a0 a1 13 μ).bind fun x2 =>
  if x2 = 0 then
    some ((-1), μ)
  else
    (ld μ (rf a0 0) (807 + (3 * a1))).bind fun x3 =>
    (f_12_isGone a0 x3 μ).bind fun x6 =>
    if x6 = 0 then
      (ld μ (rf a0 0) ((807 + (3 * a1)) + 1)).bind fun x7 =>
      (f_12_ruled a0 2 μ).bind fun x10 =>
      (ld μ (rf a0 0) ((807 + (3 * a1)) + 2)).bind fun x11 =>
      if x11 = 1 then
        f_12_evict_b88 a0 a1 μ
      else
        (ld μ (rf a0 0) 0).bind fun x13 =>
        if x13 ≤ (x7 + (7 * x10)) then
          (ld μ (rf a0 0) 0).bind fun x15 =>
          if (x7 + (7 * x10)) ≤ x15 then
            (sto μ (rf a0 0) ((96 + (12 * x3)) + 11) 1).bind fun μ17 =>
            (sto μ17 (rf a0 0) ((96 + (12 * x3)) + 3) 0).bind fun μ19 =>
            some (1, μ19)
          else
            some (0, μ)
        else
          f_12_evict_b88 a0 a1 μ
    else
      some ((-4), μ)
set_option maxRecDepth 100000 in
set_option maxHeartbeats 4000000 in
theorem ok_12_evict {l : Launch} {E : ce} {d : Nat}  {a0 : Nat} {a1 : Int32} {μ : mm} {r : Int32 × mm} {Q : Option Value → mm → Prop} (h : f_12_evict a0 a1 μ = some r) (k0 : kd a0 = 12) (hQ : Q (some (.int r.1)) r.2) : Ct l E (d + 3) yX12_evict m_12_evict [.ref a0, .int a1] μ Q := by
  refine Ct_of (lv := [some (.ref a0), some (.int a1), none, none]) (by decide) rfl (Nat.le_of_ble_eq_true rfl) rfl ?_
  unfold f_12_evict at h
  refine R_aload_n (dd dt_12_evict 0 rfl) 0 rfl rfl ?_
  refine R_iload_n (dd dt_12_evict 1 rfl) 1 rfl rfl ?_
  refine R_bipush (v := 13) (dd dt_12_evict 2 rfl) bp_13 ?_
  obtain ⟨x2, e1, h⟩ := bi_el h
  refine c_12_84 (As := [.int a1, .int 13]) (st1 := [.int x2]) rfl (fun Q1 hq => ok_12_is e1 k0 hq) k0 rfl rfl (Nat.le_of_ble_eq_true rfl) (dd dt_12_evict 3 rfl) rfl ?_
  refine R_ifne (dd dt_12_evict 4 rfl) (tgt := 12) rfl (fun hc => ?_) (fun hc => ?_)
  · rw [if_neg hc] at h
    refine R_aload_n (dd dt_12_evict 7 rfl) 0 rfl rfl ?_
    refine g_12_9 rfl k0 (dd dt_12_evict 8 rfl) ?_
    refine R_sipush (v := 807) (dd dt_12_evict 9 rfl) sp_807 ?_
    refine R_iconst (v := 3) (dd dt_12_evict 10 rfl) ic_3 ?_
    refine R_iload_n (dd dt_12_evict 11 rfl) 1 rfl rfl ?_
    refine R_imul (dd dt_12_evict 12 rfl) ?_
    refine R_iadd (dd dt_12_evict 13 rfl) ?_
    obtain ⟨x3, e4, h⟩ := bi_el h
    refine R_ild e4 (ty_12_0 k0) (dd dt_12_evict 14 rfl) ?_
    refine R_istore_n (lv' := [some (.ref a0), some (.int a1), some (.int x3), none]) (dd dt_12_evict 15 rfl) 2 rfl (by decide) rfl rfl ?_
    refine R_aload_n (dd dt_12_evict 16 rfl) 0 rfl rfl ?_
    refine R_iload_n (dd dt_12_evict 17 rfl) 2 rfl rfl ?_
    obtain ⟨x6, e5, h⟩ := bi_el h
    refine c_12_262 (As := [.int x3]) (st1 := [.int x6]) rfl (fun Q1 hq => ok_12_isGone e5 k0 hq) k0 rfl rfl (Nat.le_of_ble_eq_true rfl) (dd dt_12_evict 18 rfl) rfl ?_
    refine R_ifeq (dd dt_12_evict 19 rfl) (tgt := 36) rfl (fun hc => ?_) (fun hc => ?_)
    · rw [if_pos hc] at h
      refine R_aload_n (dd dt_12_evict 22 rfl) 0 rfl rfl ?_
      refine g_12_9 rfl k0 (dd dt_12_evict 23 rfl) ?_
      refine R_sipush (v := 807) (dd dt_12_evict 24 rfl) sp_807 ?_
      refine R_iconst (v := 3) (dd dt_12_evict 25 rfl) ic_3 ?_
      refine R_iload_n (dd dt_12_evict 26 rfl) 1 rfl rfl ?_
      refine R_imul (dd dt_12_evict 27 rfl) ?_
      refine R_iadd (dd dt_12_evict 28 rfl) ?_
      refine R_iconst (v := 1) (dd dt_12_evict 29 rfl) ic_1 ?_
      refine R_iadd (dd dt_12_evict 30 rfl) ?_
      obtain ⟨x7, e8, h⟩ := bi_el h
      refine R_ild e8 (ty_12_0 k0) (dd dt_12_evict 31 rfl) ?_
      refine R_bipush (v := 7) (dd dt_12_evict 32 rfl) bp_7 ?_
      refine R_aload_n (dd dt_12_evict 33 rfl) 0 rfl rfl ?_
      refine R_iconst (v := 2) (dd dt_12_evict 34 rfl) ic_2 ?_
      obtain ⟨x10, e9, h⟩ := bi_el h
      refine c_12_115 (As := [.int 2]) (st1 := [.int x10, .int 7, .int x7]) rfl (fun Q1 hq => ok_12_ruled e9 k0 hq) k0 rfl rfl (Nat.le_of_ble_eq_true rfl) (dd dt_12_evict 35 rfl) rfl ?_
      refine R_imul (dd dt_12_evict 36 rfl) ?_
      refine R_iadd (dd dt_12_evict 37 rfl) ?_
      refine R_istore_n (lv' := [some (.ref a0), some (.int a1), some (.int x3), some (.int (x7 + (7 * x10)))]) (dd dt_12_evict 38 rfl) 3 rfl (by decide) rfl rfl ?_
      refine R_aload_n (dd dt_12_evict 39 rfl) 0 rfl rfl ?_
      refine g_12_9 rfl k0 (dd dt_12_evict 40 rfl) ?_
      refine R_sipush (v := 807) (dd dt_12_evict 41 rfl) sp_807 ?_
      refine R_iconst (v := 3) (dd dt_12_evict 42 rfl) ic_3 ?_
      refine R_iload_n (dd dt_12_evict 43 rfl) 1 rfl rfl ?_
      refine R_imul (dd dt_12_evict 44 rfl) ?_
      refine R_iadd (dd dt_12_evict 45 rfl) ?_
      refine R_iconst (v := 2) (dd dt_12_evict 46 rfl) ic_2 ?_
      refine R_iadd (dd dt_12_evict 47 rfl) ?_
      obtain ⟨x11, e12, h⟩ := bi_el h
      refine R_ild e12 (ty_12_0 k0) (dd dt_12_evict 48 rfl) ?_
      refine R_iconst (v := 1) (dd dt_12_evict 49 rfl) ic_1 ?_
      refine R_cmpeq (dd dt_12_evict 50 rfl) (tgt := 88) rfl (fun hc => ?_) (fun hc => ?_)
      · rw [if_pos hc] at h
        exact R_mask [true, true, false, false] rfl (ok_12_evict_b88  h k0 hQ)
      · rw [if_neg hc] at h
        refine R_aload_n (dd dt_12_evict 51 rfl) 0 rfl rfl ?_
        refine g_12_9 rfl k0 (dd dt_12_evict 52 rfl) ?_
        refine R_iconst (v := 0) (dd dt_12_evict 53 rfl) ic_0 ?_
        obtain ⟨x13, e14, h⟩ := bi_el h
        refine R_ild e14 (ty_12_0 k0) (dd dt_12_evict 54 rfl) ?_
        refine R_iload_n (dd dt_12_evict 55 rfl) 3 rfl rfl ?_
        refine R_cmple (dd dt_12_evict 56 rfl) (tgt := 105) rfl (fun hc => ?_) (fun hc => ?_)
        · rw [if_pos hc] at h
          refine R_aload_n (dd dt_12_evict 70 rfl) 0 rfl rfl ?_
          refine g_12_9 rfl k0 (dd dt_12_evict 71 rfl) ?_
          refine R_iconst (v := 0) (dd dt_12_evict 72 rfl) ic_0 ?_
          obtain ⟨x15, e16, h⟩ := bi_el h
          refine R_ild e16 (ty_12_0 k0) (dd dt_12_evict 73 rfl) ?_
          refine R_iload_n (dd dt_12_evict 74 rfl) 3 rfl rfl ?_
          refine R_cmpge (dd dt_12_evict 75 rfl) (tgt := 117) rfl (fun hc => ?_) (fun hc => ?_)
          · rw [if_pos hc] at h
            refine R_aload_n (dd dt_12_evict 78 rfl) 0 rfl rfl ?_
            refine g_12_9 rfl k0 (dd dt_12_evict 79 rfl) ?_
            refine R_bipush (v := 96) (dd dt_12_evict 80 rfl) bp_96 ?_
            refine R_bipush (v := 12) (dd dt_12_evict 81 rfl) bp_12 ?_
            refine R_iload_n (dd dt_12_evict 82 rfl) 2 rfl rfl ?_
            refine R_imul (dd dt_12_evict 83 rfl) ?_
            refine R_iadd (dd dt_12_evict 84 rfl) ?_
            refine R_bipush (v := 11) (dd dt_12_evict 85 rfl) bp_11 ?_
            refine R_iadd (dd dt_12_evict 86 rfl) ?_
            refine R_iconst (v := 1) (dd dt_12_evict 87 rfl) ic_1 ?_
            obtain ⟨μ17, e18, h⟩ := bi_el h
            refine R_isto e18 (ty_12_0 k0) (dd dt_12_evict 88 rfl) ?_
            refine R_aload_n (dd dt_12_evict 89 rfl) 0 rfl rfl ?_
            refine g_12_9 rfl k0 (dd dt_12_evict 90 rfl) ?_
            refine R_bipush (v := 96) (dd dt_12_evict 91 rfl) bp_96 ?_
            refine R_bipush (v := 12) (dd dt_12_evict 92 rfl) bp_12 ?_
            refine R_iload_n (dd dt_12_evict 93 rfl) 2 rfl rfl ?_
            refine R_imul (dd dt_12_evict 94 rfl) ?_
            refine R_iadd (dd dt_12_evict 95 rfl) ?_
            refine R_iconst (v := 3) (dd dt_12_evict 96 rfl) ic_3 ?_
            refine R_iadd (dd dt_12_evict 97 rfl) ?_
            refine R_iconst (v := 0) (dd dt_12_evict 98 rfl) ic_0 ?_
            obtain ⟨μ19, e20, h⟩ := bi_el h
            refine R_isto e20 (ty_12_0 k0) (dd dt_12_evict 99 rfl) ?_
            refine R_iconst (v := 1) (dd dt_12_evict 100 rfl) ic_1 ?_
            obtain rfl := Option.some.inj h
            exact R_iret rfl (dd dt_12_evict 101 rfl) hQ
          · rw [if_neg hc] at h
            refine R_iconst (v := 0) (dd dt_12_evict 76 rfl) ic_0 ?_
            obtain rfl := Option.some.inj h
            exact R_iret rfl (dd dt_12_evict 77 rfl) hQ
        · rw [if_neg hc] at h
          exact R_mask [true, true, false, false] rfl (ok_12_evict_b88  h k0 hQ)
    · rw [if_neg hc] at h
      refine R_bipush (v := (-4)) (dd dt_12_evict 20 rfl) bp_m4 ?_
      obtain rfl := Option.some.inj h
      exact R_iret rfl (dd dt_12_evict 21 rfl) hQ
  · rw [if_pos hc] at h
    refine R_iconst (v := (-1)) (dd dt_12_evict 5 rfl) ic_m1 ?_
    obtain rfl := Option.some.inj h
    exact R_iret rfl (dd dt_12_evict 6 rfl) hQ
/-! LongStrikeModel.draws(I)I -/
def tab_12_draws : List (Nat × Instr × Nat) := [(0, .aload_n 0, 1), (1, .iload_n 1, 1), (2, .bipush 11, 2), (4, .invokevirtual 84, 3), (7, .ifCond .ne 5, 3), (10, .iconst (-1), 1), (11, .ireturn, 1), (12, .aload_n 0, 1), (13, .invokevirtual 234, 3), (16, .aload_n 0, 1), (17, .getfield 47, 3), (20, .iload_n 1, 1), (21, .iaload, 1), (22, .ireturn, 1)]
set_option maxRecDepth 100000 in
theorem dt_12_draws : ∀ q ∈ tab_12_draws, decode m_12_draws.2.1 q.1 = .ok q.2 := by decide +kernel
def f_12_draws (a0 : Nat) (a1 : Int32) (μ : mm) : Option (Int32 × mm) :=
  (f_12_is a0 a1 11 μ).bind fun x2 =>
  if x2 = 0 then
    some ((-1), μ)
  else
    (f_12_findDraws a0 μ).bind fun μ4 =>
    (ld μ4 (rf a0 22) a1).bind fun x5 =>
    some (x5, μ4)
set_option maxRecDepth 100000 in
set_option maxHeartbeats 4000000 in
theorem ok_12_draws {l : Launch} {E : ce} {d : Nat}  {a0 : Nat} {a1 : Int32} {μ : mm} {r : Int32 × mm} {Q : Option Value → mm → Prop} (h : f_12_draws a0 a1 μ = some r) (k0 : kd a0 = 12) (hQ : Q (some (.int r.1)) r.2) : Ct l E (d + 5) yX12_draws m_12_draws [.ref a0, .int a1] μ Q := by
  refine Ct_of (lv := [some (.ref a0), some (.int a1)]) (by decide) rfl (Nat.le_of_ble_eq_true rfl) rfl ?_
  unfold f_12_draws at h
  refine R_aload_n (dd dt_12_draws 0 rfl) 0 rfl rfl ?_
  refine R_iload_n (dd dt_12_draws 1 rfl) 1 rfl rfl ?_
  refine R_bipush (v := 11) (dd dt_12_draws 2 rfl) bp_11 ?_
  obtain ⟨x2, e1, h⟩ := bi_el h
  refine c_12_84 (As := [.int a1, .int 11]) (st1 := [.int x2]) rfl (fun Q1 hq => ok_12_is e1 k0 hq) k0 rfl rfl (Nat.le_of_ble_eq_true rfl) (dd dt_12_draws 3 rfl) rfl ?_
  refine R_ifne (dd dt_12_draws 4 rfl) (tgt := 12) rfl (fun hc => ?_) (fun hc => ?_)
  · rw [if_neg hc] at h
    refine R_aload_n (dd dt_12_draws 7 rfl) 0 rfl rfl ?_
    obtain ⟨μ4, e3, h⟩ := bi_el h
    refine c_12_234 (As := []) (st1 := []) rfl (fun Q1 hq => ok_12_findDraws e3 k0 hq) k0 rfl rfl (Nat.le_of_ble_eq_true rfl) (dd dt_12_draws 8 rfl) rfl ?_
    refine R_aload_n (dd dt_12_draws 9 rfl) 0 rfl rfl ?_
    refine g_12_47 rfl k0 (dd dt_12_draws 10 rfl) ?_
    refine R_iload_n (dd dt_12_draws 11 rfl) 1 rfl rfl ?_
    obtain ⟨x5, e6, h⟩ := bi_el h
    refine R_ild e6 (ty_12_22 k0) (dd dt_12_draws 12 rfl) ?_
    obtain rfl := Option.some.inj h
    exact R_iret rfl (dd dt_12_draws 13 rfl) hQ
  · rw [if_pos hc] at h
    refine R_iconst (v := (-1)) (dd dt_12_draws 5 rfl) ic_m1 ?_
    obtain rfl := Option.some.inj h
    exact R_iret rfl (dd dt_12_draws 6 rfl) hQ
/-! LongStrikeModel.least(I)I -/
def tab_12_least : List (Nat × Instr × Nat) := [(0, .iload_n 1, 1), (1, .iconst 0, 1), (2, .bipush 9, 2), (4, .invokestatic 80, 3), (7, .ifCond .ne 5, 3), (10, .iconst (-1), 1), (11, .ireturn, 1), (12, .aload_n 0, 1), (13, .invokevirtual 234, 3), (16, .iconst 0, 1), (17, .istore_n 2, 1), (18, .iconst 0, 1), (19, .istore_n 3, 1), (20, .iload_n 3, 1), (21, .aload_n 0, 1), (22, .getfield 9, 3), (25, .bipush 11, 2), (27, .iaload, 1), (28, .if_icmp .ge 32, 3), (31, .iload_n 2, 1), (32, .aload_n 0, 1), (33, .getfield 44, 3), (36, .iload_n 3, 1), (37, .iaload, 1), (38, .iload_n 1, 1), (39, .if_icmp .gt 12, 3), (42, .aload_n 0, 1), (43, .getfield 41, 3), (46, .iload_n 3, 1), (47, .iaload, 1), (48, .goto 4, 3), (51, .iconst 0, 1), (52, .iadd, 1), (53, .istore_n 2, 1), (54, .iinc 3 1, 3), (57, .goto (-37), 3), (60, .iconst 0, 1), (61, .iload_n 2, 1), (62, .aload_n 0, 1), (63, .getfield 9, 3), (66, .iconst 1, 1), (67, .iaload, 1), (68, .isub, 1), (69, .invokestatic 118, 3), (72, .ireturn, 1)]
set_option maxRecDepth 100000 in
theorem dt_12_least : ∀ q ∈ tab_12_least, decode m_12_least.2.1 q.1 = .ok q.2 := by decide +kernel
def f_12_least_l20 (a0 : Nat) (a1 : Int32) (μ : mm) : Nat → Int32 → Int32 → Option (Int32)
  | 0, _, _ => none
  | n + 1, v2, v3 => (ld μ (rf a0 0) 11).bind fun x1 =>
    if x1 ≤ v3 then
      some v2
    else
      (ld μ (rf a0 21) v3).bind fun x3 =>
      if a1 < x3 then
        f_12_least_l20 a0 a1 μ n (v2 + 0) (v3 + 1)
      else
        (ld μ (rf a0 20) v3).bind fun x5 =>
        f_12_least_l20 a0 a1 μ n (v2 + x5) (v3 + 1)
set_option maxRecDepth 100000 in
theorem ok_12_least_l20 {l : Launch} {E : ce} {d : Nat} {Q : Option Value → mm → Prop} (a0 : Nat) (a1 : Int32) (μ : mm) (k0 : kd a0 = 12) : ∀ (n : Nat) (v2 : Int32) (v3 : Int32) (z : Int32), f_12_least_l20 a0 a1 μ n v2 v3 = some z → Rj l E (d + 5) m_12_least 60 [some (.ref a0), none, some (.int z), none] [] μ Q → Rj l E (d + 5) m_12_least 20 [some (.ref a0), some (.int a1), some (.int v2), some (.int v3)] [] μ Q
  | 0, _, _, z, h, _ => by
    rw [f_12_least_l20] at h
    cases h
  | n + 1, v2, v3, z, h, KX => by
    rw [f_12_least_l20] at h
    refine R_iload_n (dd dt_12_least 13 rfl) 3 rfl rfl ?_
    refine R_aload_n (dd dt_12_least 14 rfl) 0 rfl rfl ?_
    refine g_12_9 rfl k0 (dd dt_12_least 15 rfl) ?_
    refine R_bipush (v := 11) (dd dt_12_least 16 rfl) bp_11 ?_
    obtain ⟨x1, e2, h⟩ := bi_el h
    refine R_ild e2 (ty_12_0 k0) (dd dt_12_least 17 rfl) ?_
    refine R_cmpge (dd dt_12_least 18 rfl) (tgt := 60) rfl (fun hc => ?_) (fun hc => ?_)
    · rw [if_pos hc] at h
      obtain rfl := Option.some.inj h
      exact R_mask [true, false, true, false] rfl KX
    · rw [if_neg hc] at h
      refine R_iload_n (dd dt_12_least 19 rfl) 2 rfl rfl ?_
      refine R_aload_n (dd dt_12_least 20 rfl) 0 rfl rfl ?_
      refine g_12_44 rfl k0 (dd dt_12_least 21 rfl) ?_
      refine R_iload_n (dd dt_12_least 22 rfl) 3 rfl rfl ?_
      obtain ⟨x3, e4, h⟩ := bi_el h
      refine R_ild e4 (ty_12_21 k0) (dd dt_12_least 23 rfl) ?_
      refine R_iload_n (dd dt_12_least 24 rfl) 1 rfl rfl ?_
      refine R_cmpgt (dd dt_12_least 25 rfl) (tgt := 51) rfl (fun hc => ?_) (fun hc => ?_)
      · rw [if_pos hc] at h
        refine R_iconst (v := 0) (dd dt_12_least 31 rfl) ic_0 ?_
        refine R_iadd (dd dt_12_least 32 rfl) ?_
        refine R_istore_n (lv' := [some (.ref a0), some (.int a1), some (.int (v2 + 0)), some (.int v3)]) (dd dt_12_least 33 rfl) 2 rfl (by decide) rfl rfl ?_
        refine R_iinc (v := 1) (lv' := [some (.ref a0), some (.int a1), some (.int (v2 + 0)), some (.int (v3 + 1))]) (dd dt_12_least 34 rfl) (by decide) rfl rfl ic_1 rfl ?_
        refine R_goto (dd dt_12_least 35 rfl) (tgt := 20) rfl ?_
        exact R_mask [true, true, true, true] rfl (ok_12_least_l20 a0 a1 μ k0 n (v2 + 0) (v3 + 1) _ h KX)
      · rw [if_neg hc] at h
        refine R_aload_n (dd dt_12_least 26 rfl) 0 rfl rfl ?_
        refine g_12_41 rfl k0 (dd dt_12_least 27 rfl) ?_
        refine R_iload_n (dd dt_12_least 28 rfl) 3 rfl rfl ?_
        obtain ⟨x5, e6, h⟩ := bi_el h
        refine R_ild e6 (ty_12_20 k0) (dd dt_12_least 29 rfl) ?_
        refine R_goto (dd dt_12_least 30 rfl) (tgt := 52) rfl ?_
        refine R_iadd (dd dt_12_least 32 rfl) ?_
        refine R_istore_n (lv' := [some (.ref a0), some (.int a1), some (.int (v2 + x5)), some (.int v3)]) (dd dt_12_least 33 rfl) 2 rfl (by decide) rfl rfl ?_
        refine R_iinc (v := 1) (lv' := [some (.ref a0), some (.int a1), some (.int (v2 + x5)), some (.int (v3 + 1))]) (dd dt_12_least 34 rfl) (by decide) rfl rfl ic_1 rfl ?_
        refine R_goto (dd dt_12_least 35 rfl) (tgt := 20) rfl ?_
        exact R_mask [true, true, true, true] rfl (ok_12_least_l20 a0 a1 μ k0 n (v2 + x5) (v3 + 1) _ h KX)
def f_12_least (a0 : Nat) (a1 : Int32) (μ : mm) : Option (Int32 × mm) :=
  (f_12_within a1 0 9 μ).bind fun x2 =>
  if x2 = 0 then
    some ((-1), μ)
  else
    (f_12_findDraws a0 μ).bind fun μ4 =>
    (f_12_least_l20 a0 a1 μ4 FU 0 0).bind fun z5 =>
    (ld μ4 (rf a0 0) 1).bind fun x7 =>
    some ((mx 0 (z5 - x7)), μ4)
set_option maxRecDepth 100000 in
set_option maxHeartbeats 4000000 in
theorem ok_12_least {l : Launch} {E : ce} {d : Nat}  {a0 : Nat} {a1 : Int32} {μ : mm} {r : Int32 × mm} {Q : Option Value → mm → Prop} (h : f_12_least a0 a1 μ = some r) (k0 : kd a0 = 12) (hQ : Q (some (.int r.1)) r.2) : Ct l E (d + 5) yX12_least m_12_least [.ref a0, .int a1] μ Q := by
  refine Ct_of (lv := [some (.ref a0), some (.int a1), none, none]) (by decide) rfl (Nat.le_of_ble_eq_true rfl) rfl ?_
  unfold f_12_least at h
  refine R_iload_n (dd dt_12_least 0 rfl) 1 rfl rfl ?_
  refine R_iconst (v := 0) (dd dt_12_least 1 rfl) ic_0 ?_
  refine R_bipush (v := 9) (dd dt_12_least 2 rfl) bp_9 ?_
  obtain ⟨x2, e1, h⟩ := bi_el h
  refine c_12_80 (As := [.int a1, .int 0, .int 9]) (st1 := [.int x2]) rfl (fun Q1 hq => ok_12_within e1 hq) rfl rfl (Nat.le_of_ble_eq_true rfl) (dd dt_12_least 3 rfl) rfl ?_
  refine R_ifne (dd dt_12_least 4 rfl) (tgt := 12) rfl (fun hc => ?_) (fun hc => ?_)
  · rw [if_neg hc] at h
    refine R_aload_n (dd dt_12_least 7 rfl) 0 rfl rfl ?_
    obtain ⟨μ4, e3, h⟩ := bi_el h
    refine c_12_234 (As := []) (st1 := []) rfl (fun Q1 hq => ok_12_findDraws e3 k0 hq) k0 rfl rfl (Nat.le_of_ble_eq_true rfl) (dd dt_12_least 8 rfl) rfl ?_
    refine R_iconst (v := 0) (dd dt_12_least 9 rfl) ic_0 ?_
    refine R_istore_n (lv' := [some (.ref a0), some (.int a1), some (.int 0), none]) (dd dt_12_least 10 rfl) 2 rfl (by decide) rfl rfl ?_
    refine R_iconst (v := 0) (dd dt_12_least 11 rfl) ic_0 ?_
    refine R_istore_n (lv' := [some (.ref a0), some (.int a1), some (.int 0), some (.int 0)]) (dd dt_12_least 12 rfl) 3 rfl (by decide) rfl rfl ?_
    obtain ⟨z5, e6, h⟩ := bi_el h
    refine R_mask [true, true, true, true] rfl (ok_12_least_l20 a0 a1 μ4 k0 FU 0 0 _ e6 ?_)
    refine R_iconst (v := 0) (dd dt_12_least 36 rfl) ic_0 ?_
    refine R_iload_n (dd dt_12_least 37 rfl) 2 rfl rfl ?_
    refine R_aload_n (dd dt_12_least 38 rfl) 0 rfl rfl ?_
    refine g_12_9 rfl k0 (dd dt_12_least 39 rfl) ?_
    refine R_iconst (v := 1) (dd dt_12_least 40 rfl) ic_1 ?_
    obtain ⟨x7, e8, h⟩ := bi_el h
    refine R_ild e8 (ty_12_0 k0) (dd dt_12_least 41 rfl) ?_
    refine R_isub (dd dt_12_least 42 rfl) ?_
    refine R_mmax ml_12_118 (Nat.le_of_ble_eq_true rfl) (dd dt_12_least 43 rfl) ?_
    obtain rfl := Option.some.inj h
    exact R_iret rfl (dd dt_12_least 44 rfl) hQ
  · rw [if_pos hc] at h
    refine R_iconst (v := (-1)) (dd dt_12_least 5 rfl) ic_m1 ?_
    obtain rfl := Option.some.inj h
    exact R_iret rfl (dd dt_12_least 6 rfl) hQ
/-! LongStrikeModel.companyLasts(Z)I -/
def tab_12_companyLasts : List (Nat × Instr × Nat) := [(0, .iconst 0, 1), (1, .istore_n 2, 1), (2, .iload_n 2, 1), (3, .bipush 120, 2), (5, .if_icmp .ge 33, 3), (8, .aload_n 0, 1), (9, .getfield 9, 3), (12, .iconst 2, 1), (13, .iaload, 1), (14, .ifCond .le 24, 3), (17, .aload_n 0, 1), (18, .getfield 9, 3), (21, .iconst 0, 1), (22, .dup2, 1), (23, .iaload, 1), (24, .iconst 1, 1), (25, .iadd, 1), (26, .iastore, 1), (27, .aload_n 0, 1), (28, .iload_n 1, 1), (29, .invokevirtual 259, 3), (32, .iinc 2 1, 3), (35, .goto (-33), 3), (38, .iload_n 2, 1), (39, .ireturn, 1)]
set_option maxRecDepth 100000 in
theorem dt_12_companyLasts : ∀ q ∈ tab_12_companyLasts, decode m_12_companyLasts.2.1 q.1 = .ok q.2 := by decide +kernel
def f_12_companyLasts_l2 (a0 : Nat) (a1 : Int32) : Nat → Int32 → mm → Option (Int32 × mm)
  | 0, _, _ => none
  | n + 1, v2, μ => if 120 ≤ v2 then
      some (v2, μ)
    else
      (ld μ (rf a0 0) 2).bind fun x1 =>
      if x1 ≤ 0 then
        some (v2, μ)
      else
        (ld μ (rf a0 0) 0).bind fun x3 =>
        (sto μ (rf a0 0) 0 (x3 + 1)).bind fun μ5 =>
        (f_12_worksGo a0 a1 μ5).bind fun μ8 =>
        f_12_companyLasts_l2 a0 a1 n (v2 + 1) μ8
set_option maxRecDepth 100000 in
theorem ok_12_companyLasts_l2 {l : Launch} {E : ce} {d : Nat} {Q : Option Value → mm → Prop} (a0 : Nat) (a1 : Int32) (k0 : kd a0 = 12) : ∀ (n : Nat) (v2 : Int32) (μ : mm) (z : Int32 × mm), f_12_companyLasts_l2 a0 a1 n v2 μ = some z → Rj l E (d + 1) m_12_companyLasts 38 [none, none, some (.int z.1)] [] z.2 Q → Rj l E (d + 1) m_12_companyLasts 2 [some (.ref a0), some (.int a1), some (.int v2)] [] μ Q
  | 0, _, _, z, h, _ => by
    rw [f_12_companyLasts_l2] at h
    cases h
  | n + 1, v2, μ, z, h, KX => by
    rw [f_12_companyLasts_l2] at h
    refine R_iload_n (dd dt_12_companyLasts 2 rfl) 2 rfl rfl ?_
    refine R_bipush (v := 120) (dd dt_12_companyLasts 3 rfl) bp_120 ?_
    refine R_cmpge (dd dt_12_companyLasts 4 rfl) (tgt := 38) rfl (fun hc => ?_) (fun hc => ?_)
    · rw [if_pos hc] at h
      obtain rfl := Option.some.inj h
      exact R_mask [false, false, true] rfl KX
    · rw [if_neg hc] at h
      refine R_aload_n (dd dt_12_companyLasts 5 rfl) 0 rfl rfl ?_
      refine g_12_9 rfl k0 (dd dt_12_companyLasts 6 rfl) ?_
      refine R_iconst (v := 2) (dd dt_12_companyLasts 7 rfl) ic_2 ?_
      obtain ⟨x1, e2, h⟩ := bi_el h
      refine R_ild e2 (ty_12_0 k0) (dd dt_12_companyLasts 8 rfl) ?_
      refine R_ifle (dd dt_12_companyLasts 9 rfl) (tgt := 38) rfl (fun hc => ?_) (fun hc => ?_)
      · rw [if_pos hc] at h
        obtain rfl := Option.some.inj h
        exact R_mask [false, false, true] rfl KX
      · rw [if_neg hc] at h
        refine R_aload_n (dd dt_12_companyLasts 10 rfl) 0 rfl rfl ?_
        refine g_12_9 rfl k0 (dd dt_12_companyLasts 11 rfl) ?_
        refine R_iconst (v := 0) (dd dt_12_companyLasts 12 rfl) ic_0 ?_
        refine R_dup2 (dd dt_12_companyLasts 13 rfl) rfl rfl ?_
        obtain ⟨x3, e4, h⟩ := bi_el h
        refine R_ild e4 (ty_12_0 k0) (dd dt_12_companyLasts 14 rfl) ?_
        refine R_iconst (v := 1) (dd dt_12_companyLasts 15 rfl) ic_1 ?_
        refine R_iadd (dd dt_12_companyLasts 16 rfl) ?_
        obtain ⟨μ5, e6, h⟩ := bi_el h
        refine R_isto e6 (ty_12_0 k0) (dd dt_12_companyLasts 17 rfl) ?_
        refine R_aload_n (dd dt_12_companyLasts 18 rfl) 0 rfl rfl ?_
        refine R_iload_n (dd dt_12_companyLasts 19 rfl) 1 rfl rfl ?_
        obtain ⟨μ8, e7, h⟩ := bi_el h
        refine c_12_259 (As := [.int a1]) (st1 := []) rfl (fun Q1 hq => ok_12_worksGo e7 k0 hq) k0 rfl rfl (Nat.le_of_ble_eq_true rfl) (dd dt_12_companyLasts 20 rfl) rfl ?_
        refine R_iinc (v := 1) (lv' := [some (.ref a0), some (.int a1), some (.int (v2 + 1))]) (dd dt_12_companyLasts 21 rfl) (by decide) rfl rfl ic_1 rfl ?_
        refine R_goto (dd dt_12_companyLasts 22 rfl) (tgt := 2) rfl ?_
        exact R_mask [true, true, true] rfl (ok_12_companyLasts_l2 a0 a1 k0 n (v2 + 1) μ8 _ h KX)
def f_12_companyLasts (a0 : Nat) (a1 : Int32) (μ : mm) : Option (Int32 × mm) :=
  (f_12_companyLasts_l2 a0 a1 FU 0 μ).bind fun z1 =>
  some (z1.1, z1.2)
set_option maxRecDepth 100000 in
set_option maxHeartbeats 4000000 in
theorem ok_12_companyLasts {l : Launch} {E : ce} {d : Nat}  {a0 : Nat} {a1 : Int32} {μ : mm} {r : Int32 × mm} {Q : Option Value → mm → Prop} (h : f_12_companyLasts a0 a1 μ = some r) (k0 : kd a0 = 12) (hQ : Q (some (.int r.1)) r.2) : Ct l E (d + 1) yX12_companyLasts m_12_companyLasts [.ref a0, .int a1] μ Q := by
  refine Ct_of (lv := [some (.ref a0), some (.int a1), none]) (by decide) rfl (Nat.le_of_ble_eq_true rfl) rfl ?_
  unfold f_12_companyLasts at h
  refine R_iconst (v := 0) (dd dt_12_companyLasts 0 rfl) ic_0 ?_
  refine R_istore_n (lv' := [some (.ref a0), some (.int a1), some (.int 0)]) (dd dt_12_companyLasts 1 rfl) 2 rfl (by decide) rfl rfl ?_
  obtain ⟨z1, e2, h⟩ := bi_el h
  refine R_mask [true, true, true] rfl (ok_12_companyLasts_l2 a0 a1 k0 FU 0 μ _ e2 ?_)
  refine R_iload_n (dd dt_12_companyLasts 23 rfl) 2 rfl rfl ?_
  obtain rfl := Option.some.inj h
  exact R_iret rfl (dd dt_12_companyLasts 24 rfl) hQ
/-! LongStrikeModel.gaveIn()Z -/
def tab_12_gaveIn : List (Nat × Instr × Nat) := [(0, .iconst 0, 1), (1, .istore_n 1, 1), (2, .iconst 0, 1), (3, .istore_n 2, 1), (4, .iload_n 2, 1), (5, .aload_n 0, 1), (6, .getfield 9, 3), (9, .bipush 11, 2), (11, .iaload, 1), (12, .if_icmp .ge 27, 3), (15, .iload_n 1, 1), (16, .aload_n 0, 1), (17, .iload_n 2, 1), (18, .bipush 10, 2), (20, .invokevirtual 98, 3), (23, .ifCond .ne 7, 3), (26, .iconst 1, 1), (27, .goto 4, 3), (30, .iconst 0, 1), (31, .iadd, 1), (32, .istore_n 1, 1), (33, .iinc 2 1, 3), (36, .goto (-32), 3), (39, .iconst 2, 1), (40, .iload_n 1, 1), (41, .imul, 1), (42, .aload_n 0, 1), (43, .getfield 9, 3), (46, .bipush 11, 2), (48, .iaload, 1), (49, .if_icmp .ge 7, 3), (52, .iconst 1, 1), (53, .goto 4, 3), (56, .iconst 0, 1), (57, .ireturn, 1)]
set_option maxRecDepth 100000 in
theorem dt_12_gaveIn : ∀ q ∈ tab_12_gaveIn, decode m_12_gaveIn.2.1 q.1 = .ok q.2 := by decide +kernel
def f_12_gaveIn_l4 (a0 : Nat) (μ : mm) : Nat → Int32 → Int32 → Option (Int32)
  | 0, _, _ => none
  | n + 1, v1, v2 => (ld μ (rf a0 0) 11).bind fun x1 =>
    if x1 ≤ v2 then
      some v1
    else
      (f_12_house a0 v2 10 μ).bind fun x4 =>
      if x4 = 0 then
        f_12_gaveIn_l4 a0 μ n (v1 + 1) (v2 + 1)
      else
        f_12_gaveIn_l4 a0 μ n (v1 + 0) (v2 + 1)
set_option maxRecDepth 100000 in
theorem ok_12_gaveIn_l4 {l : Launch} {E : ce} {d : Nat} {Q : Option Value → mm → Prop} (a0 : Nat) (μ : mm) (k0 : kd a0 = 12) : ∀ (n : Nat) (v1 : Int32) (v2 : Int32) (z : Int32), f_12_gaveIn_l4 a0 μ n v1 v2 = some z → Rj l E (d + 1) m_12_gaveIn 39 [some (.ref a0), some (.int z), none] [] μ Q → Rj l E (d + 1) m_12_gaveIn 4 [some (.ref a0), some (.int v1), some (.int v2)] [] μ Q
  | 0, _, _, z, h, _ => by
    rw [f_12_gaveIn_l4] at h
    cases h
  | n + 1, v1, v2, z, h, KX => by
    rw [f_12_gaveIn_l4] at h
    refine R_iload_n (dd dt_12_gaveIn 4 rfl) 2 rfl rfl ?_
    refine R_aload_n (dd dt_12_gaveIn 5 rfl) 0 rfl rfl ?_
    refine g_12_9 rfl k0 (dd dt_12_gaveIn 6 rfl) ?_
    refine R_bipush (v := 11) (dd dt_12_gaveIn 7 rfl) bp_11 ?_
    obtain ⟨x1, e2, h⟩ := bi_el h
    refine R_ild e2 (ty_12_0 k0) (dd dt_12_gaveIn 8 rfl) ?_
    refine R_cmpge (dd dt_12_gaveIn 9 rfl) (tgt := 39) rfl (fun hc => ?_) (fun hc => ?_)
    · rw [if_pos hc] at h
      obtain rfl := Option.some.inj h
      exact R_mask [true, true, false] rfl KX
    · rw [if_neg hc] at h
      refine R_iload_n (dd dt_12_gaveIn 10 rfl) 1 rfl rfl ?_
      refine R_aload_n (dd dt_12_gaveIn 11 rfl) 0 rfl rfl ?_
      refine R_iload_n (dd dt_12_gaveIn 12 rfl) 2 rfl rfl ?_
      refine R_bipush (v := 10) (dd dt_12_gaveIn 13 rfl) bp_10 ?_
      obtain ⟨x4, e3, h⟩ := bi_el h
      refine c_12_98 (As := [.int v2, .int 10]) (st1 := [.int x4, .int v1]) rfl (fun Q1 hq => ok_12_house e3 k0 hq) k0 rfl rfl (Nat.le_of_ble_eq_true rfl) (dd dt_12_gaveIn 14 rfl) rfl ?_
      refine R_ifne (dd dt_12_gaveIn 15 rfl) (tgt := 30) rfl (fun hc => ?_) (fun hc => ?_)
      · rw [if_neg hc] at h
        refine R_iconst (v := 0) (dd dt_12_gaveIn 18 rfl) ic_0 ?_
        refine R_iadd (dd dt_12_gaveIn 19 rfl) ?_
        refine R_istore_n (lv' := [some (.ref a0), some (.int (v1 + 0)), some (.int v2)]) (dd dt_12_gaveIn 20 rfl) 1 rfl (by decide) rfl rfl ?_
        refine R_iinc (v := 1) (lv' := [some (.ref a0), some (.int (v1 + 0)), some (.int (v2 + 1))]) (dd dt_12_gaveIn 21 rfl) (by decide) rfl rfl ic_1 rfl ?_
        refine R_goto (dd dt_12_gaveIn 22 rfl) (tgt := 4) rfl ?_
        exact R_mask [true, true, true] rfl (ok_12_gaveIn_l4 a0 μ k0 n (v1 + 0) (v2 + 1) _ h KX)
      · rw [if_pos hc] at h
        refine R_iconst (v := 1) (dd dt_12_gaveIn 16 rfl) ic_1 ?_
        refine R_goto (dd dt_12_gaveIn 17 rfl) (tgt := 31) rfl ?_
        refine R_iadd (dd dt_12_gaveIn 19 rfl) ?_
        refine R_istore_n (lv' := [some (.ref a0), some (.int (v1 + 1)), some (.int v2)]) (dd dt_12_gaveIn 20 rfl) 1 rfl (by decide) rfl rfl ?_
        refine R_iinc (v := 1) (lv' := [some (.ref a0), some (.int (v1 + 1)), some (.int (v2 + 1))]) (dd dt_12_gaveIn 21 rfl) (by decide) rfl rfl ic_1 rfl ?_
        refine R_goto (dd dt_12_gaveIn 22 rfl) (tgt := 4) rfl ?_
        exact R_mask [true, true, true] rfl (ok_12_gaveIn_l4 a0 μ k0 n (v1 + 1) (v2 + 1) _ h KX)
def f_12_gaveIn (a0 : Nat) (μ : mm) : Option (Int32) :=
  (f_12_gaveIn_l4 a0 μ FU 0 0).bind fun z1 =>
  (ld μ (rf a0 0) 11).bind fun x3 =>
  if x3 ≤ (2 * z1) then
    some 0
  else
    some 1
set_option maxRecDepth 100000 in
set_option maxHeartbeats 4000000 in
theorem ok_12_gaveIn {l : Launch} {E : ce} {d : Nat}  {a0 : Nat} {μ : mm} {r : Int32} {Q : Option Value → mm → Prop} (h : f_12_gaveIn a0 μ = some r) (k0 : kd a0 = 12) (hQ : Q (some (.int r)) μ) : Ct l E (d + 1) yX12_gaveIn m_12_gaveIn [.ref a0] μ Q := by
  refine Ct_of (lv := [some (.ref a0), none, none]) (by decide) rfl (Nat.le_of_ble_eq_true rfl) rfl ?_
  unfold f_12_gaveIn at h
  refine R_iconst (v := 0) (dd dt_12_gaveIn 0 rfl) ic_0 ?_
  refine R_istore_n (lv' := [some (.ref a0), some (.int 0), none]) (dd dt_12_gaveIn 1 rfl) 1 rfl (by decide) rfl rfl ?_
  refine R_iconst (v := 0) (dd dt_12_gaveIn 2 rfl) ic_0 ?_
  refine R_istore_n (lv' := [some (.ref a0), some (.int 0), some (.int 0)]) (dd dt_12_gaveIn 3 rfl) 2 rfl (by decide) rfl rfl ?_
  obtain ⟨z1, e2, h⟩ := bi_el h
  refine R_mask [true, true, true] rfl (ok_12_gaveIn_l4 a0 μ k0 FU 0 0 _ e2 ?_)
  refine R_iconst (v := 2) (dd dt_12_gaveIn 23 rfl) ic_2 ?_
  refine R_iload_n (dd dt_12_gaveIn 24 rfl) 1 rfl rfl ?_
  refine R_imul (dd dt_12_gaveIn 25 rfl) ?_
  refine R_aload_n (dd dt_12_gaveIn 26 rfl) 0 rfl rfl ?_
  refine g_12_9 rfl k0 (dd dt_12_gaveIn 27 rfl) ?_
  refine R_bipush (v := 11) (dd dt_12_gaveIn 28 rfl) bp_11 ?_
  obtain ⟨x3, e4, h⟩ := bi_el h
  refine R_ild e4 (ty_12_0 k0) (dd dt_12_gaveIn 29 rfl) ?_
  refine R_cmpge (dd dt_12_gaveIn 30 rfl) (tgt := 56) rfl (fun hc => ?_) (fun hc => ?_)
  · rw [if_pos hc] at h
    refine R_iconst (v := 0) (dd dt_12_gaveIn 33 rfl) ic_0 ?_
    obtain rfl := Option.some.inj h
    exact R_zret rfl (by decide) (dd dt_12_gaveIn 34 rfl) hQ
  · rw [if_neg hc] at h
    refine R_iconst (v := 1) (dd dt_12_gaveIn 31 rfl) ic_1 ?_
    refine R_goto (dd dt_12_gaveIn 32 rfl) (tgt := 57) rfl ?_
    obtain rfl := Option.some.inj h
    exact R_zret rfl (by decide) (dd dt_12_gaveIn 34 rfl) hQ
/-! LongStrikeModel.valleyLasts()I -/
def tab_12_valleyLasts : List (Nat × Instr × Nat) := [(0, .iconst 0, 1), (1, .istore_n 1, 1), (2, .iload_n 1, 1), (3, .bipush 120, 2), (5, .if_icmp .ge 31, 3), (8, .aload_n 0, 1), (9, .invokevirtual 265, 3), (12, .ifCond .ne 24, 3), (15, .aload_n 0, 1), (16, .getfield 9, 3), (19, .iconst 0, 1), (20, .dup2, 1), (21, .iaload, 1), (22, .iconst 1, 1), (23, .iadd, 1), (24, .iastore, 1), (25, .aload_n 0, 1), (26, .iconst 0, 1), (27, .invokevirtual 256, 3), (30, .iinc 1 1, 3), (33, .goto (-31), 3), (36, .iload_n 1, 1), (37, .ireturn, 1)]
set_option maxRecDepth 100000 in
theorem dt_12_valleyLasts : ∀ q ∈ tab_12_valleyLasts, decode m_12_valleyLasts.2.1 q.1 = .ok q.2 := by decide +kernel
def f_12_valleyLasts_l2 (a0 : Nat) : Nat → Int32 → mm → Option (Int32 × mm)
  | 0, _, _ => none
  | n + 1, v1, μ => if 120 ≤ v1 then
      some (v1, μ)
    else
      (f_12_gaveIn a0 μ).bind fun x2 =>
      if x2 = 0 then
        (ld μ (rf a0 0) 0).bind fun x3 =>
        (sto μ (rf a0 0) 0 (x3 + 1)).bind fun μ5 =>
        (f_12_valleyGoes a0 0 μ5).bind fun μ8 =>
        f_12_valleyLasts_l2 a0 n (v1 + 1) μ8
      else
        some (v1, μ)
set_option maxRecDepth 100000 in
theorem ok_12_valleyLasts_l2 {l : Launch} {E : ce} {d : Nat} {Q : Option Value → mm → Prop} (a0 : Nat) (k0 : kd a0 = 12) : ∀ (n : Nat) (v1 : Int32) (μ : mm) (z : Int32 × mm), f_12_valleyLasts_l2 a0 n v1 μ = some z → Rj l E (d + 7) m_12_valleyLasts 36 [none, some (.int z.1)] [] z.2 Q → Rj l E (d + 7) m_12_valleyLasts 2 [some (.ref a0), some (.int v1)] [] μ Q
  | 0, _, _, z, h, _ => by
    rw [f_12_valleyLasts_l2] at h
    cases h
  | n + 1, v1, μ, z, h, KX => by
    rw [f_12_valleyLasts_l2] at h
    refine R_iload_n (dd dt_12_valleyLasts 2 rfl) 1 rfl rfl ?_
    refine R_bipush (v := 120) (dd dt_12_valleyLasts 3 rfl) bp_120 ?_
    refine R_cmpge (dd dt_12_valleyLasts 4 rfl) (tgt := 36) rfl (fun hc => ?_) (fun hc => ?_)
    · rw [if_pos hc] at h
      obtain rfl := Option.some.inj h
      exact R_mask [false, true] rfl KX
    · rw [if_neg hc] at h
      refine R_aload_n (dd dt_12_valleyLasts 5 rfl) 0 rfl rfl ?_
      obtain ⟨x2, e1, h⟩ := bi_el h
      refine c_12_265 (As := []) (st1 := [.int x2]) rfl (fun Q1 hq => ok_12_gaveIn e1 k0 hq) k0 rfl rfl (Nat.le_of_ble_eq_true rfl) (dd dt_12_valleyLasts 6 rfl) rfl ?_
      refine R_ifne (dd dt_12_valleyLasts 7 rfl) (tgt := 36) rfl (fun hc => ?_) (fun hc => ?_)
      · rw [if_neg hc] at h
        obtain rfl := Option.some.inj h
        exact R_mask [false, true] rfl KX
      · rw [if_pos hc] at h
        refine R_aload_n (dd dt_12_valleyLasts 8 rfl) 0 rfl rfl ?_
        refine g_12_9 rfl k0 (dd dt_12_valleyLasts 9 rfl) ?_
        refine R_iconst (v := 0) (dd dt_12_valleyLasts 10 rfl) ic_0 ?_
        refine R_dup2 (dd dt_12_valleyLasts 11 rfl) rfl rfl ?_
        obtain ⟨x3, e4, h⟩ := bi_el h
        refine R_ild e4 (ty_12_0 k0) (dd dt_12_valleyLasts 12 rfl) ?_
        refine R_iconst (v := 1) (dd dt_12_valleyLasts 13 rfl) ic_1 ?_
        refine R_iadd (dd dt_12_valleyLasts 14 rfl) ?_
        obtain ⟨μ5, e6, h⟩ := bi_el h
        refine R_isto e6 (ty_12_0 k0) (dd dt_12_valleyLasts 15 rfl) ?_
        refine R_aload_n (dd dt_12_valleyLasts 16 rfl) 0 rfl rfl ?_
        refine R_iconst (v := 0) (dd dt_12_valleyLasts 17 rfl) ic_0 ?_
        obtain ⟨μ8, e7, h⟩ := bi_el h
        refine c_12_256 (As := [.int 0]) (st1 := []) rfl (fun Q1 hq => ok_12_valleyGoes e7 k0 hq) k0 rfl rfl (Nat.le_of_ble_eq_true rfl) (dd dt_12_valleyLasts 18 rfl) rfl ?_
        refine R_iinc (v := 1) (lv' := [some (.ref a0), some (.int (v1 + 1))]) (dd dt_12_valleyLasts 19 rfl) (by decide) rfl rfl ic_1 rfl ?_
        refine R_goto (dd dt_12_valleyLasts 20 rfl) (tgt := 2) rfl ?_
        exact R_mask [true, true] rfl (ok_12_valleyLasts_l2 a0 k0 n (v1 + 1) μ8 _ h KX)
def f_12_valleyLasts (a0 : Nat) (μ : mm) : Option (Int32 × mm) :=
  (f_12_valleyLasts_l2 a0 FU 0 μ).bind fun z1 =>
  some (z1.1, z1.2)
set_option maxRecDepth 100000 in
set_option maxHeartbeats 4000000 in
theorem ok_12_valleyLasts {l : Launch} {E : ce} {d : Nat}  {a0 : Nat} {μ : mm} {r : Int32 × mm} {Q : Option Value → mm → Prop} (h : f_12_valleyLasts a0 μ = some r) (k0 : kd a0 = 12) (hQ : Q (some (.int r.1)) r.2) : Ct l E (d + 7) yX12_valleyLasts m_12_valleyLasts [.ref a0] μ Q := by
  refine Ct_of (lv := [some (.ref a0), none]) (by decide) rfl (Nat.le_of_ble_eq_true rfl) rfl ?_
  unfold f_12_valleyLasts at h
  refine R_iconst (v := 0) (dd dt_12_valleyLasts 0 rfl) ic_0 ?_
  refine R_istore_n (lv' := [some (.ref a0), some (.int 0)]) (dd dt_12_valleyLasts 1 rfl) 1 rfl (by decide) rfl rfl ?_
  obtain ⟨z1, e2, h⟩ := bi_el h
  refine R_mask [true, true] rfl (ok_12_valleyLasts_l2 a0 k0 FU 0 μ _ e2 ?_)
  refine R_iload_n (dd dt_12_valleyLasts 21 rfl) 1 rfl rfl ?_
  obtain rfl := Option.some.inj h
  exact R_iret rfl (dd dt_12_valleyLasts 22 rfl) hQ
/-! LongStrikeModel.last(I)I -/
def tab_12_last : List (Nat × Instr × Nat) := [(0, .iload_n 1, 1), (1, .iconst 0, 1), (2, .iconst 3, 1), (3, .invokestatic 80, 3), (6, .ifCond .ne 5, 3), (9, .iconst (-1), 1), (10, .ireturn, 1), (11, .iconst 0, 1), (12, .istore_n 2, 1), (13, .iload_n 2, 1), (14, .sipush 912, 3), (17, .if_icmp .ge 21, 3), (20, .aload_n 0, 1), (21, .getfield 16, 3), (24, .iload_n 2, 1), (25, .aload_n 0, 1), (26, .getfield 9, 3), (29, .iload_n 2, 1), (30, .iaload, 1), (31, .iastore, 1), (32, .iinc 2 1, 3), (35, .goto (-22), 3), (38, .aload_n 0, 1), (39, .getfield 9, 3), (42, .iconst 1, 1), (43, .iload_n 1, 1), (44, .iconst 2, 1), (45, .if_icmp .ne 13, 3), (48, .aload_n 0, 1), (49, .getfield 9, 3), (52, .bipush 6, 2), (54, .iaload, 1), (55, .goto 9, 3), (58, .aload_n 0, 1), (59, .getfield 9, 3), (62, .iconst 1, 1), (63, .iaload, 1), (64, .iastore, 1), (65, .aload_n 0, 1), (66, .getfield 9, 3), (69, .iconst 2, 1), (70, .iload_n 1, 1), (71, .iconst 3, 1), (72, .if_icmp .ne 13, 3), (75, .aload_n 0, 1), (76, .getfield 9, 3), (79, .bipush 7, 2), (81, .iaload, 1), (82, .goto 9, 3), (85, .aload_n 0, 1), (86, .getfield 9, 3), (89, .iconst 2, 1), (90, .iaload, 1), (91, .iastore, 1), (92, .iload_n 1, 1), (93, .iconst 2, 1), (94, .irem, 1), (95, .ifCond .ne 10, 3), (98, .aload_n 0, 1), (99, .invokevirtual 269, 3), (102, .goto 17, 3), (105, .aload_n 0, 1), (106, .iload_n 1, 1), (107, .iconst 1, 1), (108, .if_icmp .ne 7, 3), (111, .iconst 1, 1), (112, .goto 4, 3), (115, .iconst 0, 1), (116, .invokevirtual 272, 3), (119, .istore_n 2, 1), (120, .iconst 0, 1), (121, .istore_n 3, 1), (122, .iload_n 3, 1), (123, .sipush 912, 3), (126, .if_icmp .ge 21, 3), (129, .aload_n 0, 1), (130, .getfield 9, 3), (133, .iload_n 3, 1), (134, .aload_n 0, 1), (135, .getfield 16, 3), (138, .iload_n 3, 1), (139, .iaload, 1), (140, .iastore, 1), (141, .iinc 3 1, 3), (144, .goto (-22), 3), (147, .iload_n 2, 1), (148, .ireturn, 1)]
set_option maxRecDepth 100000 in
theorem dt_12_last : ∀ q ∈ tab_12_last, decode m_12_last.2.1 q.1 = .ok q.2 := by decide +kernel
def f_12_last_l13 (a0 : Nat) (a1 : Int32) : Nat → Int32 → mm → Option (mm)
  | 0, _, _ => none
  | n + 1, v2, μ => if 912 ≤ v2 then
      some μ
    else
      (ld μ (rf a0 0) v2).bind fun x1 =>
      (sto μ (rf a0 2) v2 x1).bind fun μ3 =>
      f_12_last_l13 a0 a1 n (v2 + 1) μ3
set_option maxRecDepth 100000 in
theorem ok_12_last_l13 {l : Launch} {E : ce} {d : Nat} {Q : Option Value → mm → Prop} (a0 : Nat) (a1 : Int32) (k0 : kd a0 = 12) : ∀ (n : Nat) (v2 : Int32) (μ : mm) (z : mm), f_12_last_l13 a0 a1 n v2 μ = some z → Rj l E (d + 8) m_12_last 38 [some (.ref a0), some (.int a1), none, none] [] z Q → Rj l E (d + 8) m_12_last 13 [some (.ref a0), some (.int a1), some (.int v2), none] [] μ Q
  | 0, _, _, z, h, _ => by
    rw [f_12_last_l13] at h
    cases h
  | n + 1, v2, μ, z, h, KX => by
    rw [f_12_last_l13] at h
    refine R_iload_n (dd dt_12_last 9 rfl) 2 rfl rfl ?_
    refine R_sipush (v := 912) (dd dt_12_last 10 rfl) sp_912 ?_
    refine R_cmpge (dd dt_12_last 11 rfl) (tgt := 38) rfl (fun hc => ?_) (fun hc => ?_)
    · rw [if_pos hc] at h
      obtain rfl := Option.some.inj h
      exact R_mask [true, true, false, false] rfl KX
    · rw [if_neg hc] at h
      refine R_aload_n (dd dt_12_last 12 rfl) 0 rfl rfl ?_
      refine g_12_16 rfl k0 (dd dt_12_last 13 rfl) ?_
      refine R_iload_n (dd dt_12_last 14 rfl) 2 rfl rfl ?_
      refine R_aload_n (dd dt_12_last 15 rfl) 0 rfl rfl ?_
      refine g_12_9 rfl k0 (dd dt_12_last 16 rfl) ?_
      refine R_iload_n (dd dt_12_last 17 rfl) 2 rfl rfl ?_
      obtain ⟨x1, e2, h⟩ := bi_el h
      refine R_ild e2 (ty_12_0 k0) (dd dt_12_last 18 rfl) ?_
      obtain ⟨μ3, e4, h⟩ := bi_el h
      refine R_isto e4 (ty_12_2 k0) (dd dt_12_last 19 rfl) ?_
      refine R_iinc (v := 1) (lv' := [some (.ref a0), some (.int a1), some (.int (v2 + 1)), none]) (dd dt_12_last 20 rfl) (by decide) rfl rfl ic_1 rfl ?_
      refine R_goto (dd dt_12_last 21 rfl) (tgt := 13) rfl ?_
      exact R_mask [true, true, true, false] rfl (ok_12_last_l13 a0 a1 k0 n (v2 + 1) μ3 _ h KX)
def f_12_last_l122 (a0 : Nat) (a2 : Int32) : Nat → Int32 → mm → Option (mm)
  | 0, _, _ => none
  | n + 1, v3, μ => if 912 ≤ v3 then
      some μ
    else
      (ld μ (rf a0 2) v3).bind fun x1 =>
      (sto μ (rf a0 0) v3 x1).bind fun μ3 =>
      f_12_last_l122 a0 a2 n (v3 + 1) μ3
set_option maxRecDepth 100000 in
theorem ok_12_last_l122 {l : Launch} {E : ce} {d : Nat} {Q : Option Value → mm → Prop} (a0 : Nat) (a2 : Int32) (k0 : kd a0 = 12) : ∀ (n : Nat) (v3 : Int32) (μ : mm) (z : mm), f_12_last_l122 a0 a2 n v3 μ = some z → Rj l E (d + 8) m_12_last 147 [none, none, some (.int a2), none] [] z Q → Rj l E (d + 8) m_12_last 122 [some (.ref a0), none, some (.int a2), some (.int v3)] [] μ Q
  | 0, _, _, z, h, _ => by
    rw [f_12_last_l122] at h
    cases h
  | n + 1, v3, μ, z, h, KX => by
    rw [f_12_last_l122] at h
    refine R_iload_n (dd dt_12_last 72 rfl) 3 rfl rfl ?_
    refine R_sipush (v := 912) (dd dt_12_last 73 rfl) sp_912 ?_
    refine R_cmpge (dd dt_12_last 74 rfl) (tgt := 147) rfl (fun hc => ?_) (fun hc => ?_)
    · rw [if_pos hc] at h
      obtain rfl := Option.some.inj h
      exact R_mask [false, false, true, false] rfl KX
    · rw [if_neg hc] at h
      refine R_aload_n (dd dt_12_last 75 rfl) 0 rfl rfl ?_
      refine g_12_9 rfl k0 (dd dt_12_last 76 rfl) ?_
      refine R_iload_n (dd dt_12_last 77 rfl) 3 rfl rfl ?_
      refine R_aload_n (dd dt_12_last 78 rfl) 0 rfl rfl ?_
      refine g_12_16 rfl k0 (dd dt_12_last 79 rfl) ?_
      refine R_iload_n (dd dt_12_last 80 rfl) 3 rfl rfl ?_
      obtain ⟨x1, e2, h⟩ := bi_el h
      refine R_ild e2 (ty_12_2 k0) (dd dt_12_last 81 rfl) ?_
      obtain ⟨μ3, e4, h⟩ := bi_el h
      refine R_isto e4 (ty_12_0 k0) (dd dt_12_last 82 rfl) ?_
      refine R_iinc (v := 1) (lv' := [some (.ref a0), none, some (.int a2), some (.int (v3 + 1))]) (dd dt_12_last 83 rfl) (by decide) rfl rfl ic_1 rfl ?_
      refine R_goto (dd dt_12_last 84 rfl) (tgt := 122) rfl ?_
      exact R_mask [true, false, true, true] rfl (ok_12_last_l122 a0 a2 k0 n (v3 + 1) μ3 _ h KX)
def f_12_last (a0 : Nat) (a1 : Int32) (μ : mm) : Option (Int32 × mm) :=
  (f_12_within a1 0 3 μ).bind fun x2 =>
  if x2 = 0 then
    some ((-1), μ)
  else
    (f_12_last_l13 a0 a1 FU 0 μ).bind fun z3 =>
    (if a1 = 2 then
        (ld z3 (rf a0 0) 6).bind fun x7 =>
        some x7
      else
        (ld z3 (rf a0 0) 1).bind fun x5 =>
        some x5).bind fun (z9 : Int32) =>
    (sto z3 (rf a0 0) 1 z9).bind fun μ10 =>
    (if a1 = 3 then
        (ld μ10 (rf a0 0) 7).bind fun x14 =>
        some x14
      else
        (ld μ10 (rf a0 0) 2).bind fun x12 =>
        some x12).bind fun (z16 : Int32) =>
    (sto μ10 (rf a0 0) 2 z16).bind fun μ17 =>
    (if (a1 - a1 / 2 * 2) = 0 then
        (f_12_valleyLasts a0 μ17).bind fun z23 =>
        some (z23.1, z23.2)
      else
        (if a1 = 1 then
            some 1
          else
            some 0).bind fun (z19 : Int32) =>
        (f_12_companyLasts a0 z19 μ17).bind fun z21 =>
        some (z21.1, z21.2)).bind fun (z24 : Int32 × mm) =>
    (f_12_last_l122 a0 z24.1 FU 0 z24.2).bind fun z25 =>
    some (z24.1, z25)
set_option maxRecDepth 100000 in
set_option maxHeartbeats 4000000 in
theorem ok_12_last {l : Launch} {E : ce} {d : Nat}  {a0 : Nat} {a1 : Int32} {μ : mm} {r : Int32 × mm} {Q : Option Value → mm → Prop} (h : f_12_last a0 a1 μ = some r) (k0 : kd a0 = 12) (hQ : Q (some (.int r.1)) r.2) : Ct l E (d + 8) yX12_last m_12_last [.ref a0, .int a1] μ Q := by
  refine Ct_of (lv := [some (.ref a0), some (.int a1), none, none]) (by decide) rfl (Nat.le_of_ble_eq_true rfl) rfl ?_
  unfold f_12_last at h
  refine R_iload_n (dd dt_12_last 0 rfl) 1 rfl rfl ?_
  refine R_iconst (v := 0) (dd dt_12_last 1 rfl) ic_0 ?_
  refine R_iconst (v := 3) (dd dt_12_last 2 rfl) ic_3 ?_
  obtain ⟨x2, e1, h⟩ := bi_el h
  refine c_12_80 (As := [.int a1, .int 0, .int 3]) (st1 := [.int x2]) rfl (fun Q1 hq => ok_12_within e1 hq) rfl rfl (Nat.le_of_ble_eq_true rfl) (dd dt_12_last 3 rfl) rfl ?_
  refine R_ifne (dd dt_12_last 4 rfl) (tgt := 11) rfl (fun hc => ?_) (fun hc => ?_)
  · rw [if_neg hc] at h
    refine R_iconst (v := 0) (dd dt_12_last 7 rfl) ic_0 ?_
    refine R_istore_n (lv' := [some (.ref a0), some (.int a1), some (.int 0), none]) (dd dt_12_last 8 rfl) 2 rfl (by decide) rfl rfl ?_
    obtain ⟨z3, e4, h⟩ := bi_el h
    refine R_mask [true, true, true, false] rfl (ok_12_last_l13 a0 a1 k0 FU 0 μ _ e4 ?_)
    refine R_aload_n (dd dt_12_last 22 rfl) 0 rfl rfl ?_
    refine g_12_9 rfl k0 (dd dt_12_last 23 rfl) ?_
    refine R_iconst (v := 1) (dd dt_12_last 24 rfl) ic_1 ?_
    refine R_iload_n (dd dt_12_last 25 rfl) 1 rfl rfl ?_
    refine R_iconst (v := 2) (dd dt_12_last 26 rfl) ic_2 ?_
    obtain ⟨z9, hz9, h⟩ := bi_el h
    have K9 : Rj l E (d + 8) m_12_last 64 [some (.ref a0), some (.int a1), none, none] [.int z9, .int 1, .ref (rf a0 0)] z3 Q := by
      clear hz9
      obtain ⟨μ10, e11, h⟩ := bi_el h
      refine R_isto e11 (ty_12_0 k0) (dd dt_12_last 37 rfl) ?_
      refine R_aload_n (dd dt_12_last 38 rfl) 0 rfl rfl ?_
      refine g_12_9 rfl k0 (dd dt_12_last 39 rfl) ?_
      refine R_iconst (v := 2) (dd dt_12_last 40 rfl) ic_2 ?_
      refine R_iload_n (dd dt_12_last 41 rfl) 1 rfl rfl ?_
      refine R_iconst (v := 3) (dd dt_12_last 42 rfl) ic_3 ?_
      obtain ⟨z16, hz16, h⟩ := bi_el h
      have K16 : Rj l E (d + 8) m_12_last 91 [some (.ref a0), some (.int a1), none, none] [.int z16, .int 2, .ref (rf a0 0)] μ10 Q := by
        clear hz16
        obtain ⟨μ17, e18, h⟩ := bi_el h
        refine R_isto e18 (ty_12_0 k0) (dd dt_12_last 53 rfl) ?_
        refine R_iload_n (dd dt_12_last 54 rfl) 1 rfl rfl ?_
        refine R_iconst (v := 2) (dd dt_12_last 55 rfl) ic_2 ?_
        refine R_irem (dd dt_12_last 56 rfl) (by decide) ?_
        obtain ⟨z24, hz24, h⟩ := bi_el h
        have K24 : Rj l E (d + 8) m_12_last 119 [some (.ref a0), none, none, none] [.int z24.1] z24.2 Q := by
          clear hz24
          refine R_istore_n (lv' := [some (.ref a0), none, some (.int z24.1), none]) (dd dt_12_last 69 rfl) 2 rfl (by decide) rfl rfl ?_
          refine R_iconst (v := 0) (dd dt_12_last 70 rfl) ic_0 ?_
          refine R_istore_n (lv' := [some (.ref a0), none, some (.int z24.1), some (.int 0)]) (dd dt_12_last 71 rfl) 3 rfl (by decide) rfl rfl ?_
          obtain ⟨z25, e26, h⟩ := bi_el h
          refine R_mask [true, false, true, true] rfl (ok_12_last_l122 a0 z24.1 k0 FU 0 z24.2 _ e26 ?_)
          refine R_iload_n (dd dt_12_last 85 rfl) 2 rfl rfl ?_
          obtain rfl := Option.some.inj h
          exact R_iret rfl (dd dt_12_last 86 rfl) hQ
        clear h
        have h := hz24
        clear hz24
        refine R_ifne (dd dt_12_last 57 rfl) (tgt := 105) rfl (fun hc => ?_) (fun hc => ?_)
        · rw [if_neg hc] at h
          refine R_aload_n (dd dt_12_last 61 rfl) 0 rfl rfl ?_
          refine R_iload_n (dd dt_12_last 62 rfl) 1 rfl rfl ?_
          refine R_iconst (v := 1) (dd dt_12_last 63 rfl) ic_1 ?_
          obtain ⟨z19, hz19, h⟩ := bi_el h
          have K19 : Rj l E (d + 8) m_12_last 116 [some (.ref a0), none, none, none] [.int z19, .ref a0] μ17 Q := by
            clear hz19
            obtain ⟨z21, e20, h⟩ := bi_el h
            refine c_12_272 (As := [.int z19]) (st1 := [.int z21.1]) rfl (fun Q1 hq => ok_12_companyLasts e20 k0 hq) k0 rfl rfl (Nat.le_of_ble_eq_true rfl) (dd dt_12_last 68 rfl) rfl ?_
            obtain rfl := Option.some.inj h
            exact R_mask [true, false, false, false] rfl K24
          clear h
          have h := hz19
          clear hz19
          refine R_cmpne (dd dt_12_last 64 rfl) (tgt := 115) rfl (fun hc => ?_) (fun hc => ?_)
          · rw [if_neg hc] at h
            refine R_iconst (v := 0) (dd dt_12_last 67 rfl) ic_0 ?_
            obtain rfl := Option.some.inj h
            exact R_mask [true, false, false, false] rfl K19
          · rw [if_pos hc] at h
            refine R_iconst (v := 1) (dd dt_12_last 65 rfl) ic_1 ?_
            refine R_goto (dd dt_12_last 66 rfl) (tgt := 116) rfl ?_
            obtain rfl := Option.some.inj h
            exact R_mask [true, false, false, false] rfl K19
        · rw [if_pos hc] at h
          refine R_aload_n (dd dt_12_last 58 rfl) 0 rfl rfl ?_
          obtain ⟨z23, e22, h⟩ := bi_el h
          refine c_12_269 (As := []) (st1 := [.int z23.1]) rfl (fun Q1 hq => ok_12_valleyLasts e22 k0 hq) k0 rfl rfl (Nat.le_of_ble_eq_true rfl) (dd dt_12_last 59 rfl) rfl ?_
          refine R_goto (dd dt_12_last 60 rfl) (tgt := 119) rfl ?_
          obtain rfl := Option.some.inj h
          exact R_mask [true, false, false, false] rfl K24
      clear h
      have h := hz16
      clear hz16
      refine R_cmpne (dd dt_12_last 43 rfl) (tgt := 85) rfl (fun hc => ?_) (fun hc => ?_)
      · rw [if_neg hc] at h
        refine R_aload_n (dd dt_12_last 49 rfl) 0 rfl rfl ?_
        refine g_12_9 rfl k0 (dd dt_12_last 50 rfl) ?_
        refine R_iconst (v := 2) (dd dt_12_last 51 rfl) ic_2 ?_
        obtain ⟨x12, e13, h⟩ := bi_el h
        refine R_ild e13 (ty_12_0 k0) (dd dt_12_last 52 rfl) ?_
        obtain rfl := Option.some.inj h
        exact R_mask [true, true, false, false] rfl K16
      · rw [if_pos hc] at h
        refine R_aload_n (dd dt_12_last 44 rfl) 0 rfl rfl ?_
        refine g_12_9 rfl k0 (dd dt_12_last 45 rfl) ?_
        refine R_bipush (v := 7) (dd dt_12_last 46 rfl) bp_7 ?_
        obtain ⟨x14, e15, h⟩ := bi_el h
        refine R_ild e15 (ty_12_0 k0) (dd dt_12_last 47 rfl) ?_
        refine R_goto (dd dt_12_last 48 rfl) (tgt := 91) rfl ?_
        obtain rfl := Option.some.inj h
        exact R_mask [true, true, false, false] rfl K16
    clear h
    have h := hz9
    clear hz9
    refine R_cmpne (dd dt_12_last 27 rfl) (tgt := 58) rfl (fun hc => ?_) (fun hc => ?_)
    · rw [if_neg hc] at h
      refine R_aload_n (dd dt_12_last 33 rfl) 0 rfl rfl ?_
      refine g_12_9 rfl k0 (dd dt_12_last 34 rfl) ?_
      refine R_iconst (v := 1) (dd dt_12_last 35 rfl) ic_1 ?_
      obtain ⟨x5, e6, h⟩ := bi_el h
      refine R_ild e6 (ty_12_0 k0) (dd dt_12_last 36 rfl) ?_
      obtain rfl := Option.some.inj h
      exact R_mask [true, true, false, false] rfl K9
    · rw [if_pos hc] at h
      refine R_aload_n (dd dt_12_last 28 rfl) 0 rfl rfl ?_
      refine g_12_9 rfl k0 (dd dt_12_last 29 rfl) ?_
      refine R_bipush (v := 6) (dd dt_12_last 30 rfl) bp_6 ?_
      obtain ⟨x7, e8, h⟩ := bi_el h
      refine R_ild e8 (ty_12_0 k0) (dd dt_12_last 31 rfl) ?_
      refine R_goto (dd dt_12_last 32 rfl) (tgt := 64) rfl ?_
      obtain rfl := Option.some.inj h
      exact R_mask [true, true, false, false] rfl K9
  · rw [if_pos hc] at h
    refine R_iconst (v := (-1)) (dd dt_12_last 5 rfl) ic_m1 ?_
    obtain rfl := Option.some.inj h
    exact R_iret rfl (dd dt_12_last 6 rfl) hQ
/-! LongStrikeModel.post(ZI)I -/
def tab_12_post : List (Nat × Instr × Nat) := [(0, .aload_n 0, 1), (1, .iload_n 2, 1), (2, .bipush 8, 2), (4, .invokevirtual 84, 3), (7, .ifCond .ne 5, 3), (10, .iconst (-1), 1), (11, .ireturn, 1), (12, .iload_n 1, 1), (13, .ifCond .eq 8, 3), (16, .bipush 16, 2), (18, .goto 5, 3), (21, .bipush 15, 2), (23, .istore_n 3, 1), (24, .aload_n 0, 1), (25, .getfield 9, 3), (28, .iload_n 3, 1), (29, .iaload, 1), (30, .istore 4, 2), (32, .iload 4, 2), (34, .iload_n 1, 1), (35, .ifCond .eq 8, 3), (38, .bipush 8, 2), (40, .goto 4, 3), (43, .iconst 4, 1), (44, .if_icmp .ne 6, 3), (47, .bipush (-2), 2), (49, .ireturn, 1), (50, .aload_n 0, 1), (51, .getfield 9, 3), (54, .iload_n 1, 1), (55, .ifCond .eq 9, 3), (58, .sipush 859, 3), (61, .goto 6, 3), (64, .sipush 855, 3), (67, .iload 4, 2), (69, .iadd, 1), (70, .iload_n 2, 1), (71, .iastore, 1), (72, .aload_n 0, 1), (73, .getfield 9, 3), (76, .iload_n 3, 1), (77, .dup2, 1), (78, .iaload, 1), (79, .iconst 1, 1), (80, .iadd, 1), (81, .iastore, 1), (82, .iload 4, 2), (84, .ireturn, 1)]
set_option maxRecDepth 100000 in
theorem dt_12_post : ∀ q ∈ tab_12_post, decode m_12_post.2.1 q.1 = .ok q.2 := by decide +kernel
def f_12_post (a0 : Nat) (a1 : Int32) (a2 : Int32) (μ : mm) : Option (Int32 × mm) :=
  (f_12_is a0 a2 8 μ).bind fun x2 =>
  if x2 = 0 then
    some ((-1), μ)
  else
    (if a1 = 0 then
        some 15
      else
        some 16).bind fun (z3 : Int32) =>
    (ld μ (rf a0 0) z3).bind fun x4 =>
    (if a1 = 0 then
        some 4
      else
        some 8).bind fun (z6 : Int32) =>
    if x4 = z6 then
      some ((-2), μ)
    else
      (if a1 = 0 then
          some 855
        else
          some 859).bind fun (z7 : Int32) =>
      (sto μ (rf a0 0) (z7 + x4) a2).bind fun μ8 =>
      (ld μ8 (rf a0 0) z3).bind fun x10 =>
      (sto μ8 (rf a0 0) z3 (x10 + 1)).bind fun μ12 =>
      some (x4, μ12)
set_option maxRecDepth 100000 in
set_option maxHeartbeats 4000000 in
theorem ok_12_post {l : Launch} {E : ce} {d : Nat}  {a0 : Nat} {a1 : Int32} {a2 : Int32} {μ : mm} {r : Int32 × mm} {Q : Option Value → mm → Prop} (h : f_12_post a0 a1 a2 μ = some r) (k0 : kd a0 = 12) (hQ : Q (some (.int r.1)) r.2) : Ct l E (d + 2) yX12_post m_12_post [.ref a0, .int a1, .int a2] μ Q := by
  refine Ct_of (lv := [some (.ref a0), some (.int a1), some (.int a2), none, none]) (by decide) rfl (Nat.le_of_ble_eq_true rfl) rfl ?_
  unfold f_12_post at h
  refine R_aload_n (dd dt_12_post 0 rfl) 0 rfl rfl ?_
  refine R_iload_n (dd dt_12_post 1 rfl) 2 rfl rfl ?_
  refine R_bipush (v := 8) (dd dt_12_post 2 rfl) bp_8 ?_
  obtain ⟨x2, e1, h⟩ := bi_el h
  refine c_12_84 (As := [.int a2, .int 8]) (st1 := [.int x2]) rfl (fun Q1 hq => ok_12_is e1 k0 hq) k0 rfl rfl (Nat.le_of_ble_eq_true rfl) (dd dt_12_post 3 rfl) rfl ?_
  refine R_ifne (dd dt_12_post 4 rfl) (tgt := 12) rfl (fun hc => ?_) (fun hc => ?_)
  · rw [if_neg hc] at h
    refine R_iload_n (dd dt_12_post 7 rfl) 1 rfl rfl ?_
    obtain ⟨z3, hz3, h⟩ := bi_el h
    have K3 : Rj l E (d + 2) m_12_post 23 [some (.ref a0), some (.int a1), some (.int a2), none, none] [.int z3] μ Q := by
      clear hz3
      refine R_istore_n (lv' := [some (.ref a0), some (.int a1), some (.int a2), some (.int z3), none]) (dd dt_12_post 12 rfl) 3 rfl (by decide) rfl rfl ?_
      refine R_aload_n (dd dt_12_post 13 rfl) 0 rfl rfl ?_
      refine g_12_9 rfl k0 (dd dt_12_post 14 rfl) ?_
      refine R_iload_n (dd dt_12_post 15 rfl) 3 rfl rfl ?_
      obtain ⟨x4, e5, h⟩ := bi_el h
      refine R_ild e5 (ty_12_0 k0) (dd dt_12_post 16 rfl) ?_
      refine R_istore (lv' := [some (.ref a0), some (.int a1), some (.int a2), some (.int z3), some (.int x4)]) (dd dt_12_post 17 rfl) (by decide) rfl rfl ?_
      refine R_iload (dd dt_12_post 18 rfl) rfl ?_
      refine R_iload_n (dd dt_12_post 19 rfl) 1 rfl rfl ?_
      obtain ⟨z6, hz6, h⟩ := bi_el h
      have K6 : Rj l E (d + 2) m_12_post 44 [some (.ref a0), some (.int a1), some (.int a2), some (.int z3), some (.int x4)] [.int z6, .int x4] μ Q := by
        clear hz6
        refine R_cmpne (dd dt_12_post 24 rfl) (tgt := 50) rfl (fun hc => ?_) (fun hc => ?_)
        · rw [if_neg hc] at h
          refine R_aload_n (dd dt_12_post 27 rfl) 0 rfl rfl ?_
          refine g_12_9 rfl k0 (dd dt_12_post 28 rfl) ?_
          refine R_iload_n (dd dt_12_post 29 rfl) 1 rfl rfl ?_
          obtain ⟨z7, hz7, h⟩ := bi_el h
          have K7 : Rj l E (d + 2) m_12_post 67 [some (.ref a0), none, some (.int a2), some (.int z3), some (.int x4)] [.int z7, .ref (rf a0 0)] μ Q := by
            clear hz7
            refine R_iload (dd dt_12_post 34 rfl) rfl ?_
            refine R_iadd (dd dt_12_post 35 rfl) ?_
            refine R_iload_n (dd dt_12_post 36 rfl) 2 rfl rfl ?_
            obtain ⟨μ8, e9, h⟩ := bi_el h
            refine R_isto e9 (ty_12_0 k0) (dd dt_12_post 37 rfl) ?_
            refine R_aload_n (dd dt_12_post 38 rfl) 0 rfl rfl ?_
            refine g_12_9 rfl k0 (dd dt_12_post 39 rfl) ?_
            refine R_iload_n (dd dt_12_post 40 rfl) 3 rfl rfl ?_
            refine R_dup2 (dd dt_12_post 41 rfl) rfl rfl ?_
            obtain ⟨x10, e11, h⟩ := bi_el h
            refine R_ild e11 (ty_12_0 k0) (dd dt_12_post 42 rfl) ?_
            refine R_iconst (v := 1) (dd dt_12_post 43 rfl) ic_1 ?_
            refine R_iadd (dd dt_12_post 44 rfl) ?_
            obtain ⟨μ12, e13, h⟩ := bi_el h
            refine R_isto e13 (ty_12_0 k0) (dd dt_12_post 45 rfl) ?_
            refine R_iload (dd dt_12_post 46 rfl) rfl ?_
            obtain rfl := Option.some.inj h
            exact R_iret rfl (dd dt_12_post 47 rfl) hQ
          clear h
          have h := hz7
          clear hz7
          refine R_ifeq (dd dt_12_post 30 rfl) (tgt := 64) rfl (fun hc => ?_) (fun hc => ?_)
          · rw [if_pos hc] at h
            refine R_sipush (v := 855) (dd dt_12_post 33 rfl) sp_855 ?_
            obtain rfl := Option.some.inj h
            exact R_mask [true, false, true, true, true] rfl K7
          · rw [if_neg hc] at h
            refine R_sipush (v := 859) (dd dt_12_post 31 rfl) sp_859 ?_
            refine R_goto (dd dt_12_post 32 rfl) (tgt := 67) rfl ?_
            obtain rfl := Option.some.inj h
            exact R_mask [true, false, true, true, true] rfl K7
        · rw [if_pos hc] at h
          refine R_bipush (v := (-2)) (dd dt_12_post 25 rfl) bp_m2 ?_
          obtain rfl := Option.some.inj h
          exact R_iret rfl (dd dt_12_post 26 rfl) hQ
      clear h
      have h := hz6
      clear hz6
      refine R_ifeq (dd dt_12_post 20 rfl) (tgt := 43) rfl (fun hc => ?_) (fun hc => ?_)
      · rw [if_pos hc] at h
        refine R_iconst (v := 4) (dd dt_12_post 23 rfl) ic_4 ?_
        obtain rfl := Option.some.inj h
        exact R_mask [true, true, true, true, true] rfl K6
      · rw [if_neg hc] at h
        refine R_bipush (v := 8) (dd dt_12_post 21 rfl) bp_8 ?_
        refine R_goto (dd dt_12_post 22 rfl) (tgt := 44) rfl ?_
        obtain rfl := Option.some.inj h
        exact R_mask [true, true, true, true, true] rfl K6
    clear h
    have h := hz3
    clear hz3
    refine R_ifeq (dd dt_12_post 8 rfl) (tgt := 21) rfl (fun hc => ?_) (fun hc => ?_)
    · rw [if_pos hc] at h
      refine R_bipush (v := 15) (dd dt_12_post 11 rfl) bp_15 ?_
      obtain rfl := Option.some.inj h
      exact R_mask [true, true, true, false, false] rfl K3
    · rw [if_neg hc] at h
      refine R_bipush (v := 16) (dd dt_12_post 9 rfl) bp_16 ?_
      refine R_goto (dd dt_12_post 10 rfl) (tgt := 23) rfl ?_
      obtain rfl := Option.some.inj h
      exact R_mask [true, true, true, false, false] rfl K3
  · rw [if_pos hc] at h
    refine R_iconst (v := (-1)) (dd dt_12_post 5 rfl) ic_m1 ?_
    obtain rfl := Option.some.inj h
    exact R_iret rfl (dd dt_12_post 6 rfl) hQ
/-! LongStrikeModel.walk(II)I -/
def tab_12_walk : List (Nat × Instr × Nat) := [(0, .aload_n 0, 1), (1, .aload_n 0, 1), (2, .getfield 9, 3), (5, .sipush 859, 3), (8, .iload_n 1, 1), (9, .iadd, 1), (10, .iaload, 1), (11, .aload_n 0, 1), (12, .getfield 9, 3), (15, .sipush 855, 3), (18, .iload_n 2, 1), (19, .iadd, 1), (20, .iaload, 1), (21, .invokevirtual 88, 3), (24, .istore_n 3, 1), (25, .iload_n 3, 1), (26, .aload_n 0, 1), (27, .getfield 9, 3), (30, .iconst 5, 1), (31, .iaload, 1), (32, .if_icmp .le 9, 3), (35, .ldc_w 276, 3), (38, .goto 4, 3), (41, .iload_n 3, 1), (42, .ireturn, 1)]
set_option maxRecDepth 100000 in
theorem dt_12_walk : ∀ q ∈ tab_12_walk, decode m_12_walk.2.1 q.1 = .ok q.2 := by decide +kernel
def f_12_walk (a0 : Nat) (a1 : Int32) (a2 : Int32) (μ : mm) : Option (Int32) :=
  (ld μ (rf a0 0) (859 + a1)).bind fun x1 =>
  (ld μ (rf a0 0) (855 + a2)).bind fun x3 =>
  (f_12_roadOf a0 x1 x3 μ).bind fun x6 =>
  (ld μ (rf a0 0) 5).bind fun x7 =>
  if x6 ≤ x7 then
    some x6
  else
    some 100000
set_option maxRecDepth 100000 in
set_option maxHeartbeats 4000000 in
theorem ok_12_walk {l : Launch} {E : ce} {d : Nat}  {a0 : Nat} {a1 : Int32} {a2 : Int32} {μ : mm} {r : Int32} {Q : Option Value → mm → Prop} (h : f_12_walk a0 a1 a2 μ = some r) (k0 : kd a0 = 12) (hQ : Q (some (.int r)) μ) : Ct l E (d + 1) yX12_walk m_12_walk [.ref a0, .int a1, .int a2] μ Q := by
  refine Ct_of (lv := [some (.ref a0), some (.int a1), some (.int a2), none]) (by decide) rfl (Nat.le_of_ble_eq_true rfl) rfl ?_
  unfold f_12_walk at h
  refine R_aload_n (dd dt_12_walk 0 rfl) 0 rfl rfl ?_
  refine R_aload_n (dd dt_12_walk 1 rfl) 0 rfl rfl ?_
  refine g_12_9 rfl k0 (dd dt_12_walk 2 rfl) ?_
  refine R_sipush (v := 859) (dd dt_12_walk 3 rfl) sp_859 ?_
  refine R_iload_n (dd dt_12_walk 4 rfl) 1 rfl rfl ?_
  refine R_iadd (dd dt_12_walk 5 rfl) ?_
  obtain ⟨x1, e2, h⟩ := bi_el h
  refine R_ild e2 (ty_12_0 k0) (dd dt_12_walk 6 rfl) ?_
  refine R_aload_n (dd dt_12_walk 7 rfl) 0 rfl rfl ?_
  refine g_12_9 rfl k0 (dd dt_12_walk 8 rfl) ?_
  refine R_sipush (v := 855) (dd dt_12_walk 9 rfl) sp_855 ?_
  refine R_iload_n (dd dt_12_walk 10 rfl) 2 rfl rfl ?_
  refine R_iadd (dd dt_12_walk 11 rfl) ?_
  obtain ⟨x3, e4, h⟩ := bi_el h
  refine R_ild e4 (ty_12_0 k0) (dd dt_12_walk 12 rfl) ?_
  obtain ⟨x6, e5, h⟩ := bi_el h
  refine c_12_88 (As := [.int x1, .int x3]) (st1 := [.int x6]) rfl (fun Q1 hq => ok_12_roadOf e5 k0 hq) k0 rfl rfl (Nat.le_of_ble_eq_true rfl) (dd dt_12_walk 13 rfl) rfl ?_
  refine R_istore_n (lv' := [some (.ref a0), some (.int a1), some (.int a2), some (.int x6)]) (dd dt_12_walk 14 rfl) 3 rfl (by decide) rfl rfl ?_
  refine R_iload_n (dd dt_12_walk 15 rfl) 3 rfl rfl ?_
  refine R_aload_n (dd dt_12_walk 16 rfl) 0 rfl rfl ?_
  refine g_12_9 rfl k0 (dd dt_12_walk 17 rfl) ?_
  refine R_iconst (v := 5) (dd dt_12_walk 18 rfl) ic_5 ?_
  obtain ⟨x7, e8, h⟩ := bi_el h
  refine R_ild e8 (ty_12_0 k0) (dd dt_12_walk 19 rfl) ?_
  refine R_cmple (dd dt_12_walk 20 rfl) (tgt := 41) rfl (fun hc => ?_) (fun hc => ?_)
  · rw [if_pos hc] at h
    refine R_iload_n (dd dt_12_walk 23 rfl) 3 rfl rfl ?_
    obtain rfl := Option.some.inj h
    exact R_iret rfl (dd dt_12_walk 24 rfl) hQ
  · rw [if_neg hc] at h
    refine R_ldcw (dd dt_12_walk 21 rfl) ct_12_276 ?_
    refine R_goto (dd dt_12_walk 22 rfl) (tgt := 42) rfl ?_
    obtain rfl := Option.some.inj h
    exact R_iret rfl (dd dt_12_walk 24 rfl) hQ
/-! LongStrikeModel.findWatch()V -/
def tab_12_findWatch : List (Nat × Instr × Nat) := [(0, .iconst 1, 1), (1, .aload_n 0, 1), (2, .getfield 9, 3), (5, .bipush 15, 2), (7, .iaload, 1), (8, .ishl, 1), (9, .istore_n 1, 1), (10, .aload_n 0, 1), (11, .getfield 9, 3), (14, .bipush 16, 2), (16, .iaload, 1), (17, .istore_n 2, 1), (18, .iload_n 2, 1), (19, .ifCond .lt 154, 3), (22, .iconst 0, 1), (23, .istore_n 3, 1), (24, .iload_n 3, 1), (25, .iload_n 1, 1), (26, .if_icmp .ge 141, 3), (29, .iload_n 3, 1), (30, .ifCond .ne 7, 3), (33, .iconst 0, 1), (34, .goto 6, 3), (37, .ldc_w 276, 3), (40, .istore 4, 2), (42, .iconst (-1), 1), (43, .istore 5, 2), (45, .iload 5, 2), (47, .aload_n 0, 1), (48, .getfield 9, 3), (51, .bipush 15, 2), (53, .iaload, 1), (54, .if_icmp .ge 89, 3), (57, .iload_n 2, 1), (58, .aload_n 0, 1), (59, .getfield 9, 3), (62, .bipush 16, 2), (64, .iaload, 1), (65, .if_icmp .ge 78, 3), (68, .iload 5, 2), (70, .ifCond .ge 25, 3), (73, .iload 4, 2), (75, .aload_n 0, 1), (76, .getfield 53, 3), (79, .iload_n 2, 1), (80, .iconst 1, 1), (81, .iadd, 1), (82, .iconst 4, 1), (83, .ishl, 1), (84, .iload_n 3, 1), (85, .iadd, 1), (86, .iaload, 1), (87, .invokestatic 127, 3), (90, .istore 4, 2), (92, .goto 45, 3), (95, .iload_n 3, 1), (96, .iload 5, 2), (98, .ishr, 1), (99, .iconst 1, 1), (100, .iand, 1), (101, .iconst 1, 1), (102, .if_icmp .ne 35, 3), (105, .iload 4, 2), (107, .aload_n 0, 1), (108, .iload_n 2, 1), (109, .iload 5, 2), (111, .invokevirtual 277, 3), (114, .aload_n 0, 1), (115, .getfield 53, 3), (118, .iload_n 2, 1), (119, .iconst 1, 1), (120, .iadd, 1), (121, .iconst 4, 1), (122, .ishl, 1), (123, .iload_n 3, 1), (124, .iconst 1, 1), (125, .iload 5, 2), (127, .ishl, 1), (128, .ixor, 1), (129, .iadd, 1), (130, .iaload, 1), (131, .iadd, 1), (132, .invokestatic 127, 3), (135, .istore 4, 2), (137, .iinc 5 1, 3), (140, .goto (-95), 3), (143, .aload_n 0, 1), (144, .getfield 53, 3), (147, .iload_n 2, 1), (148, .iconst 4, 1), (149, .ishl, 1), (150, .iload_n 3, 1), (151, .iadd, 1), (152, .ldc_w 276, 3), (155, .iload 4, 2), (157, .invokestatic 127, 3), (160, .iastore, 1), (161, .iinc 3 1, 3), (164, .goto (-140), 3), (167, .iinc 2 (-1), 3), (170, .goto (-152), 3), (173, .return_, 1)]
set_option maxRecDepth 100000 in
theorem dt_12_findWatch : ∀ q ∈ tab_12_findWatch, decode m_12_findWatch.2.1 q.1 = .ok q.2 := by decide +kernel
def f_12_findWatch_l45 (a0 : Nat) (a1 : Int32) (a2 : Int32) (a3 : Int32) (μ : mm) : Nat → Int32 → Int32 → Option (Int32)
  | 0, _, _ => none
  | n + 1, v4, v5 => (ld μ (rf a0 0) 15).bind fun x1 =>
    if x1 ≤ v5 then
      some v4
    else
      (ld μ (rf a0 0) 16).bind fun x3 =>
      if x3 ≤ a2 then
        some v4
      else
        if 0 ≤ v5 then
          if ((a3 >>> (v5 &&& 31)) &&& 1) = 1 then
            (f_12_walk a0 a2 v5 μ).bind fun x6 =>
            (ld μ (rf a0 24) (((a2 + 1) <<< (4 &&& 31)) + (a3 ^^^ (1 <<< (v5 &&& 31))))).bind fun x7 =>
            f_12_findWatch_l45 a0 a1 a2 a3 μ n (mn v4 (x6 + x7)) (v5 + 1)
          else
            f_12_findWatch_l45 a0 a1 a2 a3 μ n v4 (v5 + 1)
        else
          (ld μ (rf a0 24) (((a2 + 1) <<< (4 &&& 31)) + a3)).bind fun x9 =>
          f_12_findWatch_l45 a0 a1 a2 a3 μ n (mn v4 x9) (v5 + 1)
set_option maxRecDepth 100000 in
theorem ok_12_findWatch_l45 {l : Launch} {E : ce} {d : Nat} {Q : Option Value → mm → Prop} (a0 : Nat) (a1 : Int32) (a2 : Int32) (a3 : Int32) (μ : mm) (k0 : kd a0 = 12) : ∀ (n : Nat) (v4 : Int32) (v5 : Int32) (z : Int32), f_12_findWatch_l45 a0 a1 a2 a3 μ n v4 v5 = some z → Rj l E (d + 2) m_12_findWatch 143 [some (.ref a0), some (.int a1), some (.int a2), some (.int a3), some (.int z), none] [] μ Q → Rj l E (d + 2) m_12_findWatch 45 [some (.ref a0), some (.int a1), some (.int a2), some (.int a3), some (.int v4), some (.int v5)] [] μ Q
  | 0, _, _, z, h, _ => by
    rw [f_12_findWatch_l45] at h
    cases h
  | n + 1, v4, v5, z, h, KX => by
    rw [f_12_findWatch_l45] at h
    refine R_iload (dd dt_12_findWatch 27 rfl) rfl ?_
    refine R_aload_n (dd dt_12_findWatch 28 rfl) 0 rfl rfl ?_
    refine g_12_9 rfl k0 (dd dt_12_findWatch 29 rfl) ?_
    refine R_bipush (v := 15) (dd dt_12_findWatch 30 rfl) bp_15 ?_
    obtain ⟨x1, e2, h⟩ := bi_el h
    refine R_ild e2 (ty_12_0 k0) (dd dt_12_findWatch 31 rfl) ?_
    refine R_cmpge (dd dt_12_findWatch 32 rfl) (tgt := 143) rfl (fun hc => ?_) (fun hc => ?_)
    · rw [if_pos hc] at h
      obtain rfl := Option.some.inj h
      exact R_mask [true, true, true, true, true, false] rfl KX
    · rw [if_neg hc] at h
      refine R_iload_n (dd dt_12_findWatch 33 rfl) 2 rfl rfl ?_
      refine R_aload_n (dd dt_12_findWatch 34 rfl) 0 rfl rfl ?_
      refine g_12_9 rfl k0 (dd dt_12_findWatch 35 rfl) ?_
      refine R_bipush (v := 16) (dd dt_12_findWatch 36 rfl) bp_16 ?_
      obtain ⟨x3, e4, h⟩ := bi_el h
      refine R_ild e4 (ty_12_0 k0) (dd dt_12_findWatch 37 rfl) ?_
      refine R_cmpge (dd dt_12_findWatch 38 rfl) (tgt := 143) rfl (fun hc => ?_) (fun hc => ?_)
      · rw [if_pos hc] at h
        obtain rfl := Option.some.inj h
        exact R_mask [true, true, true, true, true, false] rfl KX
      · rw [if_neg hc] at h
        refine R_iload (dd dt_12_findWatch 39 rfl) rfl ?_
        refine R_ifge (dd dt_12_findWatch 40 rfl) (tgt := 95) rfl (fun hc => ?_) (fun hc => ?_)
        · rw [if_pos hc] at h
          refine R_iload_n (dd dt_12_findWatch 55 rfl) 3 rfl rfl ?_
          refine R_iload (dd dt_12_findWatch 56 rfl) rfl ?_
          refine R_ishr (dd dt_12_findWatch 57 rfl) ?_
          refine R_iconst (v := 1) (dd dt_12_findWatch 58 rfl) ic_1 ?_
          refine R_iand (dd dt_12_findWatch 59 rfl) ?_
          refine R_iconst (v := 1) (dd dt_12_findWatch 60 rfl) ic_1 ?_
          refine R_cmpne (dd dt_12_findWatch 61 rfl) (tgt := 137) rfl (fun hc => ?_) (fun hc => ?_)
          · rw [if_neg hc] at h
            refine R_iinc (v := 1) (lv' := [some (.ref a0), some (.int a1), some (.int a2), some (.int a3), some (.int v4), some (.int (v5 + 1))]) (dd dt_12_findWatch 84 rfl) (by decide) rfl rfl ic_1 rfl ?_
            refine R_goto (dd dt_12_findWatch 85 rfl) (tgt := 45) rfl ?_
            exact R_mask [true, true, true, true, true, true] rfl (ok_12_findWatch_l45 a0 a1 a2 a3 μ k0 n v4 (v5 + 1) _ h KX)
          · rw [if_pos hc] at h
            refine R_iload (dd dt_12_findWatch 62 rfl) rfl ?_
            refine R_aload_n (dd dt_12_findWatch 63 rfl) 0 rfl rfl ?_
            refine R_iload_n (dd dt_12_findWatch 64 rfl) 2 rfl rfl ?_
            refine R_iload (dd dt_12_findWatch 65 rfl) rfl ?_
            obtain ⟨x6, e5, h⟩ := bi_el h
            refine c_12_277 (As := [.int a2, .int v5]) (st1 := [.int x6, .int v4]) rfl (fun Q1 hq => ok_12_walk e5 k0 hq) k0 rfl rfl (Nat.le_of_ble_eq_true rfl) (dd dt_12_findWatch 66 rfl) rfl ?_
            refine R_aload_n (dd dt_12_findWatch 67 rfl) 0 rfl rfl ?_
            refine g_12_53 rfl k0 (dd dt_12_findWatch 68 rfl) ?_
            refine R_iload_n (dd dt_12_findWatch 69 rfl) 2 rfl rfl ?_
            refine R_iconst (v := 1) (dd dt_12_findWatch 70 rfl) ic_1 ?_
            refine R_iadd (dd dt_12_findWatch 71 rfl) ?_
            refine R_iconst (v := 4) (dd dt_12_findWatch 72 rfl) ic_4 ?_
            refine R_ishl (dd dt_12_findWatch 73 rfl) ?_
            refine R_iload_n (dd dt_12_findWatch 74 rfl) 3 rfl rfl ?_
            refine R_iconst (v := 1) (dd dt_12_findWatch 75 rfl) ic_1 ?_
            refine R_iload (dd dt_12_findWatch 76 rfl) rfl ?_
            refine R_ishl (dd dt_12_findWatch 77 rfl) ?_
            refine R_ixor (dd dt_12_findWatch 78 rfl) ?_
            refine R_iadd (dd dt_12_findWatch 79 rfl) ?_
            obtain ⟨x7, e8, h⟩ := bi_el h
            refine R_ild e8 (ty_12_24 k0) (dd dt_12_findWatch 80 rfl) ?_
            refine R_iadd (dd dt_12_findWatch 81 rfl) ?_
            refine R_mmin ml_12_127 (Nat.le_of_ble_eq_true rfl) (dd dt_12_findWatch 82 rfl) ?_
            refine R_istore (lv' := [some (.ref a0), some (.int a1), some (.int a2), some (.int a3), some (.int (mn v4 (x6 + x7))), some (.int v5)]) (dd dt_12_findWatch 83 rfl) (by decide) rfl rfl ?_
            refine R_iinc (v := 1) (lv' := [some (.ref a0), some (.int a1), some (.int a2), some (.int a3), some (.int (mn v4 (x6 + x7))), some (.int (v5 + 1))]) (dd dt_12_findWatch 84 rfl) (by decide) rfl rfl ic_1 rfl ?_
            refine R_goto (dd dt_12_findWatch 85 rfl) (tgt := 45) rfl ?_
            exact R_mask [true, true, true, true, true, true] rfl (ok_12_findWatch_l45 a0 a1 a2 a3 μ k0 n (mn v4 (x6 + x7)) (v5 + 1) _ h KX)
        · rw [if_neg hc] at h
          refine R_iload (dd dt_12_findWatch 41 rfl) rfl ?_
          refine R_aload_n (dd dt_12_findWatch 42 rfl) 0 rfl rfl ?_
          refine g_12_53 rfl k0 (dd dt_12_findWatch 43 rfl) ?_
          refine R_iload_n (dd dt_12_findWatch 44 rfl) 2 rfl rfl ?_
          refine R_iconst (v := 1) (dd dt_12_findWatch 45 rfl) ic_1 ?_
          refine R_iadd (dd dt_12_findWatch 46 rfl) ?_
          refine R_iconst (v := 4) (dd dt_12_findWatch 47 rfl) ic_4 ?_
          refine R_ishl (dd dt_12_findWatch 48 rfl) ?_
          refine R_iload_n (dd dt_12_findWatch 49 rfl) 3 rfl rfl ?_
          refine R_iadd (dd dt_12_findWatch 50 rfl) ?_
          obtain ⟨x9, e10, h⟩ := bi_el h
          refine R_ild e10 (ty_12_24 k0) (dd dt_12_findWatch 51 rfl) ?_
          refine R_mmin ml_12_127 (Nat.le_of_ble_eq_true rfl) (dd dt_12_findWatch 52 rfl) ?_
          refine R_istore (lv' := [some (.ref a0), some (.int a1), some (.int a2), some (.int a3), some (.int (mn v4 x9)), some (.int v5)]) (dd dt_12_findWatch 53 rfl) (by decide) rfl rfl ?_
          refine R_goto (dd dt_12_findWatch 54 rfl) (tgt := 137) rfl ?_
          refine R_iinc (v := 1) (lv' := [some (.ref a0), some (.int a1), some (.int a2), some (.int a3), some (.int (mn v4 x9)), some (.int (v5 + 1))]) (dd dt_12_findWatch 84 rfl) (by decide) rfl rfl ic_1 rfl ?_
          refine R_goto (dd dt_12_findWatch 85 rfl) (tgt := 45) rfl ?_
          exact R_mask [true, true, true, true, true, true] rfl (ok_12_findWatch_l45 a0 a1 a2 a3 μ k0 n (mn v4 x9) (v5 + 1) _ h KX)
def f_12_findWatch_l24 (a0 : Nat) (a1 : Int32) (a2 : Int32) : Nat → Int32 → mm → Option (mm)
  | 0, _, _ => none
  | n + 1, v3, μ => if a1 ≤ v3 then
      some μ
    else
      (if v3 = 0 then
          some 0
        else
          some 100000).bind fun (z1 : Int32) =>
      (f_12_findWatch_l45 a0 a1 a2 v3 μ FU z1 (-1)).bind fun z2 =>
      (sto μ (rf a0 24) ((a2 <<< (4 &&& 31)) + v3) (mn 100000 z2)).bind fun μ4 =>
      f_12_findWatch_l24 a0 a1 a2 n (v3 + 1) μ4
set_option maxRecDepth 100000 in
theorem ok_12_findWatch_l24 {l : Launch} {E : ce} {d : Nat} {Q : Option Value → mm → Prop} (a0 : Nat) (a1 : Int32) (a2 : Int32) (k0 : kd a0 = 12) : ∀ (n : Nat) (v3 : Int32) (μ : mm) (z : mm), f_12_findWatch_l24 a0 a1 a2 n v3 μ = some z → Rj l E (d + 2) m_12_findWatch 167 [some (.ref a0), some (.int a1), some (.int a2), none, none, none] [] z Q → Rj l E (d + 2) m_12_findWatch 24 [some (.ref a0), some (.int a1), some (.int a2), some (.int v3), none, none] [] μ Q
  | 0, _, _, z, h, _ => by
    rw [f_12_findWatch_l24] at h
    cases h
  | n + 1, v3, μ, z, h, KX => by
    rw [f_12_findWatch_l24] at h
    refine R_iload_n (dd dt_12_findWatch 16 rfl) 3 rfl rfl ?_
    refine R_iload_n (dd dt_12_findWatch 17 rfl) 1 rfl rfl ?_
    refine R_cmpge (dd dt_12_findWatch 18 rfl) (tgt := 167) rfl (fun hc => ?_) (fun hc => ?_)
    · rw [if_pos hc] at h
      obtain rfl := Option.some.inj h
      exact R_mask [true, true, true, false, false, false] rfl KX
    · rw [if_neg hc] at h
      refine R_iload_n (dd dt_12_findWatch 19 rfl) 3 rfl rfl ?_
      obtain ⟨z1, hz1, h⟩ := bi_el h
      have K1 : Rj l E (d + 2) m_12_findWatch 40 [some (.ref a0), some (.int a1), some (.int a2), some (.int v3), none, none] [.int z1] μ Q := by
        clear hz1
        refine R_istore (lv' := [some (.ref a0), some (.int a1), some (.int a2), some (.int v3), some (.int z1), none]) (dd dt_12_findWatch 24 rfl) (by decide) rfl rfl ?_
        refine R_iconst (v := (-1)) (dd dt_12_findWatch 25 rfl) ic_m1 ?_
        refine R_istore (lv' := [some (.ref a0), some (.int a1), some (.int a2), some (.int v3), some (.int z1), some (.int (-1))]) (dd dt_12_findWatch 26 rfl) (by decide) rfl rfl ?_
        obtain ⟨z2, e3, h⟩ := bi_el h
        refine R_mask [true, true, true, true, true, true] rfl (ok_12_findWatch_l45 a0 a1 a2 v3 μ k0 FU z1 (-1) _ e3 ?_)
        refine R_aload_n (dd dt_12_findWatch 86 rfl) 0 rfl rfl ?_
        refine g_12_53 rfl k0 (dd dt_12_findWatch 87 rfl) ?_
        refine R_iload_n (dd dt_12_findWatch 88 rfl) 2 rfl rfl ?_
        refine R_iconst (v := 4) (dd dt_12_findWatch 89 rfl) ic_4 ?_
        refine R_ishl (dd dt_12_findWatch 90 rfl) ?_
        refine R_iload_n (dd dt_12_findWatch 91 rfl) 3 rfl rfl ?_
        refine R_iadd (dd dt_12_findWatch 92 rfl) ?_
        refine R_ldcw (dd dt_12_findWatch 93 rfl) ct_12_276 ?_
        refine R_iload (dd dt_12_findWatch 94 rfl) rfl ?_
        refine R_mmin ml_12_127 (Nat.le_of_ble_eq_true rfl) (dd dt_12_findWatch 95 rfl) ?_
        obtain ⟨μ4, e5, h⟩ := bi_el h
        refine R_isto e5 (ty_12_24 k0) (dd dt_12_findWatch 96 rfl) ?_
        refine R_iinc (v := 1) (lv' := [some (.ref a0), some (.int a1), some (.int a2), some (.int (v3 + 1)), some (.int z2), none]) (dd dt_12_findWatch 97 rfl) (by decide) rfl rfl ic_1 rfl ?_
        refine R_goto (dd dt_12_findWatch 98 rfl) (tgt := 24) rfl ?_
        exact R_mask [true, true, true, true, false, false] rfl (ok_12_findWatch_l24 a0 a1 a2 k0 n (v3 + 1) μ4 _ h KX)
      clear h
      have h := hz1
      clear hz1
      refine R_ifne (dd dt_12_findWatch 20 rfl) (tgt := 37) rfl (fun hc => ?_) (fun hc => ?_)
      · rw [if_neg hc] at h
        refine R_ldcw (dd dt_12_findWatch 23 rfl) ct_12_276 ?_
        obtain rfl := Option.some.inj h
        exact R_mask [true, true, true, true, false, false] rfl K1
      · rw [if_pos hc] at h
        refine R_iconst (v := 0) (dd dt_12_findWatch 21 rfl) ic_0 ?_
        refine R_goto (dd dt_12_findWatch 22 rfl) (tgt := 40) rfl ?_
        obtain rfl := Option.some.inj h
        exact R_mask [true, true, true, true, false, false] rfl K1
def f_12_findWatch_l18 (a0 : Nat) (a1 : Int32) : Nat → Int32 → mm → Option (mm)
  | 0, _, _ => none
  | n + 1, v2, μ => if v2 < 0 then
      some μ
    else
      (f_12_findWatch_l24 a0 a1 v2 FU 0 μ).bind fun z1 =>
      f_12_findWatch_l18 a0 a1 n (v2 + (-1)) z1
set_option maxRecDepth 100000 in
theorem ok_12_findWatch_l18 {l : Launch} {E : ce} {d : Nat} {Q : Option Value → mm → Prop} (a0 : Nat) (a1 : Int32) (k0 : kd a0 = 12) : ∀ (n : Nat) (v2 : Int32) (μ : mm) (z : mm), f_12_findWatch_l18 a0 a1 n v2 μ = some z → Rj l E (d + 2) m_12_findWatch 173 [none, none, none, none, none, none] [] z Q → Rj l E (d + 2) m_12_findWatch 18 [some (.ref a0), some (.int a1), some (.int v2), none, none, none] [] μ Q
  | 0, _, _, z, h, _ => by
    rw [f_12_findWatch_l18] at h
    cases h
  | n + 1, v2, μ, z, h, KX => by
    rw [f_12_findWatch_l18] at h
    refine R_iload_n (dd dt_12_findWatch 12 rfl) 2 rfl rfl ?_
    refine R_iflt (dd dt_12_findWatch 13 rfl) (tgt := 173) rfl (fun hc => ?_) (fun hc => ?_)
    · rw [if_pos hc] at h
      obtain rfl := Option.some.inj h
      exact R_mask [false, false, false, false, false, false] rfl KX
    · rw [if_neg hc] at h
      refine R_iconst (v := 0) (dd dt_12_findWatch 14 rfl) ic_0 ?_
      refine R_istore_n (lv' := [some (.ref a0), some (.int a1), some (.int v2), some (.int 0), none, none]) (dd dt_12_findWatch 15 rfl) 3 rfl (by decide) rfl rfl ?_
      obtain ⟨z1, e2, h⟩ := bi_el h
      refine R_mask [true, true, true, true, false, false] rfl (ok_12_findWatch_l24 a0 a1 v2 k0 FU 0 μ _ e2 ?_)
      refine R_iinc (v := (-1)) (lv' := [some (.ref a0), some (.int a1), some (.int (v2 + (-1))), none, none, none]) (dd dt_12_findWatch 99 rfl) (by decide) rfl rfl ic_m1 rfl ?_
      refine R_goto (dd dt_12_findWatch 100 rfl) (tgt := 18) rfl ?_
      exact R_mask [true, true, true, false, false, false] rfl (ok_12_findWatch_l18 a0 a1 k0 n (v2 + (-1)) z1 _ h KX)
def f_12_findWatch (a0 : Nat) (μ : mm) : Option (mm) :=
  (ld μ (rf a0 0) 15).bind fun x1 =>
  (ld μ (rf a0 0) 16).bind fun x3 =>
  (f_12_findWatch_l18 a0 (1 <<< (x1 &&& 31)) FU x3 μ).bind fun z5 =>
  some z5
set_option maxRecDepth 100000 in
set_option maxHeartbeats 4000000 in
theorem ok_12_findWatch {l : Launch} {E : ce} {d : Nat}  {a0 : Nat} {μ : mm} {r : mm} {Q : Option Value → mm → Prop} (h : f_12_findWatch a0 μ = some r) (k0 : kd a0 = 12) (hQ : Q none r) : Ct l E (d + 2) yX12_findWatch m_12_findWatch [.ref a0] μ Q := by
  refine Ct_of (lv := [some (.ref a0), none, none, none, none, none]) (by decide) rfl (Nat.le_of_ble_eq_true rfl) rfl ?_
  unfold f_12_findWatch at h
  refine R_iconst (v := 1) (dd dt_12_findWatch 0 rfl) ic_1 ?_
  refine R_aload_n (dd dt_12_findWatch 1 rfl) 0 rfl rfl ?_
  refine g_12_9 rfl k0 (dd dt_12_findWatch 2 rfl) ?_
  refine R_bipush (v := 15) (dd dt_12_findWatch 3 rfl) bp_15 ?_
  obtain ⟨x1, e2, h⟩ := bi_el h
  refine R_ild e2 (ty_12_0 k0) (dd dt_12_findWatch 4 rfl) ?_
  refine R_ishl (dd dt_12_findWatch 5 rfl) ?_
  refine R_istore_n (lv' := [some (.ref a0), some (.int (1 <<< (x1 &&& 31))), none, none, none, none]) (dd dt_12_findWatch 6 rfl) 1 rfl (by decide) rfl rfl ?_
  refine R_aload_n (dd dt_12_findWatch 7 rfl) 0 rfl rfl ?_
  refine g_12_9 rfl k0 (dd dt_12_findWatch 8 rfl) ?_
  refine R_bipush (v := 16) (dd dt_12_findWatch 9 rfl) bp_16 ?_
  obtain ⟨x3, e4, h⟩ := bi_el h
  refine R_ild e4 (ty_12_0 k0) (dd dt_12_findWatch 10 rfl) ?_
  refine R_istore_n (lv' := [some (.ref a0), some (.int (1 <<< (x1 &&& 31))), some (.int x3), none, none, none]) (dd dt_12_findWatch 11 rfl) 2 rfl (by decide) rfl rfl ?_
  obtain ⟨z5, e6, h⟩ := bi_el h
  refine R_mask [true, true, true, false, false, false] rfl (ok_12_findWatch_l18 a0 (1 <<< (x1 &&& 31)) k0 FU x3 μ _ e6 ?_)
  obtain rfl := Option.some.inj h
  exact R_vret rfl (dd dt_12_findWatch 101 rfl) hQ
