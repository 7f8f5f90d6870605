/-! LongStrikeModel.mayVote(I)Z -/
def tab_12_mayVote : List (Nat × Instr × Nat) := [(0, .iconst 0, 1), (1, .istore_n 2, 1), (2, .iconst 0, 1), (3, .istore_n 3, 1), (4, .iload_n 3, 1), (5, .aload_n 0, 1), (6, .getfield 9, 3), (9, .sipush 288, 3), (12, .iaload, 1), (13, .if_icmp .ge 30, 3), (16, .iload_n 2, 1), (17, .ifCond .ne 14, 3), (20, .aload_n 0, 1), (21, .iconst 0, 1), (22, .iload_n 3, 1), (23, .iconst 0, 1), (24, .invokevirtual 218, 3), (27, .iconst 5, 1), (28, .if_icmp .ne 7, 3), (31, .iconst 1, 1), (32, .goto 4, 3), (35, .iconst 0, 1), (36, .istore_n 2, 1), (37, .iinc 3 1, 3), (40, .goto (-36), 3), (43, .iload_n 2, 1), (44, .ifCond .eq 13, 3), (47, .aload_n 0, 1), (48, .iconst 0, 1), (49, .iconst 5, 1), (50, .iload_n 1, 1), (51, .invokevirtual 228, 3), (54, .ifCond .lt 7, 3), (57, .iconst 1, 1), (58, .goto 4, 3), (61, .iconst 0, 1), (62, .ireturn, 1)]
set_option maxRecDepth 100000 in
theorem dt_12_mayVote : ∀ q ∈ tab_12_mayVote, decode m_12_mayVote.2.1 q.1 = .ok q.2 := by decide +kernel
def f_12_mayVote_l4 (a0 : Nat) (a1 : Int32) (μ : mm) : Nat → Int32 → Int32 → Option (Int32)
  | 0, _, _ => none
  | n + 1, v2, v3 => (ld μ (rf a0 0) 288).bind fun x1 =>
    if x1 ≤ v3 then
      some v2
    else
      if v2 = 0 then
        (f_12_lineOf a0 0 v3 0 μ).bind fun x4 =>
        if x4 = 5 then
          f_12_mayVote_l4 a0 a1 μ n 1 (v3 + 1)
        else
          f_12_mayVote_l4 a0 a1 μ n 0 (v3 + 1)
      else
        f_12_mayVote_l4 a0 a1 μ n 1 (v3 + 1)
set_option maxRecDepth 100000 in
theorem ok_12_mayVote_l4 {l : Launch} {E : ce} {d : Nat} {Q : Option Value → mm → Prop} (a0 : Nat) (a1 : Int32) (μ : mm) (k0 : kd a0 = 12) : ∀ (n : Nat) (v2 : Int32) (v3 : Int32) (z : Int32), f_12_mayVote_l4 a0 a1 μ n v2 v3 = some z → Rj l E (d + 3) m_12_mayVote 43 [some (.ref a0), some (.int a1), some (.int z), none] [] μ Q → Rj l E (d + 3) m_12_mayVote 4 [some (.ref a0), some (.int a1), some (.int v2), some (.int v3)] [] μ Q
  | 0, _, _, z, h, _ => by
    rw [f_12_mayVote_l4] at h
    cases h
  | n + 1, v2, v3, z, h, KX => by
    rw [f_12_mayVote_l4] at h
    refine R_iload_n (dd dt_12_mayVote 4 rfl) 3 rfl rfl ?_
    refine R_aload_n (dd dt_12_mayVote 5 rfl) 0 rfl rfl ?_
    refine g_12_9 rfl k0 (dd dt_12_mayVote 6 rfl) ?_
    refine R_sipush (v := 288) (dd dt_12_mayVote 7 rfl) sp_288 ?_
    obtain ⟨x1, e2, h⟩ := bi_el h
    refine R_ild e2 (ty_12_0 k0) (dd dt_12_mayVote 8 rfl) ?_
    refine R_cmpge (dd dt_12_mayVote 9 rfl) (tgt := 43) rfl (fun hc => ?_) (fun hc => ?_)
    · rw [if_pos hc] at h
      obtain rfl := Option.some.inj h
      exact R_mask [true, true, true, false] rfl KX
    · rw [if_neg hc] at h
      refine R_iload_n (dd dt_12_mayVote 10 rfl) 2 rfl rfl ?_
      refine R_ifne (dd dt_12_mayVote 11 rfl) (tgt := 31) rfl (fun hc => ?_) (fun hc => ?_)
      · rw [if_neg hc] at h
        refine R_iconst (v := 1) (dd dt_12_mayVote 19 rfl) ic_1 ?_
        refine R_goto (dd dt_12_mayVote 20 rfl) (tgt := 36) rfl ?_
        refine R_istore_n (lv' := [some (.ref a0), some (.int a1), some (.int 1), some (.int v3)]) (dd dt_12_mayVote 22 rfl) 2 rfl (by decide) rfl rfl ?_
        refine R_iinc (v := 1) (lv' := [some (.ref a0), some (.int a1), some (.int 1), some (.int (v3 + 1))]) (dd dt_12_mayVote 23 rfl) (by decide) rfl rfl ic_1 rfl ?_
        refine R_goto (dd dt_12_mayVote 24 rfl) (tgt := 4) rfl ?_
        exact R_mask [true, true, true, true] rfl (ok_12_mayVote_l4 a0 a1 μ k0 n 1 (v3 + 1) _ h KX)
      · rw [if_pos hc] at h
        refine R_aload_n (dd dt_12_mayVote 12 rfl) 0 rfl rfl ?_
        refine R_iconst (v := 0) (dd dt_12_mayVote 13 rfl) ic_0 ?_
        refine R_iload_n (dd dt_12_mayVote 14 rfl) 3 rfl rfl ?_
        refine R_iconst (v := 0) (dd dt_12_mayVote 15 rfl) ic_0 ?_
        obtain ⟨x4, e3, h⟩ := bi_el h
        refine c_12_218 (As := [.int 0, .int v3, .int 0]) (st1 := [.int x4]) rfl (fun Q1 hq => ok_12_lineOf e3 k0 hq) k0 rfl rfl (Nat.le_of_ble_eq_true rfl) (dd dt_12_mayVote 16 rfl) rfl ?_
        refine R_iconst (v := 5) (dd dt_12_mayVote 17 rfl) ic_5 ?_
        refine R_cmpne (dd dt_12_mayVote 18 rfl) (tgt := 35) rfl (fun hc => ?_) (fun hc => ?_)
        · rw [if_neg hc] at h
          refine R_iconst (v := 0) (dd dt_12_mayVote 21 rfl) ic_0 ?_
          refine R_istore_n (lv' := [some (.ref a0), some (.int a1), some (.int 0), some (.int v3)]) (dd dt_12_mayVote 22 rfl) 2 rfl (by decide) rfl rfl ?_
          refine R_iinc (v := 1) (lv' := [some (.ref a0), some (.int a1), some (.int 0), some (.int (v3 + 1))]) (dd dt_12_mayVote 23 rfl) (by decide) rfl rfl ic_1 rfl ?_
          refine R_goto (dd dt_12_mayVote 24 rfl) (tgt := 4) rfl ?_
          exact R_mask [true, true, true, true] rfl (ok_12_mayVote_l4 a0 a1 μ k0 n 0 (v3 + 1) _ h KX)
        · rw [if_pos hc] at h
          refine R_iconst (v := 1) (dd dt_12_mayVote 19 rfl) ic_1 ?_
          refine R_goto (dd dt_12_mayVote 20 rfl) (tgt := 36) rfl ?_
          refine R_istore_n (lv' := [some (.ref a0), some (.int a1), some (.int 1), some (.int v3)]) (dd dt_12_mayVote 22 rfl) 2 rfl (by decide) rfl rfl ?_
          refine R_iinc (v := 1) (lv' := [some (.ref a0), some (.int a1), some (.int 1), some (.int (v3 + 1))]) (dd dt_12_mayVote 23 rfl) (by decide) rfl rfl ic_1 rfl ?_
          refine R_goto (dd dt_12_mayVote 24 rfl) (tgt := 4) rfl ?_
          exact R_mask [true, true, true, true] rfl (ok_12_mayVote_l4 a0 a1 μ k0 n 1 (v3 + 1) _ h KX)
def f_12_mayVote (a0 : Nat) (a1 : Int32) (μ : mm) : Option (Int32 × mm) :=
  (f_12_mayVote_l4 a0 a1 μ FU 0 0).bind fun z1 =>
  if z1 = 0 then
    some (1, μ)
  else
    (f_12_firstOf a0 0 5 a1 μ).bind fun z4 =>
    if z4.1 < 0 then
      some (0, z4.2)
    else
      some (1, z4.2)
set_option maxRecDepth 100000 in
set_option maxHeartbeats 4000000 in
theorem ok_12_mayVote {l : Launch} {E : ce} {d : Nat}  {a0 : Nat} {a1 : Int32} {μ : mm} {r : Int32 × mm} {Q : Option Value → mm → Prop} (h : f_12_mayVote a0 a1 μ = some r) (k0 : kd a0 = 12) (hQ : Q (some (.int r.1)) r.2) : Ct l E (d + 3) yX12_mayVote m_12_mayVote [.ref a0, .int a1] μ Q := by
  refine Ct_of (lv := [some (.ref a0), some (.int a1), none, none]) (by decide) rfl (Nat.le_of_ble_eq_true rfl) rfl ?_
  unfold f_12_mayVote at h
  refine R_iconst (v := 0) (dd dt_12_mayVote 0 rfl) ic_0 ?_
  refine R_istore_n (lv' := [some (.ref a0), some (.int a1), some (.int 0), none]) (dd dt_12_mayVote 1 rfl) 2 rfl (by decide) rfl rfl ?_
  refine R_iconst (v := 0) (dd dt_12_mayVote 2 rfl) ic_0 ?_
  refine R_istore_n (lv' := [some (.ref a0), some (.int a1), some (.int 0), some (.int 0)]) (dd dt_12_mayVote 3 rfl) 3 rfl (by decide) rfl rfl ?_
  obtain ⟨z1, e2, h⟩ := bi_el h
  refine R_mask [true, true, true, true] rfl (ok_12_mayVote_l4 a0 a1 μ k0 FU 0 0 _ e2 ?_)
  refine R_iload_n (dd dt_12_mayVote 25 rfl) 2 rfl rfl ?_
  refine R_ifeq (dd dt_12_mayVote 26 rfl) (tgt := 57) rfl (fun hc => ?_) (fun hc => ?_)
  · rw [if_pos hc] at h
    refine R_iconst (v := 1) (dd dt_12_mayVote 33 rfl) ic_1 ?_
    refine R_goto (dd dt_12_mayVote 34 rfl) (tgt := 62) rfl ?_
    obtain rfl := Option.some.inj h
    exact R_zret rfl (by decide) (dd dt_12_mayVote 36 rfl) hQ
  · rw [if_neg hc] at h
    refine R_aload_n (dd dt_12_mayVote 27 rfl) 0 rfl rfl ?_
    refine R_iconst (v := 0) (dd dt_12_mayVote 28 rfl) ic_0 ?_
    refine R_iconst (v := 5) (dd dt_12_mayVote 29 rfl) ic_5 ?_
    refine R_iload_n (dd dt_12_mayVote 30 rfl) 1 rfl rfl ?_
    obtain ⟨z4, e3, h⟩ := bi_el h
    refine c_12_228 (As := [.int 0, .int 5, .int a1]) (st1 := [.int z4.1]) rfl (fun Q1 hq => ok_12_firstOf e3 k0 hq) k0 rfl rfl (Nat.le_of_ble_eq_true rfl) (dd dt_12_mayVote 31 rfl) rfl ?_
    refine R_iflt (dd dt_12_mayVote 32 rfl) (tgt := 61) rfl (fun hc => ?_) (fun hc => ?_)
    · rw [if_pos hc] at h
      refine R_iconst (v := 0) (dd dt_12_mayVote 35 rfl) ic_0 ?_
      obtain rfl := Option.some.inj h
      exact R_zret rfl (by decide) (dd dt_12_mayVote 36 rfl) hQ
    · rw [if_neg hc] at h
      refine R_iconst (v := 1) (dd dt_12_mayVote 33 rfl) ic_1 ?_
      refine R_goto (dd dt_12_mayVote 34 rfl) (tgt := 62) rfl ?_
      obtain rfl := Option.some.inj h
      exact R_zret rfl (by decide) (dd dt_12_mayVote 36 rfl) hQ
/-! LongStrikeModel.rank(I)I -/
def tab_12_rank : List (Nat × Instr × Nat) := [(0, .aload_n 0, 1), (1, .iconst 0, 1), (2, .iconst 1, 1), (3, .iload_n 1, 1), (4, .invokevirtual 228, 3), (7, .istore_n 2, 1), (8, .iload_n 2, 1), (9, .ifCond .ge 8, 3), (12, .bipush 9, 2), (14, .goto 10, 3), (17, .aload_n 0, 1), (18, .iconst 0, 1), (19, .iload_n 2, 1), (20, .iconst 1, 1), (21, .invokevirtual 218, 3), (24, .ireturn, 1)]
set_option maxRecDepth 100000 in
theorem dt_12_rank : ∀ q ∈ tab_12_rank, decode m_12_rank.2.1 q.1 = .ok q.2 := by decide +kernel
def f_12_rank (a0 : Nat) (a1 : Int32) (μ : mm) : Option (Int32 × mm) :=
  (f_12_firstOf a0 0 1 a1 μ).bind fun z2 =>
  if 0 ≤ z2.1 then
    (f_12_lineOf a0 0 z2.1 1 z2.2).bind fun x4 =>
    some (x4, z2.2)
  else
    some (9, z2.2)
set_option maxRecDepth 100000 in
set_option maxHeartbeats 4000000 in
theorem ok_12_rank {l : Launch} {E : ce} {d : Nat}  {a0 : Nat} {a1 : Int32} {μ : mm} {r : Int32 × mm} {Q : Option Value → mm → Prop} (h : f_12_rank a0 a1 μ = some r) (k0 : kd a0 = 12) (hQ : Q (some (.int r.1)) r.2) : Ct l E (d + 3) yX12_rank m_12_rank [.ref a0, .int a1] μ Q := by
  refine Ct_of (lv := [some (.ref a0), some (.int a1), none]) (by decide) rfl (Nat.le_of_ble_eq_true rfl) rfl ?_
  unfold f_12_rank at h
  refine R_aload_n (dd dt_12_rank 0 rfl) 0 rfl rfl ?_
  refine R_iconst (v := 0) (dd dt_12_rank 1 rfl) ic_0 ?_
  refine R_iconst (v := 1) (dd dt_12_rank 2 rfl) ic_1 ?_
  refine R_iload_n (dd dt_12_rank 3 rfl) 1 rfl rfl ?_
  obtain ⟨z2, e1, h⟩ := bi_el h
  refine c_12_228 (As := [.int 0, .int 1, .int a1]) (st1 := [.int z2.1]) rfl (fun Q1 hq => ok_12_firstOf e1 k0 hq) k0 rfl rfl (Nat.le_of_ble_eq_true rfl) (dd dt_12_rank 4 rfl) rfl ?_
  refine R_istore_n (lv' := [some (.ref a0), some (.int a1), some (.int z2.1)]) (dd dt_12_rank 5 rfl) 2 rfl (by decide) rfl rfl ?_
  refine R_iload_n (dd dt_12_rank 6 rfl) 2 rfl rfl ?_
  refine R_ifge (dd dt_12_rank 7 rfl) (tgt := 17) rfl (fun hc => ?_) (fun hc => ?_)
  · rw [if_pos hc] at h
    refine R_aload_n (dd dt_12_rank 10 rfl) 0 rfl rfl ?_
    refine R_iconst (v := 0) (dd dt_12_rank 11 rfl) ic_0 ?_
    refine R_iload_n (dd dt_12_rank 12 rfl) 2 rfl rfl ?_
    refine R_iconst (v := 1) (dd dt_12_rank 13 rfl) ic_1 ?_
    obtain ⟨x4, e3, h⟩ := bi_el h
    refine c_12_218 (As := [.int 0, .int z2.1, .int 1]) (st1 := [.int x4]) rfl (fun Q1 hq => ok_12_lineOf e3 k0 hq) k0 rfl rfl (Nat.le_of_ble_eq_true rfl) (dd dt_12_rank 14 rfl) rfl ?_
    obtain rfl := Option.some.inj h
    exact R_iret rfl (dd dt_12_rank 15 rfl) hQ
  · rw [if_neg hc] at h
    refine R_bipush (v := 9) (dd dt_12_rank 8 rfl) bp_9 ?_
    refine R_goto (dd dt_12_rank 9 rfl) (tgt := 24) rfl ?_
    obtain rfl := Option.some.inj h
    exact R_iret rfl (dd dt_12_rank 15 rfl) hQ
/-! LongStrikeModel.relief(I)I -/
def tab_12_relief : List (Nat × Instr × Nat) := [(0, .aload_n 0, 1), (1, .iconst 1, 1), (2, .bipush 6, 2), (4, .iload_n 1, 1), (5, .invokevirtual 228, 3), (8, .istore_n 2, 1), (9, .iload_n 2, 1), (10, .ifCond .ge 7, 3), (13, .iconst 0, 1), (14, .goto 10, 3), (17, .aload_n 0, 1), (18, .iconst 1, 1), (19, .iload_n 2, 1), (20, .iconst 1, 1), (21, .invokevirtual 218, 3), (24, .ireturn, 1)]
set_option maxRecDepth 100000 in
theorem dt_12_relief : ∀ q ∈ tab_12_relief, decode m_12_relief.2.1 q.1 = .ok q.2 := by decide +kernel
def f_12_relief (a0 : Nat) (a1 : Int32) (μ : mm) : Option (Int32 × mm) :=
  (f_12_firstOf a0 1 6 a1 μ).bind fun z2 =>
  if 0 ≤ z2.1 then
    (f_12_lineOf a0 1 z2.1 1 z2.2).bind fun x4 =>
    some (x4, z2.2)
  else
    some (0, z2.2)
set_option maxRecDepth 100000 in
set_option maxHeartbeats 4000000 in
theorem ok_12_relief {l : Launch} {E : ce} {d : Nat}  {a0 : Nat} {a1 : Int32} {μ : mm} {r : Int32 × mm} {Q : Option Value → mm → Prop} (h : f_12_relief a0 a1 μ = some r) (k0 : kd a0 = 12) (hQ : Q (some (.int r.1)) r.2) : Ct l E (d + 3) yX12_relief m_12_relief [.ref a0, .int a1] μ Q := by
  refine Ct_of (lv := [some (.ref a0), some (.int a1), none]) (by decide) rfl (Nat.le_of_ble_eq_true rfl) rfl ?_
  unfold f_12_relief at h
  refine R_aload_n (dd dt_12_relief 0 rfl) 0 rfl rfl ?_
  refine R_iconst (v := 1) (dd dt_12_relief 1 rfl) ic_1 ?_
  refine R_bipush (v := 6) (dd dt_12_relief 2 rfl) bp_6 ?_
  refine R_iload_n (dd dt_12_relief 3 rfl) 1 rfl rfl ?_
  obtain ⟨z2, e1, h⟩ := bi_el h
  refine c_12_228 (As := [.int 1, .int 6, .int a1]) (st1 := [.int z2.1]) rfl (fun Q1 hq => ok_12_firstOf e1 k0 hq) k0 rfl rfl (Nat.le_of_ble_eq_true rfl) (dd dt_12_relief 4 rfl) rfl ?_
  refine R_istore_n (lv' := [some (.ref a0), some (.int a1), some (.int z2.1)]) (dd dt_12_relief 5 rfl) 2 rfl (by decide) rfl rfl ?_
  refine R_iload_n (dd dt_12_relief 6 rfl) 2 rfl rfl ?_
  refine R_ifge (dd dt_12_relief 7 rfl) (tgt := 17) rfl (fun hc => ?_) (fun hc => ?_)
  · rw [if_pos hc] at h
    refine R_aload_n (dd dt_12_relief 10 rfl) 0 rfl rfl ?_
    refine R_iconst (v := 1) (dd dt_12_relief 11 rfl) ic_1 ?_
    refine R_iload_n (dd dt_12_relief 12 rfl) 2 rfl rfl ?_
    refine R_iconst (v := 1) (dd dt_12_relief 13 rfl) ic_1 ?_
    obtain ⟨x4, e3, h⟩ := bi_el h
    refine c_12_218 (As := [.int 1, .int z2.1, .int 1]) (st1 := [.int x4]) rfl (fun Q1 hq => ok_12_lineOf e3 k0 hq) k0 rfl rfl (Nat.le_of_ble_eq_true rfl) (dd dt_12_relief 14 rfl) rfl ?_
    obtain rfl := Option.some.inj h
    exact R_iret rfl (dd dt_12_relief 15 rfl) hQ
  · rw [if_neg hc] at h
    refine R_iconst (v := 0) (dd dt_12_relief 8 rfl) ic_0 ?_
    refine R_goto (dd dt_12_relief 9 rfl) (tgt := 24) rfl ?_
    obtain rfl := Option.some.inj h
    exact R_iret rfl (dd dt_12_relief 15 rfl) hQ
/-! LongStrikeModel.ticket(I)I -/
def tab_12_ticket : List (Nat × Instr × Nat) := [(0, .aload_n 0, 1), (1, .iconst 0, 1), (2, .iconst 0, 1), (3, .iload_n 1, 1), (4, .invokevirtual 228, 3), (7, .istore_n 2, 1), (8, .iload_n 2, 1), (9, .ifCond .ge 7, 3), (12, .iconst 0, 1), (13, .goto 10, 3), (16, .aload_n 0, 1), (17, .iconst 0, 1), (18, .iload_n 2, 1), (19, .iconst 1, 1), (20, .invokevirtual 218, 3), (23, .ireturn, 1)]
set_option maxRecDepth 100000 in
theorem dt_12_ticket : ∀ q ∈ tab_12_ticket, decode m_12_ticket.2.1 q.1 = .ok q.2 := by decide +kernel
def f_12_ticket (a0 : Nat) (a1 : Int32) (μ : mm) : Option (Int32 × mm) :=
  (f_12_firstOf a0 0 0 a1 μ).bind fun z2 =>
  if 0 ≤ z2.1 then
    (f_12_lineOf a0 0 z2.1 1 z2.2).bind fun x4 =>
    some (x4, z2.2)
  else
    some (0, z2.2)
set_option maxRecDepth 100000 in
set_option maxHeartbeats 4000000 in
theorem ok_12_ticket {l : Launch} {E : ce} {d : Nat}  {a0 : Nat} {a1 : Int32} {μ : mm} {r : Int32 × mm} {Q : Option Value → mm → Prop} (h : f_12_ticket a0 a1 μ = some r) (k0 : kd a0 = 12) (hQ : Q (some (.int r.1)) r.2) : Ct l E (d + 3) yX12_ticket m_12_ticket [.ref a0, .int a1] μ Q := by
  refine Ct_of (lv := [some (.ref a0), some (.int a1), none]) (by decide) rfl (Nat.le_of_ble_eq_true rfl) rfl ?_
  unfold f_12_ticket at h
  refine R_aload_n (dd dt_12_ticket 0 rfl) 0 rfl rfl ?_
  refine R_iconst (v := 0) (dd dt_12_ticket 1 rfl) ic_0 ?_
  refine R_iconst (v := 0) (dd dt_12_ticket 2 rfl) ic_0 ?_
  refine R_iload_n (dd dt_12_ticket 3 rfl) 1 rfl rfl ?_
  obtain ⟨z2, e1, h⟩ := bi_el h
  refine c_12_228 (As := [.int 0, .int 0, .int a1]) (st1 := [.int z2.1]) rfl (fun Q1 hq => ok_12_firstOf e1 k0 hq) k0 rfl rfl (Nat.le_of_ble_eq_true rfl) (dd dt_12_ticket 4 rfl) rfl ?_
  refine R_istore_n (lv' := [some (.ref a0), some (.int a1), some (.int z2.1)]) (dd dt_12_ticket 5 rfl) 2 rfl (by decide) rfl rfl ?_
  refine R_iload_n (dd dt_12_ticket 6 rfl) 2 rfl rfl ?_
  refine R_ifge (dd dt_12_ticket 7 rfl) (tgt := 16) rfl (fun hc => ?_) (fun hc => ?_)
  · rw [if_pos hc] at h
    refine R_aload_n (dd dt_12_ticket 10 rfl) 0 rfl rfl ?_
    refine R_iconst (v := 0) (dd dt_12_ticket 11 rfl) ic_0 ?_
    refine R_iload_n (dd dt_12_ticket 12 rfl) 2 rfl rfl ?_
    refine R_iconst (v := 1) (dd dt_12_ticket 13 rfl) ic_1 ?_
    obtain ⟨x4, e3, h⟩ := bi_el h
    refine c_12_218 (As := [.int 0, .int z2.1, .int 1]) (st1 := [.int x4]) rfl (fun Q1 hq => ok_12_lineOf e3 k0 hq) k0 rfl rfl (Nat.le_of_ble_eq_true rfl) (dd dt_12_ticket 14 rfl) rfl ?_
    obtain rfl := Option.some.inj h
    exact R_iret rfl (dd dt_12_ticket 15 rfl) hQ
  · rw [if_neg hc] at h
    refine R_iconst (v := 0) (dd dt_12_ticket 8 rfl) ic_0 ?_
    refine R_goto (dd dt_12_ticket 9 rfl) (tgt := 23) rfl ?_
    obtain rfl := Option.some.inj h
    exact R_iret rfl (dd dt_12_ticket 15 rfl) hQ
/-! LongStrikeModel.of(II)I -/
def tab_12_of : List (Nat × Instr × Nat) := [(0, .aload_n 0, 1), (1, .iload_n 1, 1), (2, .bipush 11, 2), (4, .invokevirtual 84, 3), (7, .ifCond .eq 13, 3), (10, .iload_n 2, 1), (11, .iconst 0, 1), (12, .bipush 15, 2), (14, .invokestatic 80, 3), (17, .ifCond .ne 5, 3), (20, .iconst (-1), 1), (21, .ireturn, 1), (22, .iload_n 2, 1), (23, .bipush 12, 2), (25, .if_icmp .ge 10, 3), (28, .aload_n 0, 1), (29, .iload_n 1, 1), (30, .iload_n 2, 1), (31, .invokevirtual 98, 3), (34, .ireturn, 1), (35, .iload_n 2, 1), (36, .bipush 12, 2), (38, .if_icmp .ne 11, 3), (41, .aload_n 0, 1), (42, .iload_n 1, 1), (43, .invokevirtual 101, 3), (46, .goto 44, 3), (49, .iload_n 2, 1), (50, .bipush 13, 2), (52, .if_icmp .ne 11, 3), (55, .aload_n 0, 1), (56, .iload_n 1, 1), (57, .invokevirtual 105, 3), (60, .goto 30, 3), (63, .iload_n 2, 1), (64, .bipush 14, 2), (66, .if_icmp .ne 11, 3), (69, .aload_n 0, 1), (70, .iload_n 1, 1), (71, .invokevirtual 108, 3), (74, .goto 16, 3), (77, .aload_n 0, 1), (78, .iload_n 1, 1), (79, .invokevirtual 111, 3), (82, .ifCond .eq 7, 3), (85, .iconst 1, 1), (86, .goto 4, 3), (89, .iconst 0, 1), (90, .ireturn, 1)]
set_option maxRecDepth 100000 in
theorem dt_12_of : ∀ q ∈ tab_12_of, decode m_12_of.2.1 q.1 = .ok q.2 := by decide +kernel
def f_12_of (a0 : Nat) (a1 : Int32) (a2 : Int32) (μ : mm) : Option (Int32 × mm) :=
  (f_12_is a0 a1 11 μ).bind fun x2 =>
  if x2 = 0 then
    some ((-1), μ)
  else
    (f_12_within a2 0 15 μ).bind fun x4 =>
    if x4 = 0 then
      some ((-1), μ)
    else
      if 12 ≤ a2 then
        if a2 = 12 then
          (f_12_ticket a0 a1 μ).bind fun z12 =>
          some (z12.1, z12.2)
        else
          if a2 = 13 then
            (f_12_rank a0 a1 μ).bind fun z10 =>
            some (z10.1, z10.2)
          else
            if a2 = 14 then
              (f_12_relief a0 a1 μ).bind fun z8 =>
              some (z8.1, z8.2)
            else
              (f_12_mayVote a0 a1 μ).bind fun z6 =>
              if z6.1 = 0 then
                some (0, z6.2)
              else
                some (1, z6.2)
      else
        (f_12_house a0 a1 a2 μ).bind fun x14 =>
        some (x14, μ)
set_option maxRecDepth 100000 in
set_option maxHeartbeats 4000000 in
theorem ok_12_of {l : Launch} {E : ce} {d : Nat}  {a0 : Nat} {a1 : Int32} {a2 : Int32} {μ : mm} {r : Int32 × mm} {Q : Option Value → mm → Prop} (h : f_12_of a0 a1 a2 μ = some r) (k0 : kd a0 = 12) (hQ : Q (some (.int r.1)) r.2) : Ct l E (d + 4) yX12_of m_12_of [.ref a0, .int a1, .int a2] μ Q := by
  refine Ct_of (lv := [some (.ref a0), some (.int a1), some (.int a2)]) (by decide) rfl (Nat.le_of_ble_eq_true rfl) rfl ?_
  unfold f_12_of at h
  refine R_aload_n (dd dt_12_of 0 rfl) 0 rfl rfl ?_
  refine R_iload_n (dd dt_12_of 1 rfl) 1 rfl rfl ?_
  refine R_bipush (v := 11) (dd dt_12_of 2 rfl) bp_11 ?_
  obtain ⟨x2, e1, h⟩ := bi_el h
  refine c_12_84 (As := [.int a1, .int 11]) (st1 := [.int x2]) rfl (fun Q1 hq => ok_12_is e1 k0 hq) k0 rfl rfl (Nat.le_of_ble_eq_true rfl) (dd dt_12_of 3 rfl) rfl ?_
  refine R_ifeq (dd dt_12_of 4 rfl) (tgt := 20) rfl (fun hc => ?_) (fun hc => ?_)
  · rw [if_pos hc] at h
    refine R_iconst (v := (-1)) (dd dt_12_of 10 rfl) ic_m1 ?_
    obtain rfl := Option.some.inj h
    exact R_iret rfl (dd dt_12_of 11 rfl) hQ
  · rw [if_neg hc] at h
    refine R_iload_n (dd dt_12_of 5 rfl) 2 rfl rfl ?_
    refine R_iconst (v := 0) (dd dt_12_of 6 rfl) ic_0 ?_
    refine R_bipush (v := 15) (dd dt_12_of 7 rfl) bp_15 ?_
    obtain ⟨x4, e3, h⟩ := bi_el h
    refine c_12_80 (As := [.int a2, .int 0, .int 15]) (st1 := [.int x4]) rfl (fun Q1 hq => ok_12_within e3 hq) rfl rfl (Nat.le_of_ble_eq_true rfl) (dd dt_12_of 8 rfl) rfl ?_
    refine R_ifne (dd dt_12_of 9 rfl) (tgt := 22) rfl (fun hc => ?_) (fun hc => ?_)
    · rw [if_neg hc] at h
      refine R_iload_n (dd dt_12_of 12 rfl) 2 rfl rfl ?_
      refine R_bipush (v := 12) (dd dt_12_of 13 rfl) bp_12 ?_
      refine R_cmpge (dd dt_12_of 14 rfl) (tgt := 35) rfl (fun hc => ?_) (fun hc => ?_)
      · rw [if_pos hc] at h
        refine R_iload_n (dd dt_12_of 20 rfl) 2 rfl rfl ?_
        refine R_bipush (v := 12) (dd dt_12_of 21 rfl) bp_12 ?_
        refine R_cmpne (dd dt_12_of 22 rfl) (tgt := 49) rfl (fun hc => ?_) (fun hc => ?_)
        · rw [if_neg hc] at h
          refine R_iload_n (dd dt_12_of 27 rfl) 2 rfl rfl ?_
          refine R_bipush (v := 13) (dd dt_12_of 28 rfl) bp_13 ?_
          refine R_cmpne (dd dt_12_of 29 rfl) (tgt := 63) rfl (fun hc => ?_) (fun hc => ?_)
          · rw [if_neg hc] at h
            refine R_iload_n (dd dt_12_of 34 rfl) 2 rfl rfl ?_
            refine R_bipush (v := 14) (dd dt_12_of 35 rfl) bp_14 ?_
            refine R_cmpne (dd dt_12_of 36 rfl) (tgt := 77) rfl (fun hc => ?_) (fun hc => ?_)
            · rw [if_neg hc] at h
              refine R_aload_n (dd dt_12_of 41 rfl) 0 rfl rfl ?_
              refine R_iload_n (dd dt_12_of 42 rfl) 1 rfl rfl ?_
              obtain ⟨z6, e5, h⟩ := bi_el h
              refine c_12_111 (As := [.int a1]) (st1 := [.int z6.1]) rfl (fun Q1 hq => ok_12_mayVote e5 k0 hq) k0 rfl rfl (Nat.le_of_ble_eq_true rfl) (dd dt_12_of 43 rfl) rfl ?_
              refine R_ifeq (dd dt_12_of 44 rfl) (tgt := 89) rfl (fun hc => ?_) (fun hc => ?_)
              · rw [if_pos hc] at h
                refine R_iconst (v := 0) (dd dt_12_of 47 rfl) ic_0 ?_
                obtain rfl := Option.some.inj h
                exact R_iret rfl (dd dt_12_of 48 rfl) hQ
              · rw [if_neg hc] at h
                refine R_iconst (v := 1) (dd dt_12_of 45 rfl) ic_1 ?_
                refine R_goto (dd dt_12_of 46 rfl) (tgt := 90) rfl ?_
                obtain rfl := Option.some.inj h
                exact R_iret rfl (dd dt_12_of 48 rfl) hQ
            · rw [if_pos hc] at h
              refine R_aload_n (dd dt_12_of 37 rfl) 0 rfl rfl ?_
              refine R_iload_n (dd dt_12_of 38 rfl) 1 rfl rfl ?_
              obtain ⟨z8, e7, h⟩ := bi_el h
              refine c_12_108 (As := [.int a1]) (st1 := [.int z8.1]) rfl (fun Q1 hq => ok_12_relief e7 k0 hq) k0 rfl rfl (Nat.le_of_ble_eq_true rfl) (dd dt_12_of 39 rfl) rfl ?_
              refine R_goto (dd dt_12_of 40 rfl) (tgt := 90) rfl ?_
              obtain rfl := Option.some.inj h
              exact R_iret rfl (dd dt_12_of 48 rfl) hQ
          · rw [if_pos hc] at h
            refine R_aload_n (dd dt_12_of 30 rfl) 0 rfl rfl ?_
            refine R_iload_n (dd dt_12_of 31 rfl) 1 rfl rfl ?_
            obtain ⟨z10, e9, h⟩ := bi_el h
            refine c_12_105 (As := [.int a1]) (st1 := [.int z10.1]) rfl (fun Q1 hq => ok_12_rank e9 k0 hq) k0 rfl rfl (Nat.le_of_ble_eq_true rfl) (dd dt_12_of 32 rfl) rfl ?_
            refine R_goto (dd dt_12_of 33 rfl) (tgt := 90) rfl ?_
            obtain rfl := Option.some.inj h
            exact R_iret rfl (dd dt_12_of 48 rfl) hQ
        · rw [if_pos hc] at h
          refine R_aload_n (dd dt_12_of 23 rfl) 0 rfl rfl ?_
          refine R_iload_n (dd dt_12_of 24 rfl) 1 rfl rfl ?_
          obtain ⟨z12, e11, h⟩ := bi_el h
          refine c_12_101 (As := [.int a1]) (st1 := [.int z12.1]) rfl (fun Q1 hq => ok_12_ticket e11 k0 hq) k0 rfl rfl (Nat.le_of_ble_eq_true rfl) (dd dt_12_of 25 rfl) rfl ?_
          refine R_goto (dd dt_12_of 26 rfl) (tgt := 90) rfl ?_
          obtain rfl := Option.some.inj h
          exact R_iret rfl (dd dt_12_of 48 rfl) hQ
      · rw [if_neg hc] at h
        refine R_aload_n (dd dt_12_of 15 rfl) 0 rfl rfl ?_
        refine R_iload_n (dd dt_12_of 16 rfl) 1 rfl rfl ?_
        refine R_iload_n (dd dt_12_of 17 rfl) 2 rfl rfl ?_
        obtain ⟨x14, e13, h⟩ := bi_el h
        refine c_12_98 (As := [.int a1, .int a2]) (st1 := [.int x14]) rfl (fun Q1 hq => ok_12_house e13 k0 hq) k0 rfl rfl (Nat.le_of_ble_eq_true rfl) (dd dt_12_of 18 rfl) rfl ?_
        obtain rfl := Option.some.inj h
        exact R_iret rfl (dd dt_12_of 19 rfl) hQ
    · rw [if_pos hc] at h
      refine R_iconst (v := (-1)) (dd dt_12_of 10 rfl) ic_m1 ?_
      obtain rfl := Option.some.inj h
      exact R_iret rfl (dd dt_12_of 11 rfl) hQ
/-! LongStrikeModel.firstNumber(III)I -/
def tab_12_firstNumber : List (Nat × Instr × Nat) := [(0, .iconst 0, 1), (1, .istore 4, 2), (3, .iload 4, 2), (5, .aload_n 0, 1), (6, .getfield 9, 3), (9, .sipush 288, 3), (12, .sipush 161, 3), (15, .iload_n 1, 1), (16, .imul, 1), (17, .iadd, 1), (18, .iaload, 1), (19, .if_icmp .ge 30, 3), (22, .aload_n 0, 1), (23, .iload_n 1, 1), (24, .iload 4, 2), (26, .iconst 0, 1), (27, .invokevirtual 218, 3), (30, .iload_n 2, 1), (31, .if_icmp .ne 12, 3), (34, .aload_n 0, 1), (35, .iload_n 1, 1), (36, .iload 4, 2), (38, .iconst 1, 1), (39, .invokevirtual 218, 3), (42, .ireturn, 1), (43, .iinc 4 1, 3), (46, .goto (-43), 3), (49, .iload_n 3, 1), (50, .ireturn, 1)]
set_option maxRecDepth 100000 in
theorem dt_12_firstNumber : ∀ q ∈ tab_12_firstNumber, decode m_12_firstNumber.2.1 q.1 = .ok q.2 := by decide +kernel
def f_12_firstNumber_l3 (a0 : Nat) (a1 : Int32) (a2 : Int32) (a3 : Int32) (μ : mm) : Nat → Int32 → Option (Int32)
  | 0, _ => none
  | n + 1, v4 => (ld μ (rf a0 0) (288 + (161 * a1))).bind fun x1 =>
    if x1 ≤ v4 then
      some a3
    else
      (f_12_lineOf a0 a1 v4 0 μ).bind fun x4 =>
      if x4 = a2 then
        (f_12_lineOf a0 a1 v4 1 μ).bind fun x6 =>
        some x6
      else
        f_12_firstNumber_l3 a0 a1 a2 a3 μ n (v4 + 1)
set_option maxRecDepth 100000 in
theorem ok_12_firstNumber_l3 {l : Launch} {E : ce} {d : Nat} {Q : Option Value → mm → Prop} (a0 : Nat) (a1 : Int32) (a2 : Int32) (a3 : Int32) (μ : mm) (k0 : kd a0 = 12) : ∀ (n : Nat) (v4 : Int32) (r : Int32), f_12_firstNumber_l3 a0 a1 a2 a3 μ n v4 = some r → Q (some (.int r)) μ → Rj l E (d + 1) m_12_firstNumber 3 [some (.ref a0), some (.int a1), some (.int a2), some (.int a3), some (.int v4)] [] μ Q
  | 0, _, z, h, _ => by
    rw [f_12_firstNumber_l3] at h
    cases h
  | n + 1, v4, r, h, hQ => by
    rw [f_12_firstNumber_l3] at h
    refine R_iload (dd dt_12_firstNumber 2 rfl) rfl ?_
    refine R_aload_n (dd dt_12_firstNumber 3 rfl) 0 rfl rfl ?_
    refine g_12_9 rfl k0 (dd dt_12_firstNumber 4 rfl) ?_
    refine R_sipush (v := 288) (dd dt_12_firstNumber 5 rfl) sp_288 ?_
    refine R_sipush (v := 161) (dd dt_12_firstNumber 6 rfl) sp_161 ?_
    refine R_iload_n (dd dt_12_firstNumber 7 rfl) 1 rfl rfl ?_
    refine R_imul (dd dt_12_firstNumber 8 rfl) ?_
    refine R_iadd (dd dt_12_firstNumber 9 rfl) ?_
    obtain ⟨x1, e2, h⟩ := bi_el h
    refine R_ild e2 (ty_12_0 k0) (dd dt_12_firstNumber 10 rfl) ?_
    refine R_cmpge (dd dt_12_firstNumber 11 rfl) (tgt := 49) rfl (fun hc => ?_) (fun hc => ?_)
    · rw [if_pos hc] at h
      refine R_iload_n (dd dt_12_firstNumber 27 rfl) 3 rfl rfl ?_
      obtain rfl := Option.some.inj h
      exact R_iret rfl (dd dt_12_firstNumber 28 rfl) hQ
    · rw [if_neg hc] at h
      refine R_aload_n (dd dt_12_firstNumber 12 rfl) 0 rfl rfl ?_
      refine R_iload_n (dd dt_12_firstNumber 13 rfl) 1 rfl rfl ?_
      refine R_iload (dd dt_12_firstNumber 14 rfl) rfl ?_
      refine R_iconst (v := 0) (dd dt_12_firstNumber 15 rfl) ic_0 ?_
      obtain ⟨x4, e3, h⟩ := bi_el h
      refine c_12_218 (As := [.int a1, .int v4, .int 0]) (st1 := [.int x4]) rfl (fun Q1 hq => ok_12_lineOf e3 k0 hq) k0 rfl rfl (Nat.le_of_ble_eq_true rfl) (dd dt_12_firstNumber 16 rfl) rfl ?_
      refine R_iload_n (dd dt_12_firstNumber 17 rfl) 2 rfl rfl ?_
      refine R_cmpne (dd dt_12_firstNumber 18 rfl) (tgt := 43) rfl (fun hc => ?_) (fun hc => ?_)
      · rw [if_neg hc] at h
        refine R_iinc (v := 1) (lv' := [some (.ref a0), some (.int a1), some (.int a2), some (.int a3), some (.int (v4 + 1))]) (dd dt_12_firstNumber 25 rfl) (by decide) rfl rfl ic_1 rfl ?_
        refine R_goto (dd dt_12_firstNumber 26 rfl) (tgt := 3) rfl ?_
        exact R_mask [true, true, true, true, true] rfl (ok_12_firstNumber_l3 a0 a1 a2 a3 μ k0 n (v4 + 1) _ h hQ)
      · rw [if_pos hc] at h
        refine R_aload_n (dd dt_12_firstNumber 19 rfl) 0 rfl rfl ?_
        refine R_iload_n (dd dt_12_firstNumber 20 rfl) 1 rfl rfl ?_
        refine R_iload (dd dt_12_firstNumber 21 rfl) rfl ?_
        refine R_iconst (v := 1) (dd dt_12_firstNumber 22 rfl) ic_1 ?_
        obtain ⟨x6, e5, h⟩ := bi_el h
        refine c_12_218 (As := [.int a1, .int v4, .int 1]) (st1 := [.int x6]) rfl (fun Q1 hq => ok_12_lineOf e5 k0 hq) k0 rfl rfl (Nat.le_of_ble_eq_true rfl) (dd dt_12_firstNumber 23 rfl) rfl ?_
        obtain rfl := Option.some.inj h
        exact R_iret rfl (dd dt_12_firstNumber 24 rfl) hQ
def f_12_firstNumber (a0 : Nat) (a1 : Int32) (a2 : Int32) (a3 : Int32) (μ : mm) : Option (Int32) :=
  f_12_firstNumber_l3 a0 a1 a2 a3 μ FU 0
set_option maxRecDepth 100000 in
set_option maxHeartbeats 4000000 in
theorem ok_12_firstNumber {l : Launch} {E : ce} {d : Nat}  {a0 : Nat} {a1 : Int32} {a2 : Int32} {a3 : Int32} {μ : mm} {r : Int32} {Q : Option Value → mm → Prop} (h : f_12_firstNumber a0 a1 a2 a3 μ = some r) (k0 : kd a0 = 12) (hQ : Q (some (.int r)) μ) : Ct l E (d + 1) yX12_firstNumber m_12_firstNumber [.ref a0, .int a1, .int a2, .int a3] μ Q := by
  refine Ct_of (lv := [some (.ref a0), some (.int a1), some (.int a2), some (.int a3), none]) (by decide) rfl (Nat.le_of_ble_eq_true rfl) rfl ?_
  unfold f_12_firstNumber at h
  refine R_iconst (v := 0) (dd dt_12_firstNumber 0 rfl) ic_0 ?_
  refine R_istore (lv' := [some (.ref a0), some (.int a1), some (.int a2), some (.int a3), some (.int 0)]) (dd dt_12_firstNumber 1 rfl) (by decide) rfl rfl ?_
  exact R_mask [true, true, true, true, true] rfl (ok_12_firstNumber_l3 a0 a1 a2 a3 μ k0 FU 0 _ h hQ)
/-! LongStrikeModel.ruled(I)I -/
def tab_12_ruled : List (Nat × Instr × Nat) := [(0, .iload_n 1, 1), (1, .ifCond .ne 14, 3), (4, .aload_n 0, 1), (5, .iconst 0, 1), (6, .iconst 3, 1), (7, .bipush 50, 2), (9, .invokevirtual 231, 3), (12, .goto 36, 3), (15, .iload_n 1, 1), (16, .iconst 1, 1), (17, .if_icmp .ne 23, 3), (20, .aload_n 0, 1), (21, .iconst 0, 1), (22, .iconst 2, 1), (23, .iconst 0, 1), (24, .invokevirtual 231, 3), (27, .aload_n 0, 1), (28, .iconst 2, 1), (29, .iconst 2, 1), (30, .iconst 0, 1), (31, .invokevirtual 231, 3), (34, .invokestatic 127, 3), (37, .goto 11, 3), (40, .aload_n 0, 1), (41, .iconst 2, 1), (42, .iconst 4, 1), (43, .bipush 12, 2), (45, .invokevirtual 231, 3), (48, .ireturn, 1)]
set_option maxRecDepth 100000 in
theorem dt_12_ruled : ∀ q ∈ tab_12_ruled, decode m_12_ruled.2.1 q.1 = .ok q.2 := by decide +kernel
def f_12_ruled (a0 : Nat) (a1 : Int32) (μ : mm) : Option (Int32) :=
  if a1 = 0 then
    (f_12_firstNumber a0 0 3 50 μ).bind fun x8 =>
    some x8
  else
    if a1 = 1 then
      (f_12_firstNumber a0 0 2 0 μ).bind fun x4 =>
      (f_12_firstNumber a0 2 2 0 μ).bind fun x6 =>
      some (mn x4 x6)
    else
      (f_12_firstNumber a0 2 4 12 μ).bind fun x2 =>
      some x2
set_option maxRecDepth 100000 in
set_option maxHeartbeats 4000000 in
theorem ok_12_ruled {l : Launch} {E : ce} {d : Nat}  {a0 : Nat} {a1 : Int32} {μ : mm} {r : Int32} {Q : Option Value → mm → Prop} (h : f_12_ruled a0 a1 μ = some r) (k0 : kd a0 = 12) (hQ : Q (some (.int r)) μ) : Ct l E (d + 2) yX12_ruled m_12_ruled [.ref a0, .int a1] μ Q := by
  refine Ct_of (lv := [some (.ref a0), some (.int a1)]) (by decide) rfl (Nat.le_of_ble_eq_true rfl) rfl ?_
  unfold f_12_ruled at h
  refine R_iload_n (dd dt_12_ruled 0 rfl) 1 rfl rfl ?_
  refine R_ifne (dd dt_12_ruled 1 rfl) (tgt := 15) rfl (fun hc => ?_) (fun hc => ?_)
  · rw [if_neg hc] at h
    refine R_iload_n (dd dt_12_ruled 8 rfl) 1 rfl rfl ?_
    refine R_iconst (v := 1) (dd dt_12_ruled 9 rfl) ic_1 ?_
    refine R_cmpne (dd dt_12_ruled 10 rfl) (tgt := 40) rfl (fun hc => ?_) (fun hc => ?_)
    · rw [if_neg hc] at h
      refine R_aload_n (dd dt_12_ruled 23 rfl) 0 rfl rfl ?_
      refine R_iconst (v := 2) (dd dt_12_ruled 24 rfl) ic_2 ?_
      refine R_iconst (v := 4) (dd dt_12_ruled 25 rfl) ic_4 ?_
      refine R_bipush (v := 12) (dd dt_12_ruled 26 rfl) bp_12 ?_
      obtain ⟨x2, e1, h⟩ := bi_el h
      refine c_12_231 (As := [.int 2, .int 4, .int 12]) (st1 := [.int x2]) rfl (fun Q1 hq => ok_12_firstNumber e1 k0 hq) k0 rfl rfl (Nat.le_of_ble_eq_true rfl) (dd dt_12_ruled 27 rfl) rfl ?_
      obtain rfl := Option.some.inj h
      exact R_iret rfl (dd dt_12_ruled 28 rfl) hQ
    · rw [if_pos hc] at h
      refine R_aload_n (dd dt_12_ruled 11 rfl) 0 rfl rfl ?_
      refine R_iconst (v := 0) (dd dt_12_ruled 12 rfl) ic_0 ?_
      refine R_iconst (v := 2) (dd dt_12_ruled 13 rfl) ic_2 ?_
      refine R_iconst (v := 0) (dd dt_12_ruled 14 rfl) ic_0 ?_
      obtain ⟨x4, e3, h⟩ := bi_el h
      refine c_12_231 (As := [.int 0, .int 2, .int 0]) (st1 := [.int x4]) rfl (fun Q1 hq => ok_12_firstNumber e3 k0 hq) k0 rfl rfl (Nat.le_of_ble_eq_true rfl) (dd dt_12_ruled 15 rfl) rfl ?_
      refine R_aload_n (dd dt_12_ruled 16 rfl) 0 rfl rfl ?_
      refine R_iconst (v := 2) (dd dt_12_ruled 17 rfl) ic_2 ?_
      refine R_iconst (v := 2) (dd dt_12_ruled 18 rfl) ic_2 ?_
      refine R_iconst (v := 0) (dd dt_12_ruled 19 rfl) ic_0 ?_
      obtain ⟨x6, e5, h⟩ := bi_el h
      refine c_12_231 (As := [.int 2, .int 2, .int 0]) (st1 := [.int x6, .int x4]) rfl (fun Q1 hq => ok_12_firstNumber e5 k0 hq) k0 rfl rfl (Nat.le_of_ble_eq_true rfl) (dd dt_12_ruled 20 rfl) rfl ?_
      refine R_mmin ml_12_127 (Nat.le_of_ble_eq_true rfl) (dd dt_12_ruled 21 rfl) ?_
      refine R_goto (dd dt_12_ruled 22 rfl) (tgt := 48) rfl ?_
      obtain rfl := Option.some.inj h
      exact R_iret rfl (dd dt_12_ruled 28 rfl) hQ
  · rw [if_pos hc] at h
    refine R_aload_n (dd dt_12_ruled 2 rfl) 0 rfl rfl ?_
    refine R_iconst (v := 0) (dd dt_12_ruled 3 rfl) ic_0 ?_
    refine R_iconst (v := 3) (dd dt_12_ruled 4 rfl) ic_3 ?_
    refine R_bipush (v := 50) (dd dt_12_ruled 5 rfl) bp_50 ?_
    obtain ⟨x8, e7, h⟩ := bi_el h
    refine c_12_231 (As := [.int 0, .int 3, .int 50]) (st1 := [.int x8]) rfl (fun Q1 hq => ok_12_firstNumber e7 k0 hq) k0 rfl rfl (Nat.le_of_ble_eq_true rfl) (dd dt_12_ruled 6 rfl) rfl ?_
    refine R_goto (dd dt_12_ruled 7 rfl) (tgt := 48) rfl ?_
    obtain rfl := Option.some.inj h
    exact R_iret rfl (dd dt_12_ruled 28 rfl) hQ
/-! LongStrikeModel.waterBehind(II)I -/
def tab_12_waterBehind : List (Nat × Instr × Nat) := [(0, .iconst 0, 1), (1, .iload_n 2, 1), (2, .aload_n 0, 1), (3, .getfield 9, 3), (6, .iload_n 1, 1), (7, .iconst 2, 1), (8, .invokestatic 92, 3), (11, .iaload, 1), (12, .iadd, 1), (13, .aload_n 0, 1), (14, .getfield 9, 3), (17, .iload_n 1, 1), (18, .iconst 3, 1), (19, .invokestatic 92, 3), (22, .iaload, 1), (23, .aload_n 0, 1), (24, .iconst 1, 1), (25, .invokevirtual 115, 3), (28, .imul, 1), (29, .isub, 1), (30, .invokestatic 118, 3), (33, .ireturn, 1)]
set_option maxRecDepth 100000 in
theorem dt_12_waterBehind : ∀ q ∈ tab_12_waterBehind, decode m_12_waterBehind.2.1 q.1 = .ok q.2 := by decide +kernel
def f_12_waterBehind (a0 : Nat) (a1 : Int32) (a2 : Int32) (μ : mm) : Option (Int32) :=
  (f_12_ofPit a1 2 μ).bind fun x2 =>
  (ld μ (rf a0 0) x2).bind fun x3 =>
  (f_12_ofPit a1 3 μ).bind fun x6 =>
  (ld μ (rf a0 0) x6).bind fun x7 =>
  (f_12_ruled a0 1 μ).bind fun x10 =>
  some (mx 0 ((a2 + x3) - (x7 * x10)))
set_option maxRecDepth 100000 in
set_option maxHeartbeats 4000000 in
theorem ok_12_waterBehind {l : Launch} {E : ce} {d : Nat}  {a0 : Nat} {a1 : Int32} {a2 : Int32} {μ : mm} {r : Int32} {Q : Option Value → mm → Prop} (h : f_12_waterBehind a0 a1 a2 μ = some r) (k0 : kd a0 = 12) (hQ : Q (some (.int r)) μ) : Ct l E (d + 3) yX12_waterBehind m_12_waterBehind [.ref a0, .int a1, .int a2] μ Q := by
  refine Ct_of (lv := [some (.ref a0), some (.int a1), some (.int a2)]) (by decide) rfl (Nat.le_of_ble_eq_true rfl) rfl ?_
  unfold f_12_waterBehind at h
  refine R_iconst (v := 0) (dd dt_12_waterBehind 0 rfl) ic_0 ?_
  refine R_iload_n (dd dt_12_waterBehind 1 rfl) 2 rfl rfl ?_
  refine R_aload_n (dd dt_12_waterBehind 2 rfl) 0 rfl rfl ?_
  refine g_12_9 rfl k0 (dd dt_12_waterBehind 3 rfl) ?_
  refine R_iload_n (dd dt_12_waterBehind 4 rfl) 1 rfl rfl ?_
  refine R_iconst (v := 2) (dd dt_12_waterBehind 5 rfl) ic_2 ?_
  obtain ⟨x2, e1, h⟩ := bi_el h
  refine c_12_92 (As := [.int a1, .int 2]) (st1 := [.int x2, .ref (rf a0 0), .int a2, .int 0]) rfl (fun Q1 hq => ok_12_ofPit e1 hq) rfl rfl (Nat.le_of_ble_eq_true rfl) (dd dt_12_waterBehind 6 rfl) rfl ?_
  obtain ⟨x3, e4, h⟩ := bi_el h
  refine R_ild e4 (ty_12_0 k0) (dd dt_12_waterBehind 7 rfl) ?_
  refine R_iadd (dd dt_12_waterBehind 8 rfl) ?_
  refine R_aload_n (dd dt_12_waterBehind 9 rfl) 0 rfl rfl ?_
  refine g_12_9 rfl k0 (dd dt_12_waterBehind 10 rfl) ?_
  refine R_iload_n (dd dt_12_waterBehind 11 rfl) 1 rfl rfl ?_
  refine R_iconst (v := 3) (dd dt_12_waterBehind 12 rfl) ic_3 ?_
  obtain ⟨x6, e5, h⟩ := bi_el h
  refine c_12_92 (As := [.int a1, .int 3]) (st1 := [.int x6, .ref (rf a0 0), .int (a2 + x3), .int 0]) rfl (fun Q1 hq => ok_12_ofPit e5 hq) rfl rfl (Nat.le_of_ble_eq_true rfl) (dd dt_12_waterBehind 13 rfl) rfl ?_
  obtain ⟨x7, e8, h⟩ := bi_el h
  refine R_ild e8 (ty_12_0 k0) (dd dt_12_waterBehind 14 rfl) ?_
  refine R_aload_n (dd dt_12_waterBehind 15 rfl) 0 rfl rfl ?_
  refine R_iconst (v := 1) (dd dt_12_waterBehind 16 rfl) ic_1 ?_
  obtain ⟨x10, e9, h⟩ := bi_el h
  refine c_12_115 (As := [.int 1]) (st1 := [.int x10, .int x7, .int (a2 + x3), .int 0]) rfl (fun Q1 hq => ok_12_ruled e9 k0 hq) k0 rfl rfl (Nat.le_of_ble_eq_true rfl) (dd dt_12_waterBehind 17 rfl) rfl ?_
  refine R_imul (dd dt_12_waterBehind 18 rfl) ?_
  refine R_isub (dd dt_12_waterBehind 19 rfl) ?_
  refine R_mmax ml_12_118 (Nat.le_of_ble_eq_true rfl) (dd dt_12_waterBehind 20 rfl) ?_
  obtain rfl := Option.some.inj h
  exact R_iret rfl (dd dt_12_waterBehind 21 rfl) hQ
/-! LongStrikeModel.pitOf(II)I -/
def tab_12_pitOf : List (Nat × Instr × Nat) := [(0, .aload_n 0, 1), (1, .iload_n 1, 1), (2, .bipush 9, 2), (4, .invokevirtual 84, 3), (7, .ifCond .eq 12, 3), (10, .iload_n 2, 1), (11, .iconst 0, 1), (12, .iconst 4, 1), (13, .invokestatic 80, 3), (16, .ifCond .ne 5, 3), (19, .iconst (-1), 1), (20, .ireturn, 1), (21, .iload_n 2, 1), (22, .iconst 4, 1), (23, .if_icmp .ge 41, 3), (26, .aload_n 0, 1), (27, .getfield 9, 3), (30, .iload_n 1, 1), (31, .iload_n 2, 1), (32, .ifCond .ne 7, 3), (35, .iconst 0, 1), (36, .goto 23, 3), (39, .iload_n 2, 1), (40, .iconst 1, 1), (41, .if_icmp .ne 7, 3), (44, .iconst 1, 1), (45, .goto 14, 3), (48, .iload_n 2, 1), (49, .iconst 2, 1), (50, .if_icmp .ne 7, 3), (53, .iconst 5, 1), (54, .goto 5, 3), (57, .bipush 6, 2), (59, .invokestatic 92, 3), (62, .iaload, 1), (63, .ireturn, 1), (64, .iconst 0, 1), (65, .istore_n 3, 1), (66, .aload_n 0, 1), (67, .iload_n 1, 1), (68, .aload_n 0, 1), (69, .getfield 9, 3), (72, .iload_n 1, 1), (73, .iconst 1, 1), (74, .invokestatic 92, 3), (77, .iaload, 1), (78, .invokevirtual 123, 3), (81, .istore 4, 2), (83, .aload_n 0, 1), (84, .getfield 9, 3), (87, .iload_n 1, 1), (88, .iconst 5, 1), (89, .invokestatic 92, 3), (92, .iaload, 1), (93, .bipush (-3), 2), (95, .if_icmp .ne 40, 3), (98, .iload_n 3, 1), (99, .sipush 500, 3), (102, .if_icmp .ge 33, 3), (105, .iload 4, 2), (107, .aload_n 0, 1), (108, .getfield 9, 3), (111, .iload_n 1, 1), (112, .iconst 4, 1), (113, .invokestatic 92, 3), (116, .iaload, 1), (117, .if_icmp .gt 18, 3), (120, .iinc 3 1, 3), (123, .aload_n 0, 1), (124, .iload_n 1, 1), (125, .iload 4, 2), (127, .invokevirtual 123, 3), (130, .istore 4, 2), (132, .goto (-49), 3), (135, .iload_n 3, 1), (136, .ireturn, 1)]
set_option maxRecDepth 100000 in
theorem dt_12_pitOf : ∀ q ∈ tab_12_pitOf, decode m_12_pitOf.2.1 q.1 = .ok q.2 := by decide +kernel
def f_12_pitOf_l83 (a0 : Nat) (a1 : Int32) (μ : mm) : Nat → Int32 → Int32 → Option (Int32)
  | 0, _, _ => none
  | n + 1, v3, v4 => (f_12_ofPit a1 5 μ).bind fun x2 =>
    (ld μ (rf a0 0) x2).bind fun x3 =>
    if x3 = (-3) then
      if 500 ≤ v3 then
        some v3
      else
        (f_12_ofPit a1 4 μ).bind fun x6 =>
        (ld μ (rf a0 0) x6).bind fun x7 =>
        if x7 < v4 then
          some v3
        else
          (f_12_waterBehind a0 a1 v4 μ).bind fun x10 =>
          f_12_pitOf_l83 a0 a1 μ n (v3 + 1) x10
    else
      some v3
set_option maxRecDepth 100000 in
theorem ok_12_pitOf_l83 {l : Launch} {E : ce} {d : Nat} {Q : Option Value → mm → Prop} (a0 : Nat) (a1 : Int32) (μ : mm) (k0 : kd a0 = 12) : ∀ (n : Nat) (v3 : Int32) (v4 : Int32) (z : Int32), f_12_pitOf_l83 a0 a1 μ n v3 v4 = some z → Rj l E (d + 4) m_12_pitOf 135 [none, none, none, some (.int z), none] [] μ Q → Rj l E (d + 4) m_12_pitOf 83 [some (.ref a0), some (.int a1), none, some (.int v3), some (.int v4)] [] μ Q
  | 0, _, _, z, h, _ => by
    rw [f_12_pitOf_l83] at h
    cases h
  | n + 1, v3, v4, z, h, KX => by
    rw [f_12_pitOf_l83] at h
    refine R_aload_n (dd dt_12_pitOf 48 rfl) 0 rfl rfl ?_
    refine g_12_9 rfl k0 (dd dt_12_pitOf 49 rfl) ?_
    refine R_iload_n (dd dt_12_pitOf 50 rfl) 1 rfl rfl ?_
    refine R_iconst (v := 5) (dd dt_12_pitOf 51 rfl) ic_5 ?_
    obtain ⟨x2, e1, h⟩ := bi_el h
    refine c_12_92 (As := [.int a1, .int 5]) (st1 := [.int x2, .ref (rf a0 0)]) rfl (fun Q1 hq => ok_12_ofPit e1 hq) rfl rfl (Nat.le_of_ble_eq_true rfl) (dd dt_12_pitOf 52 rfl) rfl ?_
    obtain ⟨x3, e4, h⟩ := bi_el h
    refine R_ild e4 (ty_12_0 k0) (dd dt_12_pitOf 53 rfl) ?_
    refine R_bipush (v := (-3)) (dd dt_12_pitOf 54 rfl) bp_m3 ?_
    refine R_cmpne (dd dt_12_pitOf 55 rfl) (tgt := 135) rfl (fun hc => ?_) (fun hc => ?_)
    · rw [if_neg hc] at h
      obtain rfl := Option.some.inj h
      exact R_mask [false, false, false, true, false] rfl KX
    · rw [if_pos hc] at h
      refine R_iload_n (dd dt_12_pitOf 56 rfl) 3 rfl rfl ?_
      refine R_sipush (v := 500) (dd dt_12_pitOf 57 rfl) sp_500 ?_
      refine R_cmpge (dd dt_12_pitOf 58 rfl) (tgt := 135) rfl (fun hc => ?_) (fun hc => ?_)
      · rw [if_pos hc] at h
        obtain rfl := Option.some.inj h
        exact R_mask [false, false, false, true, false] rfl KX
      · rw [if_neg hc] at h
        refine R_iload (dd dt_12_pitOf 59 rfl) rfl ?_
        refine R_aload_n (dd dt_12_pitOf 60 rfl) 0 rfl rfl ?_
        refine g_12_9 rfl k0 (dd dt_12_pitOf 61 rfl) ?_
        refine R_iload_n (dd dt_12_pitOf 62 rfl) 1 rfl rfl ?_
        refine R_iconst (v := 4) (dd dt_12_pitOf 63 rfl) ic_4 ?_
        obtain ⟨x6, e5, h⟩ := bi_el h
        refine c_12_92 (As := [.int a1, .int 4]) (st1 := [.int x6, .ref (rf a0 0), .int v4]) rfl (fun Q1 hq => ok_12_ofPit e5 hq) rfl rfl (Nat.le_of_ble_eq_true rfl) (dd dt_12_pitOf 64 rfl) rfl ?_
        obtain ⟨x7, e8, h⟩ := bi_el h
        refine R_ild e8 (ty_12_0 k0) (dd dt_12_pitOf 65 rfl) ?_
        refine R_cmpgt (dd dt_12_pitOf 66 rfl) (tgt := 135) rfl (fun hc => ?_) (fun hc => ?_)
        · rw [if_pos hc] at h
          obtain rfl := Option.some.inj h
          exact R_mask [false, false, false, true, false] rfl KX
        · rw [if_neg hc] at h
          refine R_iinc (v := 1) (lv' := [some (.ref a0), some (.int a1), none, some (.int (v3 + 1)), some (.int v4)]) (dd dt_12_pitOf 67 rfl) (by decide) rfl rfl ic_1 rfl ?_
          refine R_aload_n (dd dt_12_pitOf 68 rfl) 0 rfl rfl ?_
          refine R_iload_n (dd dt_12_pitOf 69 rfl) 1 rfl rfl ?_
          refine R_iload (dd dt_12_pitOf 70 rfl) rfl ?_
          obtain ⟨x10, e9, h⟩ := bi_el h
          refine c_12_123 (As := [.int a1, .int v4]) (st1 := [.int x10]) rfl (fun Q1 hq => ok_12_waterBehind e9 k0 hq) k0 rfl rfl (Nat.le_of_ble_eq_true rfl) (dd dt_12_pitOf 71 rfl) rfl ?_
          refine R_istore (lv' := [some (.ref a0), some (.int a1), none, some (.int (v3 + 1)), some (.int x10)]) (dd dt_12_pitOf 72 rfl) (by decide) rfl rfl ?_
          refine R_goto (dd dt_12_pitOf 73 rfl) (tgt := 83) rfl ?_
          exact R_mask [true, true, false, true, true] rfl (ok_12_pitOf_l83 a0 a1 μ k0 n (v3 + 1) x10 _ h KX)
def f_12_pitOf (a0 : Nat) (a1 : Int32) (a2 : Int32) (μ : mm) : Option (Int32) :=
  (f_12_is a0 a1 9 μ).bind fun x2 =>
  if x2 = 0 then
    some (-1)
  else
    (f_12_within a2 0 4 μ).bind fun x4 =>
    if x4 = 0 then
      some (-1)
    else
      if 4 ≤ a2 then
        (f_12_ofPit a1 1 μ).bind fun x6 =>
        (ld μ (rf a0 0) x6).bind fun x7 =>
        (f_12_waterBehind a0 a1 x7 μ).bind fun x10 =>
        (f_12_pitOf_l83 a0 a1 μ FU 0 x10).bind fun z11 =>
        some z11
      else
        (if a2 = 0 then
            some 0
          else
            if a2 = 1 then
              some 1
            else
              if a2 = 2 then
                some 5
              else
                some 6).bind fun (z13 : Int32) =>
        (f_12_ofPit a1 z13 μ).bind fun x15 =>
        (ld μ (rf a0 0) x15).bind fun x16 =>
        some x16
set_option maxRecDepth 100000 in
set_option maxHeartbeats 4000000 in
theorem ok_12_pitOf {l : Launch} {E : ce} {d : Nat}  {a0 : Nat} {a1 : Int32} {a2 : Int32} {μ : mm} {r : Int32} {Q : Option Value → mm → Prop} (h : f_12_pitOf a0 a1 a2 μ = some r) (k0 : kd a0 = 12) (hQ : Q (some (.int r)) μ) : Ct l E (d + 4) yX12_pitOf m_12_pitOf [.ref a0, .int a1, .int a2] μ Q := by
  refine Ct_of (lv := [some (.ref a0), some (.int a1), some (.int a2), none, none]) (by decide) rfl (Nat.le_of_ble_eq_true rfl) rfl ?_
  unfold f_12_pitOf at h
  refine R_aload_n (dd dt_12_pitOf 0 rfl) 0 rfl rfl ?_
  refine R_iload_n (dd dt_12_pitOf 1 rfl) 1 rfl rfl ?_
  refine R_bipush (v := 9) (dd dt_12_pitOf 2 rfl) bp_9 ?_
  obtain ⟨x2, e1, h⟩ := bi_el h
  refine c_12_84 (As := [.int a1, .int 9]) (st1 := [.int x2]) rfl (fun Q1 hq => ok_12_is e1 k0 hq) k0 rfl rfl (Nat.le_of_ble_eq_true rfl) (dd dt_12_pitOf 3 rfl) rfl ?_
  refine R_ifeq (dd dt_12_pitOf 4 rfl) (tgt := 19) rfl (fun hc => ?_) (fun hc => ?_)
  · rw [if_pos hc] at h
    refine R_iconst (v := (-1)) (dd dt_12_pitOf 10 rfl) ic_m1 ?_
    obtain rfl := Option.some.inj h
    exact R_iret rfl (dd dt_12_pitOf 11 rfl) hQ
  · rw [if_neg hc] at h
    refine R_iload_n (dd dt_12_pitOf 5 rfl) 2 rfl rfl ?_
    refine R_iconst (v := 0) (dd dt_12_pitOf 6 rfl) ic_0 ?_
    refine R_iconst (v := 4) (dd dt_12_pitOf 7 rfl) ic_4 ?_
    obtain ⟨x4, e3, h⟩ := bi_el h
    refine c_12_80 (As := [.int a2, .int 0, .int 4]) (st1 := [.int x4]) rfl (fun Q1 hq => ok_12_within e3 hq) rfl rfl (Nat.le_of_ble_eq_true rfl) (dd dt_12_pitOf 8 rfl) rfl ?_
    refine R_ifne (dd dt_12_pitOf 9 rfl) (tgt := 21) rfl (fun hc => ?_) (fun hc => ?_)
    · rw [if_neg hc] at h
      refine R_iload_n (dd dt_12_pitOf 12 rfl) 2 rfl rfl ?_
      refine R_iconst (v := 4) (dd dt_12_pitOf 13 rfl) ic_4 ?_
      refine R_cmpge (dd dt_12_pitOf 14 rfl) (tgt := 64) rfl (fun hc => ?_) (fun hc => ?_)
      · rw [if_pos hc] at h
        refine R_iconst (v := 0) (dd dt_12_pitOf 36 rfl) ic_0 ?_
        refine R_istore_n (lv' := [some (.ref a0), some (.int a1), some (.int a2), some (.int 0), none]) (dd dt_12_pitOf 37 rfl) 3 rfl (by decide) rfl rfl ?_
        refine R_aload_n (dd dt_12_pitOf 38 rfl) 0 rfl rfl ?_
        refine R_iload_n (dd dt_12_pitOf 39 rfl) 1 rfl rfl ?_
        refine R_aload_n (dd dt_12_pitOf 40 rfl) 0 rfl rfl ?_
        refine g_12_9 rfl k0 (dd dt_12_pitOf 41 rfl) ?_
        refine R_iload_n (dd dt_12_pitOf 42 rfl) 1 rfl rfl ?_
        refine R_iconst (v := 1) (dd dt_12_pitOf 43 rfl) ic_1 ?_
        obtain ⟨x6, e5, h⟩ := bi_el h
        refine c_12_92 (As := [.int a1, .int 1]) (st1 := [.int x6, .ref (rf a0 0), .int a1, .ref a0]) rfl (fun Q1 hq => ok_12_ofPit e5 hq) rfl rfl (Nat.le_of_ble_eq_true rfl) (dd dt_12_pitOf 44 rfl) rfl ?_
        obtain ⟨x7, e8, h⟩ := bi_el h
        refine R_ild e8 (ty_12_0 k0) (dd dt_12_pitOf 45 rfl) ?_
        obtain ⟨x10, e9, h⟩ := bi_el h
        refine c_12_123 (As := [.int a1, .int x7]) (st1 := [.int x10]) rfl (fun Q1 hq => ok_12_waterBehind e9 k0 hq) k0 rfl rfl (Nat.le_of_ble_eq_true rfl) (dd dt_12_pitOf 46 rfl) rfl ?_
        refine R_istore (lv' := [some (.ref a0), some (.int a1), some (.int a2), some (.int 0), some (.int x10)]) (dd dt_12_pitOf 47 rfl) (by decide) rfl rfl ?_
        obtain ⟨z11, e12, h⟩ := bi_el h
        refine R_mask [true, true, false, true, true] rfl (ok_12_pitOf_l83 a0 a1 μ k0 FU 0 x10 _ e12 ?_)
        refine R_iload_n (dd dt_12_pitOf 74 rfl) 3 rfl rfl ?_
        obtain rfl := Option.some.inj h
        exact R_iret rfl (dd dt_12_pitOf 75 rfl) hQ
      · rw [if_neg hc] at h
        refine R_aload_n (dd dt_12_pitOf 15 rfl) 0 rfl rfl ?_
        refine g_12_9 rfl k0 (dd dt_12_pitOf 16 rfl) ?_
        refine R_iload_n (dd dt_12_pitOf 17 rfl) 1 rfl rfl ?_
        refine R_iload_n (dd dt_12_pitOf 18 rfl) 2 rfl rfl ?_
        obtain ⟨z13, hz13, h⟩ := bi_el h
        have K13 : Rj l E (d + 4) m_12_pitOf 59 [none, none, none, none, none] [.int z13, .int a1, .ref (rf a0 0)] μ Q := by
          clear hz13
          obtain ⟨x15, e14, h⟩ := bi_el h
          refine c_12_92 (As := [.int a1, .int z13]) (st1 := [.int x15, .ref (rf a0 0)]) rfl (fun Q1 hq => ok_12_ofPit e14 hq) rfl rfl (Nat.le_of_ble_eq_true rfl) (dd dt_12_pitOf 33 rfl) rfl ?_
          obtain ⟨x16, e17, h⟩ := bi_el h
          refine R_ild e17 (ty_12_0 k0) (dd dt_12_pitOf 34 rfl) ?_
          obtain rfl := Option.some.inj h
          exact R_iret rfl (dd dt_12_pitOf 35 rfl) hQ
        clear h
        have h := hz13
        clear hz13
        refine R_ifne (dd dt_12_pitOf 19 rfl) (tgt := 39) rfl (fun hc => ?_) (fun hc => ?_)
        · rw [if_neg hc] at h
          refine R_iload_n (dd dt_12_pitOf 22 rfl) 2 rfl rfl ?_
          refine R_iconst (v := 1) (dd dt_12_pitOf 23 rfl) ic_1 ?_
          refine R_cmpne (dd dt_12_pitOf 24 rfl) (tgt := 48) rfl (fun hc => ?_) (fun hc => ?_)
          · rw [if_neg hc] at h
            refine R_iload_n (dd dt_12_pitOf 27 rfl) 2 rfl rfl ?_
            refine R_iconst (v := 2) (dd dt_12_pitOf 28 rfl) ic_2 ?_
            refine R_cmpne (dd dt_12_pitOf 29 rfl) (tgt := 57) rfl (fun hc => ?_) (fun hc => ?_)
            · rw [if_neg hc] at h
              refine R_bipush (v := 6) (dd dt_12_pitOf 32 rfl) bp_6 ?_
              obtain rfl := Option.some.inj h
              exact R_mask [false, false, false, false, false] rfl K13
            · rw [if_pos hc] at h
              refine R_iconst (v := 5) (dd dt_12_pitOf 30 rfl) ic_5 ?_
              refine R_goto (dd dt_12_pitOf 31 rfl) (tgt := 59) rfl ?_
              obtain rfl := Option.some.inj h
              exact R_mask [false, false, false, false, false] rfl K13
          · rw [if_pos hc] at h
            refine R_iconst (v := 1) (dd dt_12_pitOf 25 rfl) ic_1 ?_
            refine R_goto (dd dt_12_pitOf 26 rfl) (tgt := 59) rfl ?_
            obtain rfl := Option.some.inj h
            exact R_mask [false, false, false, false, false] rfl K13
        · rw [if_pos hc] at h
          refine R_iconst (v := 0) (dd dt_12_pitOf 20 rfl) ic_0 ?_
          refine R_goto (dd dt_12_pitOf 21 rfl) (tgt := 59) rfl ?_
          obtain rfl := Option.some.inj h
          exact R_mask [false, false, false, false, false] rfl K13
    · rw [if_pos hc] at h
      refine R_iconst (v := (-1)) (dd dt_12_pitOf 10 rfl) ic_m1 ?_
      obtain rfl := Option.some.inj h
      exact R_iret rfl (dd dt_12_pitOf 11 rfl) hQ
/-! LongStrikeModel.shopOf(II)I -/
def tab_12_shopOf : List (Nat × Instr × Nat) := [(0, .aload_n 0, 1), (1, .iload_n 1, 1), (2, .bipush 10, 2), (4, .invokevirtual 84, 3), (7, .ifCond .eq 12, 3), (10, .iload_n 2, 1), (11, .iconst 0, 1), (12, .iconst 2, 1), (13, .invokestatic 80, 3), (16, .ifCond .ne 7, 3), (19, .iconst (-1), 1), (20, .goto 13, 3), (23, .aload_n 0, 1), (24, .getfield 9, 3), (27, .iload_n 1, 1), (28, .iload_n 2, 1), (29, .invokestatic 95, 3), (32, .iaload, 1), (33, .ireturn, 1)]
set_option maxRecDepth 100000 in
theorem dt_12_shopOf : ∀ q ∈ tab_12_shopOf, decode m_12_shopOf.2.1 q.1 = .ok q.2 := by decide +kernel
def f_12_shopOf (a0 : Nat) (a1 : Int32) (a2 : Int32) (μ : mm) : Option (Int32) :=
  (f_12_is a0 a1 10 μ).bind fun x2 =>
  if x2 = 0 then
    some (-1)
  else
    (f_12_within a2 0 2 μ).bind fun x4 =>
    if x4 = 0 then
      some (-1)
    else
      (f_12_ofShop a1 a2 μ).bind fun x6 =>
      (ld μ (rf a0 0) x6).bind fun x7 =>
      some x7
set_option maxRecDepth 100000 in
set_option maxHeartbeats 4000000 in
theorem ok_12_shopOf {l : Launch} {E : ce} {d : Nat}  {a0 : Nat} {a1 : Int32} {a2 : Int32} {μ : mm} {r : Int32} {Q : Option Value → mm → Prop} (h : f_12_shopOf a0 a1 a2 μ = some r) (k0 : kd a0 = 12) (hQ : Q (some (.int r)) μ) : Ct l E (d + 2) yX12_shopOf m_12_shopOf [.ref a0, .int a1, .int a2] μ Q := by
  refine Ct_of (lv := [some (.ref a0), some (.int a1), some (.int a2)]) (by decide) rfl (Nat.le_of_ble_eq_true rfl) rfl ?_
  unfold f_12_shopOf at h
  refine R_aload_n (dd dt_12_shopOf 0 rfl) 0 rfl rfl ?_
  refine R_iload_n (dd dt_12_shopOf 1 rfl) 1 rfl rfl ?_
  refine R_bipush (v := 10) (dd dt_12_shopOf 2 rfl) bp_10 ?_
  obtain ⟨x2, e1, h⟩ := bi_el h
  refine c_12_84 (As := [.int a1, .int 10]) (st1 := [.int x2]) rfl (fun Q1 hq => ok_12_is e1 k0 hq) k0 rfl rfl (Nat.le_of_ble_eq_true rfl) (dd dt_12_shopOf 3 rfl) rfl ?_
  refine R_ifeq (dd dt_12_shopOf 4 rfl) (tgt := 19) rfl (fun hc => ?_) (fun hc => ?_)
  · rw [if_pos hc] at h
    refine R_iconst (v := (-1)) (dd dt_12_shopOf 10 rfl) ic_m1 ?_
    refine R_goto (dd dt_12_shopOf 11 rfl) (tgt := 33) rfl ?_
    obtain rfl := Option.some.inj h
    exact R_iret rfl (dd dt_12_shopOf 18 rfl) hQ
  · rw [if_neg hc] at h
    refine R_iload_n (dd dt_12_shopOf 5 rfl) 2 rfl rfl ?_
    refine R_iconst (v := 0) (dd dt_12_shopOf 6 rfl) ic_0 ?_
    refine R_iconst (v := 2) (dd dt_12_shopOf 7 rfl) ic_2 ?_
    obtain ⟨x4, e3, h⟩ := bi_el h
    refine c_12_80 (As := [.int a2, .int 0, .int 2]) (st1 := [.int x4]) rfl (fun Q1 hq => ok_12_within e3 hq) rfl rfl (Nat.le_of_ble_eq_true rfl) (dd dt_12_shopOf 8 rfl) rfl ?_
    refine R_ifne (dd dt_12_shopOf 9 rfl) (tgt := 23) rfl (fun hc => ?_) (fun hc => ?_)
    · rw [if_neg hc] at h
      refine R_aload_n (dd dt_12_shopOf 12 rfl) 0 rfl rfl ?_
      refine g_12_9 rfl k0 (dd dt_12_shopOf 13 rfl) ?_
      refine R_iload_n (dd dt_12_shopOf 14 rfl) 1 rfl rfl ?_
      refine R_iload_n (dd dt_12_shopOf 15 rfl) 2 rfl rfl ?_
      obtain ⟨x6, e5, h⟩ := bi_el h
      refine c_12_95 (As := [.int a1, .int a2]) (st1 := [.int x6, .ref (rf a0 0)]) rfl (fun Q1 hq => ok_12_ofShop e5 hq) rfl rfl (Nat.le_of_ble_eq_true rfl) (dd dt_12_shopOf 16 rfl) rfl ?_
      obtain ⟨x7, e8, h⟩ := bi_el h
      refine R_ild e8 (ty_12_0 k0) (dd dt_12_shopOf 17 rfl) ?_
      obtain rfl := Option.some.inj h
      exact R_iret rfl (dd dt_12_shopOf 18 rfl) hQ
    · rw [if_pos hc] at h
      refine R_iconst (v := (-1)) (dd dt_12_shopOf 10 rfl) ic_m1 ?_
      refine R_goto (dd dt_12_shopOf 11 rfl) (tgt := 33) rfl ?_
      obtain rfl := Option.some.inj h
      exact R_iret rfl (dd dt_12_shopOf 18 rfl) hQ
/-! LongStrikeModel.set(II)I -/
def tab_12_set : List (Nat × Instr × Nat) := [(0, .iload_n 1, 1), (1, .bipush 10, 2), (3, .if_icmp .lt 20, 3), (6, .aload_n 0, 1), (7, .iload_n 1, 1), (8, .bipush 10, 2), (10, .isub, 1), (11, .bipush 9, 2), (13, .invokevirtual 84, 3), (16, .ifCond .eq 7, 3), (19, .iconst 1, 1), (20, .goto 4, 3), (23, .iconst 0, 1), (24, .istore_n 3, 1), (25, .iload_n 1, 1), (26, .ifCond .ne 7, 3), (29, .iconst 1, 1), (30, .goto 27, 3), (33, .iload_n 1, 1), (34, .iconst 1, 1), (35, .if_icmp .ne 9, 3), (38, .sipush 999, 3), (41, .goto 16, 3), (44, .iload_n 1, 1), (45, .iconst 2, 1), (46, .if_icmp .ne 8, 3), (49, .bipush 9, 2), (51, .goto 6, 3), (54, .sipush 900, 3), (57, .istore 4, 2), (59, .iload_n 3, 1), (60, .ifCond .ne 12, 3), (63, .iload_n 1, 1), (64, .iconst 0, 1), (65, .iconst 2, 1), (66, .invokestatic 80, 3), (69, .ifCond .eq 13, 3), (72, .iload_n 2, 1), (73, .iconst 0, 1), (74, .iload 4, 2), (76, .invokestatic 80, 3), (79, .ifCond .ne 5, 3), (82, .iconst (-1), 1), (83, .ireturn, 1), (84, .iload_n 3, 1), (85, .ifCond .eq 15, 3), (88, .iload_n 1, 1), (89, .bipush 10, 2), (91, .isub, 1), (92, .bipush 6, 2), (94, .invokestatic 92, 3), (97, .goto 21, 3), (100, .iload_n 1, 1), (101, .ifCond .ne 7, 3), (104, .iconst 3, 1), (105, .goto 13, 3), (108, .iload_n 1, 1), (109, .iconst 1, 1), (110, .if_icmp .ne 7, 3), (113, .iconst 4, 1), (114, .goto 4, 3), (117, .iconst 5, 1), (118, .istore 5, 2), (120, .aload_n 0, 1), (121, .getfield 9, 3), (124, .iload 5, 2), (126, .iaload, 1), (127, .istore 6, 2), (129, .aload_n 0, 1), (130, .getfield 9, 3), (133, .iload 5, 2), (135, .iload_n 2, 1), (136, .iastore, 1), (137, .iload 6, 2), (139, .ireturn, 1)]
set_option maxRecDepth 100000 in
theorem dt_12_set : ∀ q ∈ tab_12_set, decode m_12_set.2.1 q.1 = .ok q.2 := by decide +kernel
def f_12_set_b72 (a0 : Nat) (a1 : Int32) (a2 : Int32) (a3 : Int32) (a4 : Int32) (μ : mm) : Option (Int32 × mm) :=
  (f_12_within a2 0 a4 μ).bind fun x2 =>
  if x2 = 0 then
    some ((-1), μ)
  else
    (if a3 = 0 then
        if a1 = 0 then
          some 3
        else
          if a1 = 1 then
            some 4
          else
            some 5
      else
        (f_12_ofPit (a1 - 10) 6 μ).bind fun x4 =>
        some x4).bind fun (z5 : Int32) =>
    (ld μ (rf a0 0) z5).bind fun x6 =>
    (sto μ (rf a0 0) z5 a2).bind fun μ8 =>
    some (x6, μ8)
set_option maxRecDepth 100000 in
set_option maxHeartbeats 4000000 in
theorem ok_12_set_b72 {l : Launch} {E : ce} {d : Nat}  {a0 : Nat} {a1 : Int32} {a2 : Int32} {a3 : Int32} {a4 : Int32} {μ : mm} {r : Int32 × mm} {Q : Option Value → mm → Prop} (h : f_12_set_b72 a0 a1 a2 a3 a4 μ = some r) (k0 : kd a0 = 12) (hQ : Q (some (.int r.1)) r.2) : Rj l E (d + 2) m_12_set 72 [some (.ref a0), some (.int a1), some (.int a2), some (.int a3), some (.int a4), none, none] [] μ Q := by
  unfold f_12_set_b72 at h
  refine R_iload_n (dd dt_12_set 37 rfl) 2 rfl rfl ?_
  refine R_iconst (v := 0) (dd dt_12_set 38 rfl) ic_0 ?_
  refine R_iload (dd dt_12_set 39 rfl) rfl ?_
  obtain ⟨x2, e1, h⟩ := bi_el h
  refine c_12_80 (As := [.int a2, .int 0, .int a4]) (st1 := [.int x2]) rfl (fun Q1 hq => ok_12_within e1 hq) rfl rfl (Nat.le_of_ble_eq_true rfl) (dd dt_12_set 40 rfl) rfl ?_
  refine R_ifne (dd dt_12_set 41 rfl) (tgt := 84) rfl (fun hc => ?_) (fun hc => ?_)
  · rw [if_neg hc] at h
    refine R_iload_n (dd dt_12_set 44 rfl) 3 rfl rfl ?_
    obtain ⟨z5, hz5, h⟩ := bi_el h
    have K5 : Rj l E (d + 2) m_12_set 118 [some (.ref a0), none, some (.int a2), none, none, none, none] [.int z5] μ Q := by
      clear hz5
      refine R_istore (lv' := [some (.ref a0), none, some (.int a2), none, none, some (.int z5), none]) (dd dt_12_set 62 rfl) (by decide) rfl rfl ?_
      refine R_aload_n (dd dt_12_set 63 rfl) 0 rfl rfl ?_
      refine g_12_9 rfl k0 (dd dt_12_set 64 rfl) ?_
      refine R_iload (dd dt_12_set 65 rfl) rfl ?_
      obtain ⟨x6, e7, h⟩ := bi_el h
      refine R_ild e7 (ty_12_0 k0) (dd dt_12_set 66 rfl) ?_
      refine R_istore (lv' := [some (.ref a0), none, some (.int a2), none, none, some (.int z5), some (.int x6)]) (dd dt_12_set 67 rfl) (by decide) rfl rfl ?_
      refine R_aload_n (dd dt_12_set 68 rfl) 0 rfl rfl ?_
      refine g_12_9 rfl k0 (dd dt_12_set 69 rfl) ?_
      refine R_iload (dd dt_12_set 70 rfl) rfl ?_
      refine R_iload_n (dd dt_12_set 71 rfl) 2 rfl rfl ?_
      obtain ⟨μ8, e9, h⟩ := bi_el h
      refine R_isto e9 (ty_12_0 k0) (dd dt_12_set 72 rfl) ?_
      refine R_iload (dd dt_12_set 73 rfl) rfl ?_
      obtain rfl := Option.some.inj h
      exact R_iret rfl (dd dt_12_set 74 rfl) hQ
    clear h
    have h := hz5
    clear hz5
    refine R_ifeq (dd dt_12_set 45 rfl) (tgt := 100) rfl (fun hc => ?_) (fun hc => ?_)
    · rw [if_pos hc] at h
      refine R_iload_n (dd dt_12_set 52 rfl) 1 rfl rfl ?_
      refine R_ifne (dd dt_12_set 53 rfl) (tgt := 108) rfl (fun hc => ?_) (fun hc => ?_)
      · rw [if_neg hc] at h
        refine R_iload_n (dd dt_12_set 56 rfl) 1 rfl rfl ?_
        refine R_iconst (v := 1) (dd dt_12_set 57 rfl) ic_1 ?_
        refine R_cmpne (dd dt_12_set 58 rfl) (tgt := 117) rfl (fun hc => ?_) (fun hc => ?_)
        · rw [if_neg hc] at h
          refine R_iconst (v := 5) (dd dt_12_set 61 rfl) ic_5 ?_
          obtain rfl := Option.some.inj h
          exact R_mask [true, false, true, false, false, false, false] rfl K5
        · rw [if_pos hc] at h
          refine R_iconst (v := 4) (dd dt_12_set 59 rfl) ic_4 ?_
          refine R_goto (dd dt_12_set 60 rfl) (tgt := 118) rfl ?_
          obtain rfl := Option.some.inj h
          exact R_mask [true, false, true, false, false, false, false] rfl K5
      · rw [if_pos hc] at h
        refine R_iconst (v := 3) (dd dt_12_set 54 rfl) ic_3 ?_
        refine R_goto (dd dt_12_set 55 rfl) (tgt := 118) rfl ?_
        obtain rfl := Option.some.inj h
        exact R_mask [true, false, true, false, false, false, false] rfl K5
    · rw [if_neg hc] at h
      refine R_iload_n (dd dt_12_set 46 rfl) 1 rfl rfl ?_
      refine R_bipush (v := 10) (dd dt_12_set 47 rfl) bp_10 ?_
      refine R_isub (dd dt_12_set 48 rfl) ?_
      refine R_bipush (v := 6) (dd dt_12_set 49 rfl) bp_6 ?_
      obtain ⟨x4, e3, h⟩ := bi_el h
      refine c_12_92 (As := [.int (a1 - 10), .int 6]) (st1 := [.int x4]) rfl (fun Q1 hq => ok_12_ofPit e3 hq) rfl rfl (Nat.le_of_ble_eq_true rfl) (dd dt_12_set 50 rfl) rfl ?_
      refine R_goto (dd dt_12_set 51 rfl) (tgt := 118) rfl ?_
      obtain rfl := Option.some.inj h
      exact R_mask [true, false, true, false, false, false, false] rfl K5
  · rw [if_pos hc] at h
    refine R_iconst (v := (-1)) (dd dt_12_set 42 rfl) ic_m1 ?_
    obtain rfl := Option.some.inj h
    exact R_iret rfl (dd dt_12_set 43 rfl) hQ
def f_12_set (a0 : Nat) (a1 : Int32) (a2 : Int32) (μ : mm) : Option (Int32 × mm) :=
  (if a1 < 10 then
      some 0
    else
      (f_12_is a0 (a1 - 10) 9 μ).bind fun x2 =>
      if x2 = 0 then
        some 0
      else
        some 1).bind fun (z3 : Int32) =>
  (if a1 = 0 then
      some 1
    else
      if a1 = 1 then
        some 999
      else
        if a1 = 2 then
          some 9
        else
          some 900).bind fun (z4 : Int32) =>
  if z3 = 0 then
    (f_12_within a1 0 2 μ).bind fun x6 =>
    if x6 = 0 then
      some ((-1), μ)
    else
      f_12_set_b72 a0 a1 a2 z3 z4 μ
  else
    f_12_set_b72 a0 a1 a2 z3 z4 μ
set_option maxRecDepth 100000 in
set_option maxHeartbeats 4000000 in
theorem ok_12_set {l : Launch} {E : ce} {d : Nat}  {a0 : Nat} {a1 : Int32} {a2 : Int32} {μ : mm} {r : Int32 × mm} {Q : Option Value → mm → Prop} (h : f_12_set a0 a1 a2 μ = some r) (k0 : kd a0 = 12) (hQ : Q (some (.int r.1)) r.2) : Ct l E (d + 2) yX12_set m_12_set [.ref a0, .int a1, .int a2] μ Q := by
  refine Ct_of (lv := [some (.ref a0), some (.int a1), some (.int a2), none, none, none, none]) (by decide) rfl (Nat.le_of_ble_eq_true rfl) rfl ?_
  unfold f_12_set at h
  refine R_iload_n (dd dt_12_set 0 rfl) 1 rfl rfl ?_
  refine R_bipush (v := 10) (dd dt_12_set 1 rfl) bp_10 ?_
  obtain ⟨z3, hz3, h⟩ := bi_el h
  have K3 : Rj l E (d + 2) m_12_set 24 [some (.ref a0), some (.int a1), some (.int a2), none, none, none, none] [.int z3] μ Q := by
    clear hz3
    refine R_istore_n (lv' := [some (.ref a0), some (.int a1), some (.int a2), some (.int z3), none, none, none]) (dd dt_12_set 13 rfl) 3 rfl (by decide) rfl rfl ?_
    refine R_iload_n (dd dt_12_set 14 rfl) 1 rfl rfl ?_
    obtain ⟨z4, hz4, h⟩ := bi_el h
    have K4 : Rj l E (d + 2) m_12_set 57 [some (.ref a0), some (.int a1), some (.int a2), some (.int z3), none, none, none] [.int z4] μ Q := by
      clear hz4
      refine R_istore (lv' := [some (.ref a0), some (.int a1), some (.int a2), some (.int z3), some (.int z4), none, none]) (dd dt_12_set 29 rfl) (by decide) rfl rfl ?_
      refine R_iload_n (dd dt_12_set 30 rfl) 3 rfl rfl ?_
      refine R_ifne (dd dt_12_set 31 rfl) (tgt := 72) rfl (fun hc => ?_) (fun hc => ?_)
      · rw [if_neg hc] at h
        exact R_mask [true, true, true, true, true, false, false] rfl (ok_12_set_b72  h k0 hQ)
      · rw [if_pos hc] at h
        refine R_iload_n (dd dt_12_set 32 rfl) 1 rfl rfl ?_
        refine R_iconst (v := 0) (dd dt_12_set 33 rfl) ic_0 ?_
        refine R_iconst (v := 2) (dd dt_12_set 34 rfl) ic_2 ?_
        obtain ⟨x6, e5, h⟩ := bi_el h
        refine c_12_80 (As := [.int a1, .int 0, .int 2]) (st1 := [.int x6]) rfl (fun Q1 hq => ok_12_within e5 hq) rfl rfl (Nat.le_of_ble_eq_true rfl) (dd dt_12_set 35 rfl) rfl ?_
        refine R_ifeq (dd dt_12_set 36 rfl) (tgt := 82) rfl (fun hc => ?_) (fun hc => ?_)
        · rw [if_pos hc] at h
          refine R_iconst (v := (-1)) (dd dt_12_set 42 rfl) ic_m1 ?_
          obtain rfl := Option.some.inj h
          exact R_iret rfl (dd dt_12_set 43 rfl) hQ
        · rw [if_neg hc] at h
          exact R_mask [true, true, true, true, true, false, false] rfl (ok_12_set_b72  h k0 hQ)
    clear h
    have h := hz4
    clear hz4
    refine R_ifne (dd dt_12_set 15 rfl) (tgt := 33) rfl (fun hc => ?_) (fun hc => ?_)
    · rw [if_neg hc] at h
      refine R_iload_n (dd dt_12_set 18 rfl) 1 rfl rfl ?_
      refine R_iconst (v := 1) (dd dt_12_set 19 rfl) ic_1 ?_
      refine R_cmpne (dd dt_12_set 20 rfl) (tgt := 44) rfl (fun hc => ?_) (fun hc => ?_)
      · rw [if_neg hc] at h
        refine R_iload_n (dd dt_12_set 23 rfl) 1 rfl rfl ?_
        refine R_iconst (v := 2) (dd dt_12_set 24 rfl) ic_2 ?_
        refine R_cmpne (dd dt_12_set 25 rfl) (tgt := 54) rfl (fun hc => ?_) (fun hc => ?_)
        · rw [if_neg hc] at h
          refine R_sipush (v := 900) (dd dt_12_set 28 rfl) sp_900 ?_
          obtain rfl := Option.some.inj h
          exact R_mask [true, true, true, true, false, false, false] rfl K4
        · rw [if_pos hc] at h
          refine R_bipush (v := 9) (dd dt_12_set 26 rfl) bp_9 ?_
          refine R_goto (dd dt_12_set 27 rfl) (tgt := 57) rfl ?_
          obtain rfl := Option.some.inj h
          exact R_mask [true, true, true, true, false, false, false] rfl K4
      · rw [if_pos hc] at h
        refine R_sipush (v := 999) (dd dt_12_set 21 rfl) sp_999 ?_
        refine R_goto (dd dt_12_set 22 rfl) (tgt := 57) rfl ?_
        obtain rfl := Option.some.inj h
        exact R_mask [true, true, true, true, false, false, false] rfl K4
    · rw [if_pos hc] at h
      refine R_iconst (v := 1) (dd dt_12_set 16 rfl) ic_1 ?_
      refine R_goto (dd dt_12_set 17 rfl) (tgt := 57) rfl ?_
      obtain rfl := Option.some.inj h
      exact R_mask [true, true, true, true, false, false, false] rfl K4
  clear h
  have h := hz3
  clear hz3
  refine R_cmplt (dd dt_12_set 2 rfl) (tgt := 23) rfl (fun hc => ?_) (fun hc => ?_)
  · rw [if_pos hc] at h
    refine R_iconst (v := 0) (dd dt_12_set 12 rfl) ic_0 ?_
    obtain rfl := Option.some.inj h
    exact R_mask [true, true, true, false, false, false, false] rfl K3
  · rw [if_neg hc] at h
    refine R_aload_n (dd dt_12_set 3 rfl) 0 rfl rfl ?_
    refine R_iload_n (dd dt_12_set 4 rfl) 1 rfl rfl ?_
    refine R_bipush (v := 10) (dd dt_12_set 5 rfl) bp_10 ?_
    refine R_isub (dd dt_12_set 6 rfl) ?_
    refine R_bipush (v := 9) (dd dt_12_set 7 rfl) bp_9 ?_
    obtain ⟨x2, e1, h⟩ := bi_el h
    refine c_12_84 (As := [.int (a1 - 10), .int 9]) (st1 := [.int x2]) rfl (fun Q1 hq => ok_12_is e1 k0 hq) k0 rfl rfl (Nat.le_of_ble_eq_true rfl) (dd dt_12_set 8 rfl) rfl ?_
    refine R_ifeq (dd dt_12_set 9 rfl) (tgt := 23) rfl (fun hc => ?_) (fun hc => ?_)
    · rw [if_pos hc] at h
      refine R_iconst (v := 0) (dd dt_12_set 12 rfl) ic_0 ?_
      obtain rfl := Option.some.inj h
      exact R_mask [true, true, true, false, false, false, false] rfl K3
    · rw [if_neg hc] at h
      refine R_iconst (v := 1) (dd dt_12_set 10 rfl) ic_1 ?_
      refine R_goto (dd dt_12_set 11 rfl) (tgt := 24) rfl ?_
      obtain rfl := Option.some.inj h
      exact R_mask [true, true, true, false, false, false, false] rfl K3
/-! LongStrikeModel.gift(ZI)I -/
def tab_12_gift : List (Nat × Instr × Nat) := [(0, .iload_n 2, 1), (1, .iconst 1, 1), (2, .sipush 9999, 3), (5, .invokestatic 80, 3), (8, .ifCond .ne 5, 3), (11, .iconst (-1), 1), (12, .ireturn, 1), (13, .iload_n 1, 1), (14, .ifCond .eq 7, 3), (17, .iconst 1, 1), (18, .goto 4, 3), (21, .iconst 2, 1), (22, .istore_n 3, 1), (23, .aload_n 0, 1), (24, .getfield 9, 3), (27, .iload_n 3, 1), (28, .ldc 126, 2), (30, .aload_n 0, 1), (31, .getfield 9, 3), (34, .iload_n 3, 1), (35, .iaload, 1), (36, .iload_n 2, 1), (37, .iadd, 1), (38, .invokestatic 127, 3), (41, .iastore, 1), (42, .aload_n 0, 1), (43, .getfield 9, 3), (46, .iload_n 3, 1), (47, .iaload, 1), (48, .ireturn, 1)]
set_option maxRecDepth 100000 in
theorem dt_12_gift : ∀ q ∈ tab_12_gift, decode m_12_gift.2.1 q.1 = .ok q.2 := by decide +kernel
def f_12_gift (a0 : Nat) (a1 : Int32) (a2 : Int32) (μ : mm) : Option (Int32 × mm) :=
  (f_12_within a2 1 9999 μ).bind fun x2 =>
  if x2 = 0 then
    some ((-1), μ)
  else
    (if a1 = 0 then
        some 2
      else
        some 1).bind fun (z3 : Int32) =>
    (ld μ (rf a0 0) z3).bind fun x4 =>
    (sto μ (rf a0 0) z3 (mn 99999 (x4 + a2))).bind fun μ6 =>
    (ld μ6 (rf a0 0) z3).bind fun x8 =>
    some (x8, μ6)
set_option maxRecDepth 100000 in
set_option maxHeartbeats 4000000 in
theorem ok_12_gift {l : Launch} {E : ce} {d : Nat}  {a0 : Nat} {a1 : Int32} {a2 : Int32} {μ : mm} {r : Int32 × mm} {Q : Option Value → mm → Prop} (h : f_12_gift a0 a1 a2 μ = some r) (k0 : kd a0 = 12) (hQ : Q (some (.int r.1)) r.2) : Ct l E (d + 1) yX12_gift m_12_gift [.ref a0, .int a1, .int a2] μ Q := by
  refine Ct_of (lv := [some (.ref a0), some (.int a1), some (.int a2), none]) (by decide) rfl (Nat.le_of_ble_eq_true rfl) rfl ?_
  unfold f_12_gift at h
  refine R_iload_n (dd dt_12_gift 0 rfl) 2 rfl rfl ?_
  refine R_iconst (v := 1) (dd dt_12_gift 1 rfl) ic_1 ?_
  refine R_sipush (v := 9999) (dd dt_12_gift 2 rfl) sp_9999 ?_
  obtain ⟨x2, e1, h⟩ := bi_el h
  refine c_12_80 (As := [.int a2, .int 1, .int 9999]) (st1 := [.int x2]) rfl (fun Q1 hq => ok_12_within e1 hq) rfl rfl (Nat.le_of_ble_eq_true rfl) (dd dt_12_gift 3 rfl) rfl ?_
  refine R_ifne (dd dt_12_gift 4 rfl) (tgt := 13) rfl (fun hc => ?_) (fun hc => ?_)
  · rw [if_neg hc] at h
    refine R_iload_n (dd dt_12_gift 7 rfl) 1 rfl rfl ?_
    obtain ⟨z3, hz3, h⟩ := bi_el h
    have K3 : Rj l E (d + 1) m_12_gift 22 [some (.ref a0), none, some (.int a2), none] [.int z3] μ Q := by
      clear hz3
      refine R_istore_n (lv' := [some (.ref a0), none, some (.int a2), some (.int z3)]) (dd dt_12_gift 12 rfl) 3 rfl (by decide) rfl rfl ?_
      refine R_aload_n (dd dt_12_gift 13 rfl) 0 rfl rfl ?_
      refine g_12_9 rfl k0 (dd dt_12_gift 14 rfl) ?_
      refine R_iload_n (dd dt_12_gift 15 rfl) 3 rfl rfl ?_
      refine R_ldc (dd dt_12_gift 16 rfl) ct_12_126 ?_
      refine R_aload_n (dd dt_12_gift 17 rfl) 0 rfl rfl ?_
      refine g_12_9 rfl k0 (dd dt_12_gift 18 rfl) ?_
      refine R_iload_n (dd dt_12_gift 19 rfl) 3 rfl rfl ?_
      obtain ⟨x4, e5, h⟩ := bi_el h
      refine R_ild e5 (ty_12_0 k0) (dd dt_12_gift 20 rfl) ?_
      refine R_iload_n (dd dt_12_gift 21 rfl) 2 rfl rfl ?_
      refine R_iadd (dd dt_12_gift 22 rfl) ?_
      refine R_mmin ml_12_127 (Nat.le_of_ble_eq_true rfl) (dd dt_12_gift 23 rfl) ?_
      obtain ⟨μ6, e7, h⟩ := bi_el h
      refine R_isto e7 (ty_12_0 k0) (dd dt_12_gift 24 rfl) ?_
      refine R_aload_n (dd dt_12_gift 25 rfl) 0 rfl rfl ?_
      refine g_12_9 rfl k0 (dd dt_12_gift 26 rfl) ?_
      refine R_iload_n (dd dt_12_gift 27 rfl) 3 rfl rfl ?_
      obtain ⟨x8, e9, h⟩ := bi_el h
      refine R_ild e9 (ty_12_0 k0) (dd dt_12_gift 28 rfl) ?_
      obtain rfl := Option.some.inj h
      exact R_iret rfl (dd dt_12_gift 29 rfl) hQ
    clear h
    have h := hz3
    clear hz3
    refine R_ifeq (dd dt_12_gift 8 rfl) (tgt := 21) rfl (fun hc => ?_) (fun hc => ?_)
    · rw [if_pos hc] at h
      refine R_iconst (v := 2) (dd dt_12_gift 11 rfl) ic_2 ?_
      obtain rfl := Option.some.inj h
      exact R_mask [true, false, true, false] rfl K3
    · rw [if_neg hc] at h
      refine R_iconst (v := 1) (dd dt_12_gift 9 rfl) ic_1 ?_
      refine R_goto (dd dt_12_gift 10 rfl) (tgt := 22) rfl ?_
      obtain rfl := Option.some.inj h
      exact R_mask [true, false, true, false] rfl K3
  · rw [if_pos hc] at h
    refine R_iconst (v := (-1)) (dd dt_12_gift 5 rfl) ic_m1 ?_
    obtain rfl := Option.some.inj h
    exact R_iret rfl (dd dt_12_gift 6 rfl) hQ
/-! LongStrikeModel.ship(II)I -/
def tab_12_ship : List (Nat × Instr × Nat) := [(0, .iload_n 2, 1), (1, .iconst 1, 1), (2, .sipush 9999, 3), (5, .invokestatic 80, 3), (8, .ifCond .eq 21, 3), (11, .iload_n 1, 1), (12, .aload_n 0, 1), (13, .getfield 9, 3), (16, .iconst 0, 1), (17, .iaload, 1), (18, .iconst 1, 1), (19, .iadd, 1), (20, .sipush 999, 3), (23, .invokestatic 80, 3), (26, .ifCond .ne 5, 3), (29, .iconst (-1), 1), (30, .ireturn, 1), (31, .aload_n 0, 1), (32, .getfield 9, 3), (35, .bipush 14, 2), (37, .iaload, 1), (38, .istore_n 3, 1), (39, .iload_n 3, 1), (40, .bipush 6, 2), (42, .if_icmp .ne 6, 3), (45, .bipush (-2), 2), (47, .ireturn, 1), (48, .aload_n 0, 1), (49, .getfield 9, 3), (52, .sipush 843, 3), (55, .iconst 2, 1), (56, .iload_n 3, 1), (57, .imul, 1), (58, .iadd, 1), (59, .iload_n 1, 1), (60, .iastore, 1), (61, .aload_n 0, 1), (62, .getfield 9, 3), (65, .sipush 843, 3), (68, .iconst 2, 1), (69, .iload_n 3, 1), (70, .imul, 1), (71, .iadd, 1), (72, .iconst 1, 1), (73, .iadd, 1), (74, .iload_n 2, 1), (75, .iastore, 1), (76, .aload_n 0, 1), (77, .getfield 9, 3), (80, .bipush 14, 2), (82, .dup2, 1), (83, .iaload, 1), (84, .iconst 1, 1), (85, .iadd, 1), (86, .iastore, 1), (87, .aload_n 0, 1), (88, .getfield 9, 3), (91, .bipush 14, 2), (93, .iaload, 1), (94, .ireturn, 1)]
set_option maxRecDepth 100000 in
theorem dt_12_ship : ∀ q ∈ tab_12_ship, decode m_12_ship.2.1 q.1 = .ok q.2 := by decide +kernel
def f_12_ship (a0 : Nat) (a1 : Int32) (a2 : Int32) (μ : mm) : Option (Int32 × mm) :=
  (f_12_within a2 1 9999 μ).bind fun x2 =>
  if x2 = 0 then
    some ((-1), μ)
  else
    (ld μ (rf a0 0) 0).bind fun x3 =>
    (f_12_within a1 (x3 + 1) 999 μ).bind fun x6 =>
    if x6 = 0 then
      some ((-1), μ)
    else
      (ld μ (rf a0 0) 14).bind fun x7 =>
      if x7 = 6 then
        some ((-2), μ)
      else
        (sto μ (rf a0 0) (843 + (2 * x7)) a1).bind fun μ9 =>
        (sto μ9 (rf a0 0) ((843 + (2 * x7)) + 1) a2).bind fun μ11 =>
        (ld μ11 (rf a0 0) 14).bind fun x13 =>
        (sto μ11 (rf a0 0) 14 (x13 + 1)).bind fun μ15 =>
        (ld μ15 (rf a0 0) 14).bind fun x17 =>
        some (x17, μ15)
set_option maxRecDepth 100000 in
set_option maxHeartbeats 4000000 in
theorem ok_12_ship {l : Launch} {E : ce} {d : Nat}  {a0 : Nat} {a1 : Int32} {a2 : Int32} {μ : mm} {r : Int32 × mm} {Q : Option Value → mm → Prop} (h : f_12_ship a0 a1 a2 μ = some r) (k0 : kd a0 = 12) (hQ : Q (some (.int r.1)) r.2) : Ct l E (d + 1) yX12_ship m_12_ship [.ref a0, .int a1, .int a2] μ Q := by
  refine Ct_of (lv := [some (.ref a0), some (.int a1), some (.int a2), none]) (by decide) rfl (Nat.le_of_ble_eq_true rfl) rfl ?_
  unfold f_12_ship at h
  refine R_iload_n (dd dt_12_ship 0 rfl) 2 rfl rfl ?_
  refine R_iconst (v := 1) (dd dt_12_ship 1 rfl) ic_1 ?_
  refine R_sipush (v := 9999) (dd dt_12_ship 2 rfl) sp_9999 ?_
  obtain ⟨x2, e1, h⟩ := bi_el h
  refine c_12_80 (As := [.int a2, .int 1, .int 9999]) (st1 := [.int x2]) rfl (fun Q1 hq => ok_12_within e1 hq) rfl rfl (Nat.le_of_ble_eq_true rfl) (dd dt_12_ship 3 rfl) rfl ?_
  refine R_ifeq (dd dt_12_ship 4 rfl) (tgt := 29) rfl (fun hc => ?_) (fun hc => ?_)
  · rw [if_pos hc] at h
    refine R_iconst (v := (-1)) (dd dt_12_ship 15 rfl) ic_m1 ?_
    obtain rfl := Option.some.inj h
    exact R_iret rfl (dd dt_12_ship 16 rfl) hQ
  · rw [if_neg hc] at h
    refine R_iload_n (dd dt_12_ship 5 rfl) 1 rfl rfl ?_
    refine R_aload_n (dd dt_12_ship 6 rfl) 0 rfl rfl ?_
    refine g_12_9 rfl k0 (dd dt_12_ship 7 rfl) ?_
    refine R_iconst (v := 0) (dd dt_12_ship 8 rfl) ic_0 ?_
    obtain ⟨x3, e4, h⟩ := bi_el h
    refine R_ild e4 (ty_12_0 k0) (dd dt_12_ship 9 rfl) ?_
    refine R_iconst (v := 1) (dd dt_12_ship 10 rfl) ic_1 ?_
    refine R_iadd (dd dt_12_ship 11 rfl) ?_
    refine R_sipush (v := 999) (dd dt_12_ship 12 rfl) sp_999 ?_
    obtain ⟨x6, e5, h⟩ := bi_el h
    refine c_12_80 (As := [.int a1, .int (x3 + 1), .int 999]) (st1 := [.int x6]) rfl (fun Q1 hq => ok_12_within e5 hq) rfl rfl (Nat.le_of_ble_eq_true rfl) (dd dt_12_ship 13 rfl) rfl ?_
    refine R_ifne (dd dt_12_ship 14 rfl) (tgt := 31) rfl (fun hc => ?_) (fun hc => ?_)
    · rw [if_neg hc] at h
      refine R_aload_n (dd dt_12_ship 17 rfl) 0 rfl rfl ?_
      refine g_12_9 rfl k0 (dd dt_12_ship 18 rfl) ?_
      refine R_bipush (v := 14) (dd dt_12_ship 19 rfl) bp_14 ?_
      obtain ⟨x7, e8, h⟩ := bi_el h
      refine R_ild e8 (ty_12_0 k0) (dd dt_12_ship 20 rfl) ?_
      refine R_istore_n (lv' := [some (.ref a0), some (.int a1), some (.int a2), some (.int x7)]) (dd dt_12_ship 21 rfl) 3 rfl (by decide) rfl rfl ?_
      refine R_iload_n (dd dt_12_ship 22 rfl) 3 rfl rfl ?_
      refine R_bipush (v := 6) (dd dt_12_ship 23 rfl) bp_6 ?_
      refine R_cmpne (dd dt_12_ship 24 rfl) (tgt := 48) rfl (fun hc => ?_) (fun hc => ?_)
      · rw [if_neg hc] at h
        refine R_aload_n (dd dt_12_ship 27 rfl) 0 rfl rfl ?_
        refine g_12_9 rfl k0 (dd dt_12_ship 28 rfl) ?_
        refine R_sipush (v := 843) (dd dt_12_ship 29 rfl) sp_843 ?_
        refine R_iconst (v := 2) (dd dt_12_ship 30 rfl) ic_2 ?_
        refine R_iload_n (dd dt_12_ship 31 rfl) 3 rfl rfl ?_
        refine R_imul (dd dt_12_ship 32 rfl) ?_
        refine R_iadd (dd dt_12_ship 33 rfl) ?_
        refine R_iload_n (dd dt_12_ship 34 rfl) 1 rfl rfl ?_
        obtain ⟨μ9, e10, h⟩ := bi_el h
        refine R_isto e10 (ty_12_0 k0) (dd dt_12_ship 35 rfl) ?_
        refine R_aload_n (dd dt_12_ship 36 rfl) 0 rfl rfl ?_
        refine g_12_9 rfl k0 (dd dt_12_ship 37 rfl) ?_
        refine R_sipush (v := 843) (dd dt_12_ship 38 rfl) sp_843 ?_
        refine R_iconst (v := 2) (dd dt_12_ship 39 rfl) ic_2 ?_
        refine R_iload_n (dd dt_12_ship 40 rfl) 3 rfl rfl ?_
        refine R_imul (dd dt_12_ship 41 rfl) ?_
        refine R_iadd (dd dt_12_ship 42 rfl) ?_
        refine R_iconst (v := 1) (dd dt_12_ship 43 rfl) ic_1 ?_
        refine R_iadd (dd dt_12_ship 44 rfl) ?_
        refine R_iload_n (dd dt_12_ship 45 rfl) 2 rfl rfl ?_
        obtain ⟨μ11, e12, h⟩ := bi_el h
        refine R_isto e12 (ty_12_0 k0) (dd dt_12_ship 46 rfl) ?_
        refine R_aload_n (dd dt_12_ship 47 rfl) 0 rfl rfl ?_
        refine g_12_9 rfl k0 (dd dt_12_ship 48 rfl) ?_
        refine R_bipush (v := 14) (dd dt_12_ship 49 rfl) bp_14 ?_
        refine R_dup2 (dd dt_12_ship 50 rfl) rfl rfl ?_
        obtain ⟨x13, e14, h⟩ := bi_el h
        refine R_ild e14 (ty_12_0 k0) (dd dt_12_ship 51 rfl) ?_
        refine R_iconst (v := 1) (dd dt_12_ship 52 rfl) ic_1 ?_
        refine R_iadd (dd dt_12_ship 53 rfl) ?_
        obtain ⟨μ15, e16, h⟩ := bi_el h
        refine R_isto e16 (ty_12_0 k0) (dd dt_12_ship 54 rfl) ?_
        refine R_aload_n (dd dt_12_ship 55 rfl) 0 rfl rfl ?_
        refine g_12_9 rfl k0 (dd dt_12_ship 56 rfl) ?_
        refine R_bipush (v := 14) (dd dt_12_ship 57 rfl) bp_14 ?_
        obtain ⟨x17, e18, h⟩ := bi_el h
        refine R_ild e18 (ty_12_0 k0) (dd dt_12_ship 58 rfl) ?_
        obtain rfl := Option.some.inj h
        exact R_iret rfl (dd dt_12_ship 59 rfl) hQ
      · rw [if_pos hc] at h
        refine R_bipush (v := (-2)) (dd dt_12_ship 25 rfl) bp_m2 ?_
        obtain rfl := Option.some.inj h
        exact R_iret rfl (dd dt_12_ship 26 rfl) hQ
    · rw [if_pos hc] at h
      refine R_iconst (v := (-1)) (dd dt_12_ship 15 rfl) ic_m1 ?_
      obtain rfl := Option.some.inj h
      exact R_iret rfl (dd dt_12_ship 16 rfl) hQ
/-! LongStrikeModel.feed(JI)I -/
def tab_12_feed : List (Nat × Instr × Nat) := [(0, .iload_n 3, 1), (1, .iconst 1, 1), (2, .bipush 8, 2), (4, .invokestatic 80, 3), (7, .ifCond .ne 5, 3), (10, .iconst (-1), 1), (11, .ireturn, 1), (12, .aload_n 0, 1), (13, .getfield 130, 3), (16, .iload_n 3, 1), (17, .iadd, 1), (18, .sipush 300, 3), (21, .if_icmp .le 6, 3), (24, .bipush (-2), 2), (26, .ireturn, 1), (27, .iconst 0, 1), (28, .istore 4, 2), (30, .iload 4, 2), (32, .iload_n 3, 1), (33, .if_icmp .ge 40, 3), (36, .aload_n 0, 1), (37, .getfield 19, 3), (40, .aload_n 0, 1), (41, .getfield 130, 3), (44, .lload_n 1, 1), (45, .bipush 8, 2), (47, .iload 4, 2), (49, .imul, 1), (50, .lshr, 1), (51, .ldc2_w 133, 3), (54, .land, 1), (55, .l2i, 1), (56, .iastore, 1), (57, .aload_n 0, 1), (58, .dup, 1), (59, .getfield 130, 3), (62, .iconst 1, 1), (63, .iadd, 1), (64, .putfield 130, 3), (67, .iinc 4 1, 3), (70, .goto (-40), 3), (73, .aload_n 0, 1), (74, .getfield 130, 3), (77, .ireturn, 1)]
set_option maxRecDepth 100000 in
theorem dt_12_feed : ∀ q ∈ tab_12_feed, decode m_12_feed.2.1 q.1 = .ok q.2 := by decide +kernel
def f_12_feed_l30 (a0 : Nat) (a1 : Int64) (a3 : Int32) : Nat → Int32 → mm → Option (mm)
  | 0, _, _ => none
  | n + 1, v4, μ => if a3 ≤ v4 then
      some μ
    else
      (sto μ (rf a0 4) (μ a0 5) (((a1 >>> ((8 * v4).toInt64 &&& 63)) &&& 255).toInt32)).bind fun μ1 =>
      (pf μ1 a0 5 ((μ1 a0 5) + 1)).bind fun μ3 =>
      f_12_feed_l30 a0 a1 a3 n (v4 + 1) μ3
set_option maxRecDepth 100000 in
theorem ok_12_feed_l30 {l : Launch} {E : ce} {d : Nat} {Q : Option Value → mm → Prop} (a0 : Nat) (a1 : Int64) (a3 : Int32) (k0 : kd a0 = 12) : ∀ (n : Nat) (v4 : Int32) (μ : mm) (z : mm), f_12_feed_l30 a0 a1 a3 n v4 μ = some z → Rj l E (d + 1) m_12_feed 73 [some (.ref a0), none, none, none, none] [] z Q → Rj l E (d + 1) m_12_feed 30 [some (.ref a0), some (.long a1), none, some (.int a3), some (.int v4)] [] μ Q
  | 0, _, _, z, h, _ => by
    rw [f_12_feed_l30] at h
    cases h
  | n + 1, v4, μ, z, h, KX => by
    rw [f_12_feed_l30] at h
    refine R_iload (dd dt_12_feed 17 rfl) rfl ?_
    refine R_iload_n (dd dt_12_feed 18 rfl) 3 rfl rfl ?_
    refine R_cmpge (dd dt_12_feed 19 rfl) (tgt := 73) rfl (fun hc => ?_) (fun hc => ?_)
    · rw [if_pos hc] at h
      obtain rfl := Option.some.inj h
      exact R_mask [true, false, false, false, false] rfl KX
    · rw [if_neg hc] at h
      refine R_aload_n (dd dt_12_feed 20 rfl) 0 rfl rfl ?_
      refine g_12_19 rfl k0 (dd dt_12_feed 21 rfl) ?_
      refine R_aload_n (dd dt_12_feed 22 rfl) 0 rfl rfl ?_
      refine g_12_130 rfl k0 (dd dt_12_feed 23 rfl) ?_
      refine R_lload_n (dd dt_12_feed 24 rfl) 1 rfl rfl ?_
      refine R_bipush (v := 8) (dd dt_12_feed 25 rfl) bp_8 ?_
      refine R_iload (dd dt_12_feed 26 rfl) rfl ?_
      refine R_imul (dd dt_12_feed 27 rfl) ?_
      refine R_lshr (dd dt_12_feed 28 rfl) ?_
      refine R_ldc2 (dd dt_12_feed 29 rfl) ct_12_133 ?_
      refine R_land (dd dt_12_feed 30 rfl) ?_
      refine R_l2i (dd dt_12_feed 31 rfl) ?_
      obtain ⟨μ1, e2, h⟩ := bi_el h
      refine R_isto e2 (ty_12_4 k0) (dd dt_12_feed 32 rfl) ?_
      refine R_aload_n (dd dt_12_feed 33 rfl) 0 rfl rfl ?_
      refine R_dup (dd dt_12_feed 34 rfl) rfl ?_
      refine g_12_130 rfl k0 (dd dt_12_feed 35 rfl) ?_
      refine R_iconst (v := 1) (dd dt_12_feed 36 rfl) ic_1 ?_
      refine R_iadd (dd dt_12_feed 37 rfl) ?_
      obtain ⟨μ3, e4, h⟩ := bi_el h
      refine p_12_130 rfl k0 (dd dt_12_feed 38 rfl) e4 ?_
      refine R_iinc (v := 1) (lv' := [some (.ref a0), some (.long a1), none, some (.int a3), some (.int (v4 + 1))]) (dd dt_12_feed 39 rfl) (by decide) rfl rfl ic_1 rfl ?_
      refine R_goto (dd dt_12_feed 40 rfl) (tgt := 30) rfl ?_
      exact R_mask [true, true, false, true, true] rfl (ok_12_feed_l30 a0 a1 a3 k0 n (v4 + 1) μ3 _ h KX)
def f_12_feed (a0 : Nat) (a1 : Int64) (a3 : Int32) (μ : mm) : Option (Int32 × mm) :=
  (f_12_within a3 1 8 μ).bind fun x2 =>
  if x2 = 0 then
    some ((-1), μ)
  else
    if ((μ a0 5) + a3) ≤ 300 then
      (f_12_feed_l30 a0 a1 a3 FU 0 μ).bind fun z3 =>
      some ((z3 a0 5), z3)
    else
      some ((-2), μ)
set_option maxRecDepth 100000 in
set_option maxHeartbeats 4000000 in
theorem ok_12_feed {l : Launch} {E : ce} {d : Nat}  {a0 : Nat} {a1 : Int64} {a3 : Int32} {μ : mm} {r : Int32 × mm} {Q : Option Value → mm → Prop} (h : f_12_feed a0 a1 a3 μ = some r) (k0 : kd a0 = 12) (hQ : Q (some (.int r.1)) r.2) : Ct l E (d + 1) yX12_feed m_12_feed [.ref a0, .long a1, .int a3] μ Q := by
  refine Ct_of (lv := [some (.ref a0), some (.long a1), none, some (.int a3), none]) (by decide) rfl (Nat.le_of_ble_eq_true rfl) rfl ?_
  unfold f_12_feed at h
  refine R_iload_n (dd dt_12_feed 0 rfl) 3 rfl rfl ?_
  refine R_iconst (v := 1) (dd dt_12_feed 1 rfl) ic_1 ?_
  refine R_bipush (v := 8) (dd dt_12_feed 2 rfl) bp_8 ?_
  obtain ⟨x2, e1, h⟩ := bi_el h
  refine c_12_80 (As := [.int a3, .int 1, .int 8]) (st1 := [.int x2]) rfl (fun Q1 hq => ok_12_within e1 hq) rfl rfl (Nat.le_of_ble_eq_true rfl) (dd dt_12_feed 3 rfl) rfl ?_
  refine R_ifne (dd dt_12_feed 4 rfl) (tgt := 12) rfl (fun hc => ?_) (fun hc => ?_)
  · rw [if_neg hc] at h
    refine R_aload_n (dd dt_12_feed 7 rfl) 0 rfl rfl ?_
    refine g_12_130 rfl k0 (dd dt_12_feed 8 rfl) ?_
    refine R_iload_n (dd dt_12_feed 9 rfl) 3 rfl rfl ?_
    refine R_iadd (dd dt_12_feed 10 rfl) ?_
    refine R_sipush (v := 300) (dd dt_12_feed 11 rfl) sp_300 ?_
    refine R_cmple (dd dt_12_feed 12 rfl) (tgt := 27) rfl (fun hc => ?_) (fun hc => ?_)
    · rw [if_pos hc] at h
      refine R_iconst (v := 0) (dd dt_12_feed 15 rfl) ic_0 ?_
      refine R_istore (lv' := [some (.ref a0), some (.long a1), none, some (.int a3), some (.int 0)]) (dd dt_12_feed 16 rfl) (by decide) rfl rfl ?_
      obtain ⟨z3, e4, h⟩ := bi_el h
      refine R_mask [true, true, false, true, true] rfl (ok_12_feed_l30 a0 a1 a3 k0 FU 0 μ _ e4 ?_)
      refine R_aload_n (dd dt_12_feed 41 rfl) 0 rfl rfl ?_
      refine g_12_130 rfl k0 (dd dt_12_feed 42 rfl) ?_
      obtain rfl := Option.some.inj h
      exact R_iret rfl (dd dt_12_feed 43 rfl) hQ
    · rw [if_neg hc] at h
      refine R_bipush (v := (-2)) (dd dt_12_feed 13 rfl) bp_m2 ?_
      obtain rfl := Option.some.inj h
      exact R_iret rfl (dd dt_12_feed 14 rfl) hQ
  · rw [if_pos hc] at h
    refine R_iconst (v := (-1)) (dd dt_12_feed 5 rfl) ic_m1 ?_
    obtain rfl := Option.some.inj h
    exact R_iret rfl (dd dt_12_feed 6 rfl) hQ
/-! LongStrikeModel.codes(I)V -/
def tab_12_codes : List (Nat × Instr × Nat) := [(0, .aload_n 0, 1), (1, .getfield 147, 3), (4, .ifCond .ne 23, 3), (7, .aload_n 0, 1), (8, .getfield 35, 3), (11, .aload_n 0, 1), (12, .getfield 168, 3), (15, .iload_n 1, 1), (16, .iastore, 1), (17, .aload_n 0, 1), (18, .dup, 1), (19, .getfield 168, 3), (22, .iconst 1, 1), (23, .iadd, 1), (24, .putfield 168, 3), (27, .return_, 1)]
set_option maxRecDepth 100000 in
theorem dt_12_codes : ∀ q ∈ tab_12_codes, decode m_12_codes.2.1 q.1 = .ok q.2 := by decide +kernel
def f_12_codes (a0 : Nat) (a1 : Int32) (μ : mm) : Option (mm) :=
  if (μ a0 13) = 0 then
    (sto μ (rf a0 18) (μ a0 15) a1).bind fun μ1 =>
    (pf μ1 a0 15 ((μ1 a0 15) + 1)).bind fun μ3 =>
    some μ3
  else
    some μ
set_option maxRecDepth 100000 in
set_option maxHeartbeats 4000000 in
theorem ok_12_codes {l : Launch} {E : ce} {d : Nat}  {a0 : Nat} {a1 : Int32} {μ : mm} {r : mm} {Q : Option Value → mm → Prop} (h : f_12_codes a0 a1 μ = some r) (k0 : kd a0 = 12) (hQ : Q none r) : Ct l E d yX12_codes m_12_codes [.ref a0, .int a1] μ Q := by
  refine Ct_of (lv := [some (.ref a0), some (.int a1)]) (by decide) rfl (Nat.le_of_ble_eq_true rfl) rfl ?_
  unfold f_12_codes at h
  refine R_aload_n (dd dt_12_codes 0 rfl) 0 rfl rfl ?_
  refine g_12_147 rfl k0 (dd dt_12_codes 1 rfl) ?_
  refine R_ifne (dd dt_12_codes 2 rfl) (tgt := 27) rfl (fun hc => ?_) (fun hc => ?_)
  · rw [if_neg hc] at h
    obtain rfl := Option.some.inj h
    exact R_vret rfl (dd dt_12_codes 15 rfl) hQ
  · rw [if_pos hc] at h
    refine R_aload_n (dd dt_12_codes 3 rfl) 0 rfl rfl ?_
    refine g_12_35 rfl k0 (dd dt_12_codes 4 rfl) ?_
    refine R_aload_n (dd dt_12_codes 5 rfl) 0 rfl rfl ?_
    refine g_12_168 rfl k0 (dd dt_12_codes 6 rfl) ?_
    refine R_iload_n (dd dt_12_codes 7 rfl) 1 rfl rfl ?_
    obtain ⟨μ1, e2, h⟩ := bi_el h
    refine R_isto e2 (ty_12_18 k0) (dd dt_12_codes 8 rfl) ?_
    refine R_aload_n (dd dt_12_codes 9 rfl) 0 rfl rfl ?_
    refine R_dup (dd dt_12_codes 10 rfl) rfl ?_
    refine g_12_168 rfl k0 (dd dt_12_codes 11 rfl) ?_
    refine R_iconst (v := 1) (dd dt_12_codes 12 rfl) ic_1 ?_
    refine R_iadd (dd dt_12_codes 13 rfl) ?_
    obtain ⟨μ3, e4, h⟩ := bi_el h
    refine p_12_168 rfl k0 (dd dt_12_codes 14 rfl) e4 ?_
    obtain rfl := Option.some.inj h
    exact R_vret rfl (dd dt_12_codes 15 rfl) hQ
/-! LongStrikeModel.isName(Ljava/lang/String;)Z -/
def tab_12_isName : List (Nat × Instr × Nat) := [(0, .aload_n 0, 1), (1, .getfield 147, 3), (4, .ifCond .ne 31, 3), (7, .aload_n 0, 1), (8, .getfield 141, 3), (11, .iconst 1, 1), (12, .if_icmp .ne 23, 3), (15, .aload_n 0, 1), (16, .getfield 135, 3), (19, .aload_n 0, 1), (20, .getfield 138, 3), (23, .isub, 1), (24, .aload_n 1, 1), (25, .invokevirtual 151, 3), (28, .if_icmp .ne 7, 3), (31, .iconst 1, 1), (32, .goto 4, 3), (35, .iconst 0, 1), (36, .istore_n 2, 1), (37, .iconst 0, 1), (38, .istore_n 3, 1), (39, .iload_n 2, 1), (40, .ifCond .eq 42, 3), (43, .iload_n 3, 1), (44, .aload_n 1, 1), (45, .invokevirtual 151, 3), (48, .if_icmp .ge 34, 3), (51, .aload_n 0, 1), (52, .getfield 19, 3), (55, .aload_n 0, 1), (56, .getfield 138, 3), (59, .iload_n 3, 1), (60, .iadd, 1), (61, .iaload, 1), (62, .aload_n 1, 1), (63, .iload_n 3, 1), (64, .invokevirtual 157, 3), (67, .if_icmp .ne 7, 3), (70, .iconst 1, 1), (71, .goto 4, 3), (74, .iconst 0, 1), (75, .istore_n 2, 1), (76, .iinc 3 1, 3), (79, .goto (-40), 3), (82, .iload_n 2, 1), (83, .ireturn, 1)]
set_option maxRecDepth 100000 in
theorem dt_12_isName : ∀ q ∈ tab_12_isName, decode m_12_isName.2.1 q.1 = .ok q.2 := by decide +kernel
def f_12_isName_l39 (a0 : Nat) (a1 : Nat) (μ : mm) : Nat → Int32 → Int32 → Option (Int32)
  | 0, _, _ => none
  | n + 1, v2, v3 => if v2 = 0 then
      some v2
    else
      if (slen a1) ≤ v3 then
        some v2
      else
        (ld μ (rf a0 4) ((μ a0 10) + v3)).bind fun x1 =>
        (sch a1 v3).bind fun x3 =>
        if x1 = x3 then
          f_12_isName_l39 a0 a1 μ n 1 (v3 + 1)
        else
          f_12_isName_l39 a0 a1 μ n 0 (v3 + 1)
set_option maxRecDepth 100000 in
theorem ok_12_isName_l39 {l : Launch} {E : ce} {d : Nat} {Q : Option Value → mm → Prop} (a0 : Nat) (a1 : Nat) (μ : mm) (k0 : kd a0 = 12) (k1 : kd a1 = 50) : ∀ (n : Nat) (v2 : Int32) (v3 : Int32) (z : Int32), f_12_isName_l39 a0 a1 μ n v2 v3 = some z → Rj l E (d + 5) m_12_isName 82 [none, none, some (.int z), none] [] μ Q → Rj l E (d + 5) m_12_isName 39 [some (.ref a0), some (.ref a1), some (.int v2), some (.int v3)] [] μ Q
  | 0, _, _, z, h, _ => by
    rw [f_12_isName_l39] at h
    cases h
  | n + 1, v2, v3, z, h, KX => by
    rw [f_12_isName_l39] at h
    refine R_iload_n (dd dt_12_isName 21 rfl) 2 rfl rfl ?_
    refine R_ifeq (dd dt_12_isName 22 rfl) (tgt := 82) rfl (fun hc => ?_) (fun hc => ?_)
    · rw [if_pos hc] at h
      obtain rfl := Option.some.inj h
      exact R_mask [false, false, true, false] rfl KX
    · rw [if_neg hc] at h
      refine R_iload_n (dd dt_12_isName 23 rfl) 3 rfl rfl ?_
      refine R_aload_n (dd dt_12_isName 24 rfl) 1 rfl rfl ?_
      refine R_slen_12_151 rfl k1 (Nat.le_of_ble_eq_true rfl) (dd dt_12_isName 25 rfl) ?_
      refine R_cmpge (dd dt_12_isName 26 rfl) (tgt := 82) rfl (fun hc => ?_) (fun hc => ?_)
      · rw [if_pos hc] at h
        obtain rfl := Option.some.inj h
        exact R_mask [false, false, true, false] rfl KX
      · rw [if_neg hc] at h
        refine R_aload_n (dd dt_12_isName 27 rfl) 0 rfl rfl ?_
        refine g_12_19 rfl k0 (dd dt_12_isName 28 rfl) ?_
        refine R_aload_n (dd dt_12_isName 29 rfl) 0 rfl rfl ?_
        refine g_12_138 rfl k0 (dd dt_12_isName 30 rfl) ?_
        refine R_iload_n (dd dt_12_isName 31 rfl) 3 rfl rfl ?_
        refine R_iadd (dd dt_12_isName 32 rfl) ?_
        obtain ⟨x1, e2, h⟩ := bi_el h
        refine R_ild e2 (ty_12_4 k0) (dd dt_12_isName 33 rfl) ?_
        refine R_aload_n (dd dt_12_isName 34 rfl) 1 rfl rfl ?_
        refine R_iload_n (dd dt_12_isName 35 rfl) 3 rfl rfl ?_
        obtain ⟨x3, e4, h⟩ := bi_el h
        refine R_sch_12_157 rfl e4 k1 (Nat.le_of_ble_eq_true rfl) (dd dt_12_isName 36 rfl) ?_
        refine R_cmpne (dd dt_12_isName 37 rfl) (tgt := 74) rfl (fun hc => ?_) (fun hc => ?_)
        · rw [if_neg hc] at h
          refine R_iconst (v := 0) (dd dt_12_isName 40 rfl) ic_0 ?_
          refine R_istore_n (lv' := [some (.ref a0), some (.ref a1), some (.int 0), some (.int v3)]) (dd dt_12_isName 41 rfl) 2 rfl (by decide) rfl rfl ?_
          refine R_iinc (v := 1) (lv' := [some (.ref a0), some (.ref a1), some (.int 0), some (.int (v3 + 1))]) (dd dt_12_isName 42 rfl) (by decide) rfl rfl ic_1 rfl ?_
          refine R_goto (dd dt_12_isName 43 rfl) (tgt := 39) rfl ?_
          exact R_mask [true, true, true, true] rfl (ok_12_isName_l39 a0 a1 μ k0 k1 n 0 (v3 + 1) _ h KX)
        · rw [if_pos hc] at h
          refine R_iconst (v := 1) (dd dt_12_isName 38 rfl) ic_1 ?_
          refine R_goto (dd dt_12_isName 39 rfl) (tgt := 75) rfl ?_
          refine R_istore_n (lv' := [some (.ref a0), some (.ref a1), some (.int 1), some (.int v3)]) (dd dt_12_isName 41 rfl) 2 rfl (by decide) rfl rfl ?_
          refine R_iinc (v := 1) (lv' := [some (.ref a0), some (.ref a1), some (.int 1), some (.int (v3 + 1))]) (dd dt_12_isName 42 rfl) (by decide) rfl rfl ic_1 rfl ?_
          refine R_goto (dd dt_12_isName 43 rfl) (tgt := 39) rfl ?_
          exact R_mask [true, true, true, true] rfl (ok_12_isName_l39 a0 a1 μ k0 k1 n 1 (v3 + 1) _ h KX)
def f_12_isName (a0 : Nat) (a1 : Nat) (μ : mm) : Option (Int32) :=
  (if (μ a0 13) = 0 then
      if (μ a0 12) = 1 then
        if ((μ a0 11) - (μ a0 10)) = (slen a1) then
          some 1
        else
          some 0
      else
        some 0
    else
      some 0).bind fun (z1 : Int32) =>
  (f_12_isName_l39 a0 a1 μ FU z1 0).bind fun z2 =>
  (gb z2).bind fun _ =>
  some z2
set_option maxRecDepth 100000 in
set_option maxHeartbeats 4000000 in
theorem ok_12_isName {l : Launch} {E : ce} {d : Nat}  {a0 : Nat} {a1 : Nat} {μ : mm} {r : Int32} {Q : Option Value → mm → Prop} (h : f_12_isName a0 a1 μ = some r) (k0 : kd a0 = 12) (k1 : kd a1 = 50) (hQ : Q (some (.int r)) μ) : Ct l E (d + 5) yX12_isName m_12_isName [.ref a0, .ref a1] μ Q := by
  refine Ct_of (lv := [some (.ref a0), some (.ref a1), none, none]) (by decide) rfl (Nat.le_of_ble_eq_true rfl) rfl ?_
  unfold f_12_isName at h
  refine R_aload_n (dd dt_12_isName 0 rfl) 0 rfl rfl ?_
  refine g_12_147 rfl k0 (dd dt_12_isName 1 rfl) ?_
  obtain ⟨z1, hz1, h⟩ := bi_el h
  have K1 : Rj l E (d + 5) m_12_isName 36 [some (.ref a0), some (.ref a1), none, none] [.int z1] μ Q := by
    clear hz1
    refine R_istore_n (lv' := [some (.ref a0), some (.ref a1), some (.int z1), none]) (dd dt_12_isName 18 rfl) 2 rfl (by decide) rfl rfl ?_
    refine R_iconst (v := 0) (dd dt_12_isName 19 rfl) ic_0 ?_
    refine R_istore_n (lv' := [some (.ref a0), some (.ref a1), some (.int z1), some (.int 0)]) (dd dt_12_isName 20 rfl) 3 rfl (by decide) rfl rfl ?_
    obtain ⟨z2, e3, h⟩ := bi_el h
    refine R_mask [true, true, true, true] rfl (ok_12_isName_l39 a0 a1 μ k0 k1 FU z1 0 _ e3 ?_)
    refine R_iload_n (dd dt_12_isName 44 rfl) 2 rfl rfl ?_
    obtain ⟨_, q4, h⟩ := bi_el h
    obtain rfl := Option.some.inj h
    exact R_zret rfl (bo_narrow (gb_el q4).1) (dd dt_12_isName 45 rfl) hQ
  clear h
  have h := hz1
  clear hz1
  refine R_ifne (dd dt_12_isName 2 rfl) (tgt := 35) rfl (fun hc => ?_) (fun hc => ?_)
  · rw [if_neg hc] at h
    refine R_iconst (v := 0) (dd dt_12_isName 17 rfl) ic_0 ?_
    obtain rfl := Option.some.inj h
    exact R_mask [true, true, false, false] rfl K1
  · rw [if_pos hc] at h
    refine R_aload_n (dd dt_12_isName 3 rfl) 0 rfl rfl ?_
    refine g_12_141 rfl k0 (dd dt_12_isName 4 rfl) ?_
    refine R_iconst (v := 1) (dd dt_12_isName 5 rfl) ic_1 ?_
    refine R_cmpne (dd dt_12_isName 6 rfl) (tgt := 35) rfl (fun hc => ?_) (fun hc => ?_)
    · rw [if_neg hc] at h
      refine R_iconst (v := 0) (dd dt_12_isName 17 rfl) ic_0 ?_
      obtain rfl := Option.some.inj h
      exact R_mask [true, true, false, false] rfl K1
    · rw [if_pos hc] at h
      refine R_aload_n (dd dt_12_isName 7 rfl) 0 rfl rfl ?_
      refine g_12_135 rfl k0 (dd dt_12_isName 8 rfl) ?_
      refine R_aload_n (dd dt_12_isName 9 rfl) 0 rfl rfl ?_
      refine g_12_138 rfl k0 (dd dt_12_isName 10 rfl) ?_
      refine R_isub (dd dt_12_isName 11 rfl) ?_
      refine R_aload_n (dd dt_12_isName 12 rfl) 1 rfl rfl ?_
      refine R_slen_12_151 rfl k1 (Nat.le_of_ble_eq_true rfl) (dd dt_12_isName 13 rfl) ?_
      refine R_cmpne (dd dt_12_isName 14 rfl) (tgt := 35) rfl (fun hc => ?_) (fun hc => ?_)
      · rw [if_neg hc] at h
        refine R_iconst (v := 0) (dd dt_12_isName 17 rfl) ic_0 ?_
        obtain rfl := Option.some.inj h
        exact R_mask [true, true, false, false] rfl K1
      · rw [if_pos hc] at h
        refine R_iconst (v := 1) (dd dt_12_isName 15 rfl) ic_1 ?_
        refine R_goto (dd dt_12_isName 16 rfl) (tgt := 36) rfl ?_
        obtain rfl := Option.some.inj h
        exact R_mask [true, true, false, false] rfl K1
/-! LongStrikeModel.isIn(III)Z -/
def tab_12_isIn : List (Nat × Instr × Nat) := [(0, .iload_n 1, 1), (1, .aload_n 0, 1), (2, .getfield 130, 3), (5, .if_icmp .ge 21, 3), (8, .aload_n 0, 1), (9, .getfield 19, 3), (12, .iload_n 1, 1), (13, .iaload, 1), (14, .iload_n 2, 1), (15, .iload_n 3, 1), (16, .invokestatic 80, 3), (19, .ifCond .eq 7, 3), (22, .iconst 1, 1), (23, .goto 4, 3), (26, .iconst 0, 1), (27, .ireturn, 1)]
set_option maxRecDepth 100000 in
theorem dt_12_isIn : ∀ q ∈ tab_12_isIn, decode m_12_isIn.2.1 q.1 = .ok q.2 := by decide +kernel
def f_12_isIn (a0 : Nat) (a1 : Int32) (a2 : Int32) (a3 : Int32) (μ : mm) : Option (Int32) :=
  if (μ a0 5) ≤ a1 then
    some 0
  else
    (ld μ (rf a0 4) a1).bind fun x1 =>
    (f_12_within x1 a2 a3 μ).bind fun x4 =>
    if x4 = 0 then
      some 0
    else
      some 1
set_option maxRecDepth 100000 in
set_option maxHeartbeats 4000000 in
theorem ok_12_isIn {l : Launch} {E : ce} {d : Nat}  {a0 : Nat} {a1 : Int32} {a2 : Int32} {a3 : Int32} {μ : mm} {r : Int32} {Q : Option Value → mm → Prop} (h : f_12_isIn a0 a1 a2 a3 μ = some r) (k0 : kd a0 = 12) (hQ : Q (some (.int r)) μ) : Ct l E (d + 1) yX12_isIn m_12_isIn [.ref a0, .int a1, .int a2, .int a3] μ Q := by
  refine Ct_of (lv := [some (.ref a0), some (.int a1), some (.int a2), some (.int a3)]) (by decide) rfl (Nat.le_of_ble_eq_true rfl) rfl ?_
  unfold f_12_isIn at h
  refine R_iload_n (dd dt_12_isIn 0 rfl) 1 rfl rfl ?_
  refine R_aload_n (dd dt_12_isIn 1 rfl) 0 rfl rfl ?_
  refine g_12_130 rfl k0 (dd dt_12_isIn 2 rfl) ?_
  refine R_cmpge (dd dt_12_isIn 3 rfl) (tgt := 26) rfl (fun hc => ?_) (fun hc => ?_)
  · rw [if_pos hc] at h
    refine R_iconst (v := 0) (dd dt_12_isIn 14 rfl) ic_0 ?_
    obtain rfl := Option.some.inj h
    exact R_zret rfl (by decide) (dd dt_12_isIn 15 rfl) hQ
  · rw [if_neg hc] at h
    refine R_aload_n (dd dt_12_isIn 4 rfl) 0 rfl rfl ?_
    refine g_12_19 rfl k0 (dd dt_12_isIn 5 rfl) ?_
    refine R_iload_n (dd dt_12_isIn 6 rfl) 1 rfl rfl ?_
    obtain ⟨x1, e2, h⟩ := bi_el h
    refine R_ild e2 (ty_12_4 k0) (dd dt_12_isIn 7 rfl) ?_
    refine R_iload_n (dd dt_12_isIn 8 rfl) 2 rfl rfl ?_
    refine R_iload_n (dd dt_12_isIn 9 rfl) 3 rfl rfl ?_
    obtain ⟨x4, e3, h⟩ := bi_el h
    refine c_12_80 (As := [.int x1, .int a2, .int a3]) (st1 := [.int x4]) rfl (fun Q1 hq => ok_12_within e3 hq) rfl rfl (Nat.le_of_ble_eq_true rfl) (dd dt_12_isIn 10 rfl) rfl ?_
    refine R_ifeq (dd dt_12_isIn 11 rfl) (tgt := 26) rfl (fun hc => ?_) (fun hc => ?_)
    · rw [if_pos hc] at h
      refine R_iconst (v := 0) (dd dt_12_isIn 14 rfl) ic_0 ?_
      obtain rfl := Option.some.inj h
      exact R_zret rfl (by decide) (dd dt_12_isIn 15 rfl) hQ
    · rw [if_neg hc] at h
      refine R_iconst (v := 1) (dd dt_12_isIn 12 rfl) ic_1 ?_
      refine R_goto (dd dt_12_isIn 13 rfl) (tgt := 27) rfl ?_
      obtain rfl := Option.some.inj h
      exact R_zret rfl (by decide) (dd dt_12_isIn 15 rfl) hQ
/-! LongStrikeModel.next()V -/
def tab_12_next : List (Nat × Instr × Nat) := [(0, .aload_n 0, 1), (1, .aload_n 0, 1), (2, .getfield 135, 3), (5, .putfield 138, 3), (8, .aload_n 0, 1), (9, .getfield 138, 3), (12, .aload_n 0, 1), (13, .getfield 130, 3), (16, .if_icmp .ge 30, 3), (19, .aload_n 0, 1), (20, .getfield 19, 3), (23, .aload_n 0, 1), (24, .getfield 138, 3), (27, .iaload, 1), (28, .bipush 32, 2), (30, .if_icmp .ne 16, 3), (33, .aload_n 0, 1), (34, .dup, 1), (35, .getfield 138, 3), (38, .iconst 1, 1), (39, .iadd, 1), (40, .putfield 138, 3), (43, .goto (-35), 3), (46, .aload_n 0, 1), (47, .aload_n 0, 1), (48, .getfield 138, 3), (51, .putfield 135, 3), (54, .aload_n 0, 1), (55, .getfield 138, 3), (58, .aload_n 0, 1), (59, .getfield 130, 3), (62, .if_icmp .ne 9, 3), (65, .aload_n 0, 1), (66, .iconst 0, 1), (67, .putfield 141, 3), (70, .return_, 1), (71, .aload_n 0, 1), (72, .aload_n 0, 1), (73, .aload_n 0, 1), (74, .getfield 138, 3), (77, .bipush 97, 2), (79, .bipush 122, 2), (81, .invokevirtual 144, 3), (84, .ifCond .eq 7, 3), (87, .iconst 1, 1), (88, .goto 23, 3), (91, .aload_n 0, 1), (92, .aload_n 0, 1), (93, .getfield 138, 3), (96, .bipush 48, 2), (98, .bipush 57, 2), (100, .invokevirtual 144, 3), (103, .ifCond .eq 7, 3), (106, .iconst 2, 1), (107, .goto 4, 3), (110, .iconst 3, 1), (111, .putfield 141, 3), (114, .aload_n 0, 1), (115, .dup, 1), (116, .getfield 135, 3), (119, .iconst 1, 1), (120, .iadd, 1), (121, .putfield 135, 3), (124, .aload_n 0, 1), (125, .getfield 141, 3), (128, .iconst 1, 1), (129, .if_icmp .ne 18, 3), (132, .aload_n 0, 1), (133, .aload_n 0, 1), (134, .getfield 135, 3), (137, .bipush 97, 2), (139, .bipush 122, 2), (141, .invokevirtual 144, 3), (144, .ifCond .ne 26, 3), (147, .aload_n 0, 1), (148, .getfield 141, 3), (151, .iconst 2, 1), (152, .if_icmp .ne 31, 3), (155, .aload_n 0, 1), (156, .aload_n 0, 1), (157, .getfield 135, 3), (160, .bipush 48, 2), (162, .bipush 57, 2), (164, .invokevirtual 144, 3), (167, .ifCond .eq 16, 3), (170, .aload_n 0, 1), (171, .dup, 1), (172, .getfield 135, 3), (175, .iconst 1, 1), (176, .iadd, 1), (177, .putfield 135, 3), (180, .goto (-56), 3), (183, .return_, 1)]
set_option maxRecDepth 100000 in
theorem dt_12_next : ∀ q ∈ tab_12_next, decode m_12_next.2.1 q.1 = .ok q.2 := by decide +kernel
def f_12_next_l8 (a0 : Nat) : Nat → mm → Option (mm)
  | 0, _ => none
  | n + 1, μ => if (μ a0 5) ≤ (μ a0 10) then
      some μ
    else
      (ld μ (rf a0 4) (μ a0 10)).bind fun x1 =>
      if x1 = 32 then
        (pf μ a0 10 ((μ a0 10) + 1)).bind fun μ3 =>
        f_12_next_l8 a0 n  μ3
      else
        some μ
set_option maxRecDepth 100000 in
theorem ok_12_next_l8 {l : Launch} {E : ce} {d : Nat} {Q : Option Value → mm → Prop} (a0 : Nat) (k0 : kd a0 = 12) : ∀ (n : Nat) (μ : mm) (z : mm), f_12_next_l8 a0 n  μ = some z → Rj l E (d + 2) m_12_next 46 [some (.ref a0)] [] z Q → Rj l E (d + 2) m_12_next 8 [some (.ref a0)] [] μ Q
  | 0, _, z, h, _ => by
    rw [f_12_next_l8] at h
    cases h
  | n + 1, μ, z, h, KX => by
    rw [f_12_next_l8] at h
    refine R_aload_n (dd dt_12_next 4 rfl) 0 rfl rfl ?_
    refine g_12_138 rfl k0 (dd dt_12_next 5 rfl) ?_
    refine R_aload_n (dd dt_12_next 6 rfl) 0 rfl rfl ?_
    refine g_12_130 rfl k0 (dd dt_12_next 7 rfl) ?_
    refine R_cmpge (dd dt_12_next 8 rfl) (tgt := 46) rfl (fun hc => ?_) (fun hc => ?_)
    · rw [if_pos hc] at h
      obtain rfl := Option.some.inj h
      exact R_mask [true] rfl KX
    · rw [if_neg hc] at h
      refine R_aload_n (dd dt_12_next 9 rfl) 0 rfl rfl ?_
      refine g_12_19 rfl k0 (dd dt_12_next 10 rfl) ?_
      refine R_aload_n (dd dt_12_next 11 rfl) 0 rfl rfl ?_
      refine g_12_138 rfl k0 (dd dt_12_next 12 rfl) ?_
      obtain ⟨x1, e2, h⟩ := bi_el h
      refine R_ild e2 (ty_12_4 k0) (dd dt_12_next 13 rfl) ?_
      refine R_bipush (v := 32) (dd dt_12_next 14 rfl) bp_32 ?_
      refine R_cmpne (dd dt_12_next 15 rfl) (tgt := 46) rfl (fun hc => ?_) (fun hc => ?_)
      · rw [if_neg hc] at h
        obtain rfl := Option.some.inj h
        exact R_mask [true] rfl KX
      · rw [if_pos hc] at h
        refine R_aload_n (dd dt_12_next 16 rfl) 0 rfl rfl ?_
        refine R_dup (dd dt_12_next 17 rfl) rfl ?_
        refine g_12_138 rfl k0 (dd dt_12_next 18 rfl) ?_
        refine R_iconst (v := 1) (dd dt_12_next 19 rfl) ic_1 ?_
        refine R_iadd (dd dt_12_next 20 rfl) ?_
        obtain ⟨μ3, e4, h⟩ := bi_el h
        refine p_12_138 rfl k0 (dd dt_12_next 21 rfl) e4 ?_
        refine R_goto (dd dt_12_next 22 rfl) (tgt := 8) rfl ?_
        exact R_mask [true] rfl (ok_12_next_l8 a0 k0 n μ3 _ h KX)
def f_12_next_l124 (a0 : Nat) : Nat → mm → Option (mm)
  | 0, _ => none
  | n + 1, μ => if (μ a0 12) = 1 then
      (f_12_isIn a0 (μ a0 11) 97 122 μ).bind fun x6 =>
      if x6 = 0 then
        if (μ a0 12) = 2 then
          (f_12_isIn a0 (μ a0 11) 48 57 μ).bind fun x10 =>
          if x10 = 0 then
            some μ
          else
            (pf μ a0 11 ((μ a0 11) + 1)).bind fun μ11 =>
            f_12_next_l124 a0 n  μ11
        else
          some μ
      else
        (pf μ a0 11 ((μ a0 11) + 1)).bind fun μ7 =>
        f_12_next_l124 a0 n  μ7
    else
      if (μ a0 12) = 2 then
        (f_12_isIn a0 (μ a0 11) 48 57 μ).bind fun x2 =>
        if x2 = 0 then
          some μ
        else
          (pf μ a0 11 ((μ a0 11) + 1)).bind fun μ3 =>
          f_12_next_l124 a0 n  μ3
      else
        some μ
set_option maxRecDepth 100000 in
theorem ok_12_next_l124 {l : Launch} {E : ce} {d : Nat} {Q : Option Value → mm → Prop} (a0 : Nat) (k0 : kd a0 = 12) : ∀ (n : Nat) (μ : mm) (z : mm), f_12_next_l124 a0 n  μ = some z → Rj l E (d + 2) m_12_next 183 [none] [] z Q → Rj l E (d + 2) m_12_next 124 [some (.ref a0)] [] μ Q
  | 0, _, z, h, _ => by
    rw [f_12_next_l124] at h
    cases h
  | n + 1, μ, z, h, KX => by
    rw [f_12_next_l124] at h
    refine R_aload_n (dd dt_12_next 63 rfl) 0 rfl rfl ?_
    refine g_12_141 rfl k0 (dd dt_12_next 64 rfl) ?_
    refine R_iconst (v := 1) (dd dt_12_next 65 rfl) ic_1 ?_
    refine R_cmpne (dd dt_12_next 66 rfl) (tgt := 147) rfl (fun hc => ?_) (fun hc => ?_)
    · rw [if_neg hc] at h
      refine R_aload_n (dd dt_12_next 74 rfl) 0 rfl rfl ?_
      refine g_12_141 rfl k0 (dd dt_12_next 75 rfl) ?_
      refine R_iconst (v := 2) (dd dt_12_next 76 rfl) ic_2 ?_
      refine R_cmpne (dd dt_12_next 77 rfl) (tgt := 183) rfl (fun hc => ?_) (fun hc => ?_)
      · rw [if_neg hc] at h
        obtain rfl := Option.some.inj h
        exact R_mask [false] rfl KX
      · rw [if_pos hc] at h
        refine R_aload_n (dd dt_12_next 78 rfl) 0 rfl rfl ?_
        refine R_aload_n (dd dt_12_next 79 rfl) 0 rfl rfl ?_
        refine g_12_135 rfl k0 (dd dt_12_next 80 rfl) ?_
        refine R_bipush (v := 48) (dd dt_12_next 81 rfl) bp_48 ?_
        refine R_bipush (v := 57) (dd dt_12_next 82 rfl) bp_57 ?_
        obtain ⟨x2, e1, h⟩ := bi_el h
        refine c_12_144 (As := [.int (μ a0 11), .int 48, .int 57]) (st1 := [.int x2]) rfl (fun Q1 hq => ok_12_isIn e1 k0 hq) k0 rfl rfl (Nat.le_of_ble_eq_true rfl) (dd dt_12_next 83 rfl) rfl ?_
        refine R_ifeq (dd dt_12_next 84 rfl) (tgt := 183) rfl (fun hc => ?_) (fun hc => ?_)
        · rw [if_pos hc] at h
          obtain rfl := Option.some.inj h
          exact R_mask [false] rfl KX
        · rw [if_neg hc] at h
          refine R_aload_n (dd dt_12_next 85 rfl) 0 rfl rfl ?_
          refine R_dup (dd dt_12_next 86 rfl) rfl ?_
          refine g_12_135 rfl k0 (dd dt_12_next 87 rfl) ?_
          refine R_iconst (v := 1) (dd dt_12_next 88 rfl) ic_1 ?_
          refine R_iadd (dd dt_12_next 89 rfl) ?_
          obtain ⟨μ3, e4, h⟩ := bi_el h
          refine p_12_135 rfl k0 (dd dt_12_next 90 rfl) e4 ?_
          refine R_goto (dd dt_12_next 91 rfl) (tgt := 124) rfl ?_
          exact R_mask [true] rfl (ok_12_next_l124 a0 k0 n μ3 _ h KX)
    · rw [if_pos hc] at h
      refine R_aload_n (dd dt_12_next 67 rfl) 0 rfl rfl ?_
      refine R_aload_n (dd dt_12_next 68 rfl) 0 rfl rfl ?_
      refine g_12_135 rfl k0 (dd dt_12_next 69 rfl) ?_
      refine R_bipush (v := 97) (dd dt_12_next 70 rfl) bp_97 ?_
      refine R_bipush (v := 122) (dd dt_12_next 71 rfl) bp_122 ?_
      obtain ⟨x6, e5, h⟩ := bi_el h
      refine c_12_144 (As := [.int (μ a0 11), .int 97, .int 122]) (st1 := [.int x6]) rfl (fun Q1 hq => ok_12_isIn e5 k0 hq) k0 rfl rfl (Nat.le_of_ble_eq_true rfl) (dd dt_12_next 72 rfl) rfl ?_
      refine R_ifne (dd dt_12_next 73 rfl) (tgt := 170) rfl (fun hc => ?_) (fun hc => ?_)
      · rw [if_neg hc] at h
        refine R_aload_n (dd dt_12_next 85 rfl) 0 rfl rfl ?_
        refine R_dup (dd dt_12_next 86 rfl) rfl ?_
        refine g_12_135 rfl k0 (dd dt_12_next 87 rfl) ?_
        refine R_iconst (v := 1) (dd dt_12_next 88 rfl) ic_1 ?_
        refine R_iadd (dd dt_12_next 89 rfl) ?_
        obtain ⟨μ7, e8, h⟩ := bi_el h
        refine p_12_135 rfl k0 (dd dt_12_next 90 rfl) e8 ?_
        refine R_goto (dd dt_12_next 91 rfl) (tgt := 124) rfl ?_
        exact R_mask [true] rfl (ok_12_next_l124 a0 k0 n μ7 _ h KX)
      · rw [if_pos hc] at h
        refine R_aload_n (dd dt_12_next 74 rfl) 0 rfl rfl ?_
        refine g_12_141 rfl k0 (dd dt_12_next 75 rfl) ?_
        refine R_iconst (v := 2) (dd dt_12_next 76 rfl) ic_2 ?_
        refine R_cmpne (dd dt_12_next 77 rfl) (tgt := 183) rfl (fun hc => ?_) (fun hc => ?_)
        · rw [if_neg hc] at h
          obtain rfl := Option.some.inj h
          exact R_mask [false] rfl KX
        · rw [if_pos hc] at h
          refine R_aload_n (dd dt_12_next 78 rfl) 0 rfl rfl ?_
          refine R_aload_n (dd dt_12_next 79 rfl) 0 rfl rfl ?_
          refine g_12_135 rfl k0 (dd dt_12_next 80 rfl) ?_
          refine R_bipush (v := 48) (dd dt_12_next 81 rfl) bp_48 ?_
          refine R_bipush (v := 57) (dd dt_12_next 82 rfl) bp_57 ?_
          obtain ⟨x10, e9, h⟩ := bi_el h
          refine c_12_144 (As := [.int (μ a0 11), .int 48, .int 57]) (st1 := [.int x10]) rfl (fun Q1 hq => ok_12_isIn e9 k0 hq) k0 rfl rfl (Nat.le_of_ble_eq_true rfl) (dd dt_12_next 83 rfl) rfl ?_
          refine R_ifeq (dd dt_12_next 84 rfl) (tgt := 183) rfl (fun hc => ?_) (fun hc => ?_)
          · rw [if_pos hc] at h
            obtain rfl := Option.some.inj h
            exact R_mask [false] rfl KX
          · rw [if_neg hc] at h
            refine R_aload_n (dd dt_12_next 85 rfl) 0 rfl rfl ?_
            refine R_dup (dd dt_12_next 86 rfl) rfl ?_
            refine g_12_135 rfl k0 (dd dt_12_next 87 rfl) ?_
            refine R_iconst (v := 1) (dd dt_12_next 88 rfl) ic_1 ?_
            refine R_iadd (dd dt_12_next 89 rfl) ?_
            obtain ⟨μ11, e12, h⟩ := bi_el h
            refine p_12_135 rfl k0 (dd dt_12_next 90 rfl) e12 ?_
            refine R_goto (dd dt_12_next 91 rfl) (tgt := 124) rfl ?_
            exact R_mask [true] rfl (ok_12_next_l124 a0 k0 n μ11 _ h KX)
def f_12_next (a0 : Nat) (μ : mm) : Option (mm) :=
  (pf μ a0 10 (μ a0 11)).bind fun μ1 =>
  (f_12_next_l8 a0 FU μ1).bind fun z3 =>
  (pf z3 a0 11 (z3 a0 10)).bind fun μ5 =>
  if (μ5 a0 10) = (μ5 a0 5) then
    (pf μ5 a0 12 0).bind fun μ18 =>
    some μ18
  else
    (f_12_isIn a0 (μ5 a0 10) 97 122 μ5).bind fun x8 =>
    (if x8 = 0 then
        (f_12_isIn a0 (μ5 a0 10) 48 57 μ5).bind fun x10 =>
        if x10 = 0 then
          some 3
        else
          some 2
      else
        some 1).bind fun (z11 : Int32) =>
    (pf μ5 a0 12 z11).bind fun μ12 =>
    (pf μ12 a0 11 ((μ12 a0 11) + 1)).bind fun μ14 =>
    (f_12_next_l124 a0 FU μ14).bind fun z16 =>
    some z16
set_option maxRecDepth 100000 in
set_option maxHeartbeats 4000000 in
theorem ok_12_next {l : Launch} {E : ce} {d : Nat}  {a0 : Nat} {μ : mm} {r : mm} {Q : Option Value → mm → Prop} (h : f_12_next a0 μ = some r) (k0 : kd a0 = 12) (hQ : Q none r) : Ct l E (d + 2) yX12_next m_12_next [.ref a0] μ Q := by
  refine Ct_of (lv := [some (.ref a0)]) (by decide) rfl (Nat.le_of_ble_eq_true rfl) rfl ?_
  unfold f_12_next at h
  refine R_aload_n (dd dt_12_next 0 rfl) 0 rfl rfl ?_
  refine R_aload_n (dd dt_12_next 1 rfl) 0 rfl rfl ?_
  refine g_12_135 rfl k0 (dd dt_12_next 2 rfl) ?_
  obtain ⟨μ1, e2, h⟩ := bi_el h
  refine p_12_138 rfl k0 (dd dt_12_next 3 rfl) e2 ?_
  obtain ⟨z3, e4, h⟩ := bi_el h
  refine R_mask [true] rfl (ok_12_next_l8 a0 k0 FU μ1 _ e4 ?_)
  refine R_aload_n (dd dt_12_next 23 rfl) 0 rfl rfl ?_
  refine R_aload_n (dd dt_12_next 24 rfl) 0 rfl rfl ?_
  refine g_12_138 rfl k0 (dd dt_12_next 25 rfl) ?_
  obtain ⟨μ5, e6, h⟩ := bi_el h
  refine p_12_135 rfl k0 (dd dt_12_next 26 rfl) e6 ?_
  refine R_aload_n (dd dt_12_next 27 rfl) 0 rfl rfl ?_
  refine g_12_138 rfl k0 (dd dt_12_next 28 rfl) ?_
  refine R_aload_n (dd dt_12_next 29 rfl) 0 rfl rfl ?_
  refine g_12_130 rfl k0 (dd dt_12_next 30 rfl) ?_
  refine R_cmpne (dd dt_12_next 31 rfl) (tgt := 71) rfl (fun hc => ?_) (fun hc => ?_)
  · rw [if_neg hc] at h
    refine R_aload_n (dd dt_12_next 36 rfl) 0 rfl rfl ?_
    refine R_aload_n (dd dt_12_next 37 rfl) 0 rfl rfl ?_
    refine R_aload_n (dd dt_12_next 38 rfl) 0 rfl rfl ?_
    refine g_12_138 rfl k0 (dd dt_12_next 39 rfl) ?_
    refine R_bipush (v := 97) (dd dt_12_next 40 rfl) bp_97 ?_
    refine R_bipush (v := 122) (dd dt_12_next 41 rfl) bp_122 ?_
    obtain ⟨x8, e7, h⟩ := bi_el h
    refine c_12_144 (As := [.int (μ5 a0 10), .int 97, .int 122]) (st1 := [.int x8, .ref a0]) rfl (fun Q1 hq => ok_12_isIn e7 k0 hq) k0 rfl rfl (Nat.le_of_ble_eq_true rfl) (dd dt_12_next 42 rfl) rfl ?_
    obtain ⟨z11, hz11, h⟩ := bi_el h
    have K11 : Rj l E (d + 2) m_12_next 111 [some (.ref a0)] [.int z11, .ref a0] μ5 Q := by
      clear hz11
      obtain ⟨μ12, e13, h⟩ := bi_el h
      refine p_12_141 rfl k0 (dd dt_12_next 56 rfl) e13 ?_
      refine R_aload_n (dd dt_12_next 57 rfl) 0 rfl rfl ?_
      refine R_dup (dd dt_12_next 58 rfl) rfl ?_
      refine g_12_135 rfl k0 (dd dt_12_next 59 rfl) ?_
      refine R_iconst (v := 1) (dd dt_12_next 60 rfl) ic_1 ?_
      refine R_iadd (dd dt_12_next 61 rfl) ?_
      obtain ⟨μ14, e15, h⟩ := bi_el h
      refine p_12_135 rfl k0 (dd dt_12_next 62 rfl) e15 ?_
      obtain ⟨z16, e17, h⟩ := bi_el h
      refine R_mask [true] rfl (ok_12_next_l124 a0 k0 FU μ14 _ e17 ?_)
      obtain rfl := Option.some.inj h
      exact R_vret rfl (dd dt_12_next 92 rfl) hQ
    clear h
    have h := hz11
    clear hz11
    refine R_ifeq (dd dt_12_next 43 rfl) (tgt := 91) rfl (fun hc => ?_) (fun hc => ?_)
    · rw [if_pos hc] at h
      refine R_aload_n (dd dt_12_next 46 rfl) 0 rfl rfl ?_
      refine R_aload_n (dd dt_12_next 47 rfl) 0 rfl rfl ?_
      refine g_12_138 rfl k0 (dd dt_12_next 48 rfl) ?_
      refine R_bipush (v := 48) (dd dt_12_next 49 rfl) bp_48 ?_
      refine R_bipush (v := 57) (dd dt_12_next 50 rfl) bp_57 ?_
      obtain ⟨x10, e9, h⟩ := bi_el h
      refine c_12_144 (As := [.int (μ5 a0 10), .int 48, .int 57]) (st1 := [.int x10, .ref a0]) rfl (fun Q1 hq => ok_12_isIn e9 k0 hq) k0 rfl rfl (Nat.le_of_ble_eq_true rfl) (dd dt_12_next 51 rfl) rfl ?_
      refine R_ifeq (dd dt_12_next 52 rfl) (tgt := 110) rfl (fun hc => ?_) (fun hc => ?_)
      · rw [if_pos hc] at h
        refine R_iconst (v := 3) (dd dt_12_next 55 rfl) ic_3 ?_
        obtain rfl := Option.some.inj h
        exact R_mask [true] rfl K11
      · rw [if_neg hc] at h
        refine R_iconst (v := 2) (dd dt_12_next 53 rfl) ic_2 ?_
        refine R_goto (dd dt_12_next 54 rfl) (tgt := 111) rfl ?_
        obtain rfl := Option.some.inj h
        exact R_mask [true] rfl K11
    · rw [if_neg hc] at h
      refine R_iconst (v := 1) (dd dt_12_next 44 rfl) ic_1 ?_
      refine R_goto (dd dt_12_next 45 rfl) (tgt := 111) rfl ?_
      obtain rfl := Option.some.inj h
      exact R_mask [true] rfl K11
  · rw [if_pos hc] at h
    refine R_aload_n (dd dt_12_next 32 rfl) 0 rfl rfl ?_
    refine R_iconst (v := 0) (dd dt_12_next 33 rfl) ic_0 ?_
    obtain ⟨μ18, e19, h⟩ := bi_el h
    refine p_12_141 rfl k0 (dd dt_12_next 34 rfl) e19 ?_
    obtain rfl := Option.some.inj h
    exact R_vret rfl (dd dt_12_next 35 rfl) hQ
/-! LongStrikeModel.isSign(I)Z -/
def tab_12_isSign : List (Nat × Instr × Nat) := [(0, .aload_n 0, 1), (1, .getfield 147, 3), (4, .ifCond .ne 28, 3), (7, .aload_n 0, 1), (8, .getfield 141, 3), (11, .iconst 3, 1), (12, .if_icmp .ne 20, 3), (15, .aload_n 0, 1), (16, .getfield 19, 3), (19, .aload_n 0, 1), (20, .getfield 138, 3), (23, .iaload, 1), (24, .iload_n 1, 1), (25, .if_icmp .ne 7, 3), (28, .iconst 1, 1), (29, .goto 4, 3), (32, .iconst 0, 1), (33, .ireturn, 1)]
set_option maxRecDepth 100000 in
theorem dt_12_isSign : ∀ q ∈ tab_12_isSign, decode m_12_isSign.2.1 q.1 = .ok q.2 := by decide +kernel
def f_12_isSign (a0 : Nat) (a1 : Int32) (μ : mm) : Option (Int32) :=
  if (μ a0 13) = 0 then
    if (μ a0 12) = 3 then
      (ld μ (rf a0 4) (μ a0 10)).bind fun x1 =>
      if x1 = a1 then
        some 1
      else
        some 0
    else
      some 0
  else
    some 0
set_option maxRecDepth 100000 in
set_option maxHeartbeats 4000000 in
theorem ok_12_isSign {l : Launch} {E : ce} {d : Nat}  {a0 : Nat} {a1 : Int32} {μ : mm} {r : Int32} {Q : Option Value → mm → Prop} (h : f_12_isSign a0 a1 μ = some r) (k0 : kd a0 = 12) (hQ : Q (some (.int r)) μ) : Ct l E d yX12_isSign m_12_isSign [.ref a0, .int a1] μ Q := by
  refine Ct_of (lv := [some (.ref a0), some (.int a1)]) (by decide) rfl (Nat.le_of_ble_eq_true rfl) rfl ?_
  unfold f_12_isSign at h
  refine R_aload_n (dd dt_12_isSign 0 rfl) 0 rfl rfl ?_
  refine g_12_147 rfl k0 (dd dt_12_isSign 1 rfl) ?_
  refine R_ifne (dd dt_12_isSign 2 rfl) (tgt := 32) rfl (fun hc => ?_) (fun hc => ?_)
  · rw [if_neg hc] at h
    refine R_iconst (v := 0) (dd dt_12_isSign 16 rfl) ic_0 ?_
    obtain rfl := Option.some.inj h
    exact R_zret rfl (by decide) (dd dt_12_isSign 17 rfl) hQ
  · rw [if_pos hc] at h
    refine R_aload_n (dd dt_12_isSign 3 rfl) 0 rfl rfl ?_
    refine g_12_141 rfl k0 (dd dt_12_isSign 4 rfl) ?_
    refine R_iconst (v := 3) (dd dt_12_isSign 5 rfl) ic_3 ?_
    refine R_cmpne (dd dt_12_isSign 6 rfl) (tgt := 32) rfl (fun hc => ?_) (fun hc => ?_)
    · rw [if_neg hc] at h
      refine R_iconst (v := 0) (dd dt_12_isSign 16 rfl) ic_0 ?_
      obtain rfl := Option.some.inj h
      exact R_zret rfl (by decide) (dd dt_12_isSign 17 rfl) hQ
    · rw [if_pos hc] at h
      refine R_aload_n (dd dt_12_isSign 7 rfl) 0 rfl rfl ?_
      refine g_12_19 rfl k0 (dd dt_12_isSign 8 rfl) ?_
      refine R_aload_n (dd dt_12_isSign 9 rfl) 0 rfl rfl ?_
      refine g_12_138 rfl k0 (dd dt_12_isSign 10 rfl) ?_
      obtain ⟨x1, e2, h⟩ := bi_el h
      refine R_ild e2 (ty_12_4 k0) (dd dt_12_isSign 11 rfl) ?_
      refine R_iload_n (dd dt_12_isSign 12 rfl) 1 rfl rfl ?_
      refine R_cmpne (dd dt_12_isSign 13 rfl) (tgt := 32) rfl (fun hc => ?_) (fun hc => ?_)
      · rw [if_neg hc] at h
        refine R_iconst (v := 0) (dd dt_12_isSign 16 rfl) ic_0 ?_
        obtain rfl := Option.some.inj h
        exact R_zret rfl (by decide) (dd dt_12_isSign 17 rfl) hQ
      · rw [if_pos hc] at h
        refine R_iconst (v := 1) (dd dt_12_isSign 14 rfl) ic_1 ?_
        refine R_goto (dd dt_12_isSign 15 rfl) (tgt := 33) rfl ?_
        obtain rfl := Option.some.inj h
        exact R_zret rfl (by decide) (dd dt_12_isSign 17 rfl) hQ
