/-! LongStrike$TextReader.readCond(I)Z -/
def tab_8_readCond : List (Nat × Instr × Nat) := [(0, .aload_n 0, 1), (1, .iload_n 1, 1), (2, .invokevirtual 91, 3), (5, .istore_n 2, 1), (6, .iconst 0, 1), (7, .istore_n 3, 1), (8, .iload_n 3, 1), (9, .sipush 300, 3), (12, .if_icmp .ge 41, 3), (15, .iload_n 2, 1), (16, .ifCond .eq 37, 3), (19, .aload_n 0, 1), (20, .getfield 37, 3), (23, .bipush 9, 2), (25, .if_icmp .ne 28, 3), (28, .aload_n 0, 1), (29, .invokevirtual 71, 3), (32, .aload_n 0, 1), (33, .iload_n 1, 1), (34, .invokevirtual 91, 3), (37, .istore_n 2, 1), (38, .aload_n 0, 1), (39, .getfield 20, 3), (42, .bipush (-2), 2), (44, .invokevirtual 94, 3), (47, .iinc 3 1, 3), (50, .goto (-42), 3), (53, .iload_n 2, 1), (54, .ireturn, 1)]
set_option maxRecDepth 100000 in
theorem dt_8_readCond : ∀ q ∈ tab_8_readCond, decode m_8_readCond.2.1 q.1 = .ok q.2 := by decide +kernel
def f_8_readCond_l8 (rc : Nat → Nat → Int32 → mm → Option (Int32 × mm)) (a0 : Nat) (a1 : Int32) : Nat → Int32 → Int32 → mm → Option (Int32 × mm)
  | 0, _, _, _ => none
  | n + 1, v2, v3, μ => if 300 ≤ v3 then
      some (v2, μ)
    else
      if v2 = 0 then
        some (v2, μ)
      else
        if (μ a0 7) = 9 then
          (f_8_step a0 μ).bind fun μ2 =>
          (rc 1 a0 a1 μ2).bind fun z4 =>
          (f_5_addCode (rf a0 2) (-2) z4.2).bind fun μ6 =>
          f_8_readCond_l8 rc a0 a1 n z4.1 (v3 + 1) μ6
        else
          some (v2, μ)
set_option maxRecDepth 100000 in
theorem ok_8_readCond_l8 {l : Launch} {E : ce} {d nf : Nat} {Q : Option Value → mm → Prop} (rc : Nat → Nat → Int32 → mm → Option (Int32 × mm)) (hrc0 : ∀ {b0 : Nat} {x0 : Int32} {μ : mm} {r : Int32 × mm} {Q : Option Value → mm → Prop}, rc 0 b0 x0 μ = some r → kd b0 = 8 → Q (some (.int r.1)) r.2 → Ct l E (d + nf + 1) yX8_readCond m_8_readCond [.ref b0, .int x0] μ Q) (hrc1 : ∀ {b0 : Nat} {x0 : Int32} {μ : mm} {r : Int32 × mm} {Q : Option Value → mm → Prop}, rc 1 b0 x0 μ = some r → kd b0 = 8 → Q (some (.int r.1)) r.2 → Ct l E (d + nf + 1) yX8_readAll m_8_readAll [.ref b0, .int x0] μ Q) (hrc2 : ∀ {b0 : Nat} {x0 : Int32} {μ : mm} {r : Int32 × mm} {Q : Option Value → mm → Prop}, rc 2 b0 x0 μ = some r → kd b0 = 8 → Q (some (.int r.1)) r.2 → Ct l E (d + nf + 1) yX8_readOne m_8_readOne [.ref b0, .int x0] μ Q) (hrc3 : ∀ {b0 : Nat} {x0 : Int32} {μ : mm} {r : Int32 × mm} {Q : Option Value → mm → Prop}, rc 3 b0 x0 μ = some r → kd b0 = 8 → Q (some (.int r.1)) r.2 → Ct l E (d + nf + 1) yX8_readBrackets m_8_readBrackets [.ref b0, .int x0] μ Q) (a0 : Nat) (a1 : Int32) (k0 : kd a0 = 8) : ∀ (n : Nat) (v2 : Int32) (v3 : Int32) (μ : mm) (z : Int32 × mm), f_8_readCond_l8 rc a0 a1 n v2 v3 μ = some z → Rj l E (d + nf + 1 + 1) m_8_readCond 53 [none, none, some (.int z.1), none] [] z.2 Q → Rj l E (d + nf + 1 + 1) m_8_readCond 8 [some (.ref a0), some (.int a1), some (.int v2), some (.int v3)] [] μ Q
  | 0, _, _, _, z, h, _ => by
    rw [f_8_readCond_l8] at h
    cases h
  | n + 1, v2, v3, μ, z, h, KX => by
    rw [f_8_readCond_l8] at h
    refine R_iload_n (dd dt_8_readCond 6 rfl) 3 rfl rfl ?_
    refine R_sipush (v := 300) (dd dt_8_readCond 7 rfl) sp_300 ?_
    refine R_cmpge (dd dt_8_readCond 8 rfl) (tgt := 53) rfl (fun hc => ?_) (fun hc => ?_)
    · rw [if_pos hc] at h
      obtain rfl := Option.some.inj h
      exact R_mask [false, false, true, false] rfl KX
    · rw [if_neg hc] at h
      refine R_iload_n (dd dt_8_readCond 9 rfl) 2 rfl rfl ?_
      refine R_ifeq (dd dt_8_readCond 10 rfl) (tgt := 53) rfl (fun hc => ?_) (fun hc => ?_)
      · rw [if_pos hc] at h
        obtain rfl := Option.some.inj h
        exact R_mask [false, false, true, false] rfl KX
      · rw [if_neg hc] at h
        refine R_aload_n (dd dt_8_readCond 11 rfl) 0 rfl rfl ?_
        refine g_8_37 rfl k0 (dd dt_8_readCond 12 rfl) ?_
        refine R_bipush (v := 9) (dd dt_8_readCond 13 rfl) bp_9 ?_
        refine R_cmpne (dd dt_8_readCond 14 rfl) (tgt := 53) rfl (fun hc => ?_) (fun hc => ?_)
        · rw [if_neg hc] at h
          obtain rfl := Option.some.inj h
          exact R_mask [false, false, true, false] rfl KX
        · rw [if_pos hc] at h
          refine R_aload_n (dd dt_8_readCond 15 rfl) 0 rfl rfl ?_
          obtain ⟨μ2, e1, h⟩ := bi_el h
          refine c_8_71 (As := []) (st1 := []) rfl (fun Q1 hq => ok_8_step e1 k0 hq) k0 rfl rfl (Nat.le_of_ble_eq_true rfl) (dd dt_8_readCond 16 rfl) rfl ?_
          refine R_aload_n (dd dt_8_readCond 17 rfl) 0 rfl rfl ?_
          refine R_iload_n (dd dt_8_readCond 18 rfl) 1 rfl rfl ?_
          obtain ⟨z4, e3, h⟩ := bi_el h
          refine c_8_91 (As := [.int a1]) (st1 := [.int z4.1]) rfl (fun Q1 hq => hrc1 e3 k0 hq) k0 rfl rfl (Nat.le_of_ble_eq_true rfl) (dd dt_8_readCond 19 rfl) rfl ?_
          refine R_istore_n (lv' := [some (.ref a0), some (.int a1), some (.int z4.1), some (.int v3)]) (dd dt_8_readCond 20 rfl) 2 rfl (by decide) rfl rfl ?_
          refine R_aload_n (dd dt_8_readCond 21 rfl) 0 rfl rfl ?_
          refine g_8_20 rfl k0 (dd dt_8_readCond 22 rfl) ?_
          refine R_bipush (v := (-2)) (dd dt_8_readCond 23 rfl) bp_m2 ?_
          obtain ⟨μ6, e5, h⟩ := bi_el h
          refine c_8_94 (As := [.int (-2)]) (st1 := []) rfl (fun Q1 hq => ok_5_addCode e5 (ty_8_2 k0) hq) (ty_8_2 k0) rfl rfl (Nat.le_of_ble_eq_true rfl) (dd dt_8_readCond 24 rfl) rfl ?_
          refine R_iinc (v := 1) (lv' := [some (.ref a0), some (.int a1), some (.int z4.1), some (.int (v3 + 1))]) (dd dt_8_readCond 25 rfl) (by decide) rfl rfl ic_1 rfl ?_
          refine R_goto (dd dt_8_readCond 26 rfl) (tgt := 8) rfl ?_
          exact R_mask [true, true, true, true] rfl (ok_8_readCond_l8 rc hrc0 hrc1 hrc2 hrc3 a0 a1 k0 n z4.1 (v3 + 1) μ6 _ h KX)
def f_8_readCond_b (rc : Nat → Nat → Int32 → mm → Option (Int32 × mm)) (a0 : Nat) (a1 : Int32) (μ : mm) : Option (Int32 × mm) :=
  (rc 1 a0 a1 μ).bind fun z2 =>
  (f_8_readCond_l8 rc a0 a1 FU z2.1 0 z2.2).bind fun z3 =>
  (gb z3.1).bind fun _ =>
  some (z3.1, z3.2)
set_option maxRecDepth 100000 in
set_option maxHeartbeats 4000000 in
theorem ok_8_readCond_b {l : Launch} {E : ce} {d nf : Nat} (rc : Nat → Nat → Int32 → mm → Option (Int32 × mm)) (hrc0 : ∀ {b0 : Nat} {x0 : Int32} {μ : mm} {r : Int32 × mm} {Q : Option Value → mm → Prop}, rc 0 b0 x0 μ = some r → kd b0 = 8 → Q (some (.int r.1)) r.2 → Ct l E (d + nf + 1) yX8_readCond m_8_readCond [.ref b0, .int x0] μ Q) (hrc1 : ∀ {b0 : Nat} {x0 : Int32} {μ : mm} {r : Int32 × mm} {Q : Option Value → mm → Prop}, rc 1 b0 x0 μ = some r → kd b0 = 8 → Q (some (.int r.1)) r.2 → Ct l E (d + nf + 1) yX8_readAll m_8_readAll [.ref b0, .int x0] μ Q) (hrc2 : ∀ {b0 : Nat} {x0 : Int32} {μ : mm} {r : Int32 × mm} {Q : Option Value → mm → Prop}, rc 2 b0 x0 μ = some r → kd b0 = 8 → Q (some (.int r.1)) r.2 → Ct l E (d + nf + 1) yX8_readOne m_8_readOne [.ref b0, .int x0] μ Q) (hrc3 : ∀ {b0 : Nat} {x0 : Int32} {μ : mm} {r : Int32 × mm} {Q : Option Value → mm → Prop}, rc 3 b0 x0 μ = some r → kd b0 = 8 → Q (some (.int r.1)) r.2 → Ct l E (d + nf + 1) yX8_readBrackets m_8_readBrackets [.ref b0, .int x0] μ Q)  {a0 : Nat} {a1 : Int32} {μ : mm} {r : Int32 × mm} {Q : Option Value → mm → Prop} (h : f_8_readCond_b rc a0 a1 μ = some r) (k0 : kd a0 = 8) (hQ : Q (some (.int r.1)) r.2) : Ct l E (d + nf + 1 + 1) yX8_readCond m_8_readCond [.ref a0, .int a1] μ Q := by
  refine Ct_of (lv := [some (.ref a0), some (.int a1), none, none]) (by decide) rfl (Nat.le_of_ble_eq_true rfl) rfl ?_
  unfold f_8_readCond_b at h
  refine R_aload_n (dd dt_8_readCond 0 rfl) 0 rfl rfl ?_
  refine R_iload_n (dd dt_8_readCond 1 rfl) 1 rfl rfl ?_
  obtain ⟨z2, e1, h⟩ := bi_el h
  refine c_8_91 (As := [.int a1]) (st1 := [.int z2.1]) rfl (fun Q1 hq => hrc1 e1 k0 hq) k0 rfl rfl (Nat.le_of_ble_eq_true rfl) (dd dt_8_readCond 2 rfl) rfl ?_
  refine R_istore_n (lv' := [some (.ref a0), some (.int a1), some (.int z2.1), none]) (dd dt_8_readCond 3 rfl) 2 rfl (by decide) rfl rfl ?_
  refine R_iconst (v := 0) (dd dt_8_readCond 4 rfl) ic_0 ?_
  refine R_istore_n (lv' := [some (.ref a0), some (.int a1), some (.int z2.1), some (.int 0)]) (dd dt_8_readCond 5 rfl) 3 rfl (by decide) rfl rfl ?_
  obtain ⟨z3, e4, h⟩ := bi_el h
  refine R_mask [true, true, true, true] rfl (ok_8_readCond_l8 rc hrc0 hrc1 hrc2 hrc3 a0 a1 k0 FU z2.1 0 z2.2 _ e4 ?_)
  refine R_iload_n (dd dt_8_readCond 27 rfl) 2 rfl rfl ?_
  obtain ⟨_, q5, h⟩ := bi_el h
  obtain rfl := Option.some.inj h
  exact R_zret rfl (bo_narrow (gb_el q5).1) (dd dt_8_readCond 28 rfl) hQ
/-! LongStrike$TextReader.readAll(I)Z -/
def tab_8_readAll : List (Nat × Instr × Nat) := [(0, .aload_n 0, 1), (1, .iload_n 1, 1), (2, .invokevirtual 98, 3), (5, .istore_n 2, 1), (6, .iconst 0, 1), (7, .istore_n 3, 1), (8, .iload_n 3, 1), (9, .sipush 300, 3), (12, .if_icmp .ge 40, 3), (15, .iload_n 2, 1), (16, .ifCond .eq 36, 3), (19, .aload_n 0, 1), (20, .getfield 37, 3), (23, .bipush 8, 2), (25, .if_icmp .ne 27, 3), (28, .aload_n 0, 1), (29, .invokevirtual 71, 3), (32, .aload_n 0, 1), (33, .iload_n 1, 1), (34, .invokevirtual 98, 3), (37, .istore_n 2, 1), (38, .aload_n 0, 1), (39, .getfield 20, 3), (42, .iconst (-1), 1), (43, .invokevirtual 94, 3), (46, .iinc 3 1, 3), (49, .goto (-41), 3), (52, .iload_n 2, 1), (53, .ireturn, 1)]
set_option maxRecDepth 100000 in
theorem dt_8_readAll : ∀ q ∈ tab_8_readAll, decode m_8_readAll.2.1 q.1 = .ok q.2 := by decide +kernel
def f_8_readAll_l8 (rc : Nat → Nat → Int32 → mm → Option (Int32 × mm)) (a0 : Nat) (a1 : Int32) : Nat → Int32 → Int32 → mm → Option (Int32 × mm)
  | 0, _, _, _ => none
  | n + 1, v2, v3, μ => if 300 ≤ v3 then
      some (v2, μ)
    else
      if v2 = 0 then
        some (v2, μ)
      else
        if (μ a0 7) = 8 then
          (f_8_step a0 μ).bind fun μ2 =>
          (rc 2 a0 a1 μ2).bind fun z4 =>
          (f_5_addCode (rf a0 2) (-1) z4.2).bind fun μ6 =>
          f_8_readAll_l8 rc a0 a1 n z4.1 (v3 + 1) μ6
        else
          some (v2, μ)
set_option maxRecDepth 100000 in
theorem ok_8_readAll_l8 {l : Launch} {E : ce} {d nf : Nat} {Q : Option Value → mm → Prop} (rc : Nat → Nat → Int32 → mm → Option (Int32 × mm)) (hrc0 : ∀ {b0 : Nat} {x0 : Int32} {μ : mm} {r : Int32 × mm} {Q : Option Value → mm → Prop}, rc 0 b0 x0 μ = some r → kd b0 = 8 → Q (some (.int r.1)) r.2 → Ct l E (d + nf + 1) yX8_readCond m_8_readCond [.ref b0, .int x0] μ Q) (hrc1 : ∀ {b0 : Nat} {x0 : Int32} {μ : mm} {r : Int32 × mm} {Q : Option Value → mm → Prop}, rc 1 b0 x0 μ = some r → kd b0 = 8 → Q (some (.int r.1)) r.2 → Ct l E (d + nf + 1) yX8_readAll m_8_readAll [.ref b0, .int x0] μ Q) (hrc2 : ∀ {b0 : Nat} {x0 : Int32} {μ : mm} {r : Int32 × mm} {Q : Option Value → mm → Prop}, rc 2 b0 x0 μ = some r → kd b0 = 8 → Q (some (.int r.1)) r.2 → Ct l E (d + nf + 1) yX8_readOne m_8_readOne [.ref b0, .int x0] μ Q) (hrc3 : ∀ {b0 : Nat} {x0 : Int32} {μ : mm} {r : Int32 × mm} {Q : Option Value → mm → Prop}, rc 3 b0 x0 μ = some r → kd b0 = 8 → Q (some (.int r.1)) r.2 → Ct l E (d + nf + 1) yX8_readBrackets m_8_readBrackets [.ref b0, .int x0] μ Q) (a0 : Nat) (a1 : Int32) (k0 : kd a0 = 8) : ∀ (n : Nat) (v2 : Int32) (v3 : Int32) (μ : mm) (z : Int32 × mm), f_8_readAll_l8 rc a0 a1 n v2 v3 μ = some z → Rj l E (d + nf + 1 + 1) m_8_readAll 52 [none, none, some (.int z.1), none] [] z.2 Q → Rj l E (d + nf + 1 + 1) m_8_readAll 8 [some (.ref a0), some (.int a1), some (.int v2), some (.int v3)] [] μ Q
  | 0, _, _, _, z, h, _ => by
    rw [f_8_readAll_l8] at h
    cases h
  | n + 1, v2, v3, μ, z, h, KX => by
    rw [f_8_readAll_l8] at h
    refine R_iload_n (dd dt_8_readAll 6 rfl) 3 rfl rfl ?_
    refine R_sipush (v := 300) (dd dt_8_readAll 7 rfl) sp_300 ?_
    refine R_cmpge (dd dt_8_readAll 8 rfl) (tgt := 52) rfl (fun hc => ?_) (fun hc => ?_)
    · rw [if_pos hc] at h
      obtain rfl := Option.some.inj h
      exact R_mask [false, false, true, false] rfl KX
    · rw [if_neg hc] at h
      refine R_iload_n (dd dt_8_readAll 9 rfl) 2 rfl rfl ?_
      refine R_ifeq (dd dt_8_readAll 10 rfl) (tgt := 52) rfl (fun hc => ?_) (fun hc => ?_)
      · rw [if_pos hc] at h
        obtain rfl := Option.some.inj h
        exact R_mask [false, false, true, false] rfl KX
      · rw [if_neg hc] at h
        refine R_aload_n (dd dt_8_readAll 11 rfl) 0 rfl rfl ?_
        refine g_8_37 rfl k0 (dd dt_8_readAll 12 rfl) ?_
        refine R_bipush (v := 8) (dd dt_8_readAll 13 rfl) bp_8 ?_
        refine R_cmpne (dd dt_8_readAll 14 rfl) (tgt := 52) rfl (fun hc => ?_) (fun hc => ?_)
        · rw [if_neg hc] at h
          obtain rfl := Option.some.inj h
          exact R_mask [false, false, true, false] rfl KX
        · rw [if_pos hc] at h
          refine R_aload_n (dd dt_8_readAll 15 rfl) 0 rfl rfl ?_
          obtain ⟨μ2, e1, h⟩ := bi_el h
          refine c_8_71 (As := []) (st1 := []) rfl (fun Q1 hq => ok_8_step e1 k0 hq) k0 rfl rfl (Nat.le_of_ble_eq_true rfl) (dd dt_8_readAll 16 rfl) rfl ?_
          refine R_aload_n (dd dt_8_readAll 17 rfl) 0 rfl rfl ?_
          refine R_iload_n (dd dt_8_readAll 18 rfl) 1 rfl rfl ?_
          obtain ⟨z4, e3, h⟩ := bi_el h
          refine c_8_98 (As := [.int a1]) (st1 := [.int z4.1]) rfl (fun Q1 hq => hrc2 e3 k0 hq) k0 rfl rfl (Nat.le_of_ble_eq_true rfl) (dd dt_8_readAll 19 rfl) rfl ?_
          refine R_istore_n (lv' := [some (.ref a0), some (.int a1), some (.int z4.1), some (.int v3)]) (dd dt_8_readAll 20 rfl) 2 rfl (by decide) rfl rfl ?_
          refine R_aload_n (dd dt_8_readAll 21 rfl) 0 rfl rfl ?_
          refine g_8_20 rfl k0 (dd dt_8_readAll 22 rfl) ?_
          refine R_iconst (v := (-1)) (dd dt_8_readAll 23 rfl) ic_m1 ?_
          obtain ⟨μ6, e5, h⟩ := bi_el h
          refine c_8_94 (As := [.int (-1)]) (st1 := []) rfl (fun Q1 hq => ok_5_addCode e5 (ty_8_2 k0) hq) (ty_8_2 k0) rfl rfl (Nat.le_of_ble_eq_true rfl) (dd dt_8_readAll 24 rfl) rfl ?_
          refine R_iinc (v := 1) (lv' := [some (.ref a0), some (.int a1), some (.int z4.1), some (.int (v3 + 1))]) (dd dt_8_readAll 25 rfl) (by decide) rfl rfl ic_1 rfl ?_
          refine R_goto (dd dt_8_readAll 26 rfl) (tgt := 8) rfl ?_
          exact R_mask [true, true, true, true] rfl (ok_8_readAll_l8 rc hrc0 hrc1 hrc2 hrc3 a0 a1 k0 n z4.1 (v3 + 1) μ6 _ h KX)
def f_8_readAll_b (rc : Nat → Nat → Int32 → mm → Option (Int32 × mm)) (a0 : Nat) (a1 : Int32) (μ : mm) : Option (Int32 × mm) :=
  (rc 2 a0 a1 μ).bind fun z2 =>
  (f_8_readAll_l8 rc a0 a1 FU z2.1 0 z2.2).bind fun z3 =>
  (gb z3.1).bind fun _ =>
  some (z3.1, z3.2)
set_option maxRecDepth 100000 in
set_option maxHeartbeats 4000000 in
theorem ok_8_readAll_b {l : Launch} {E : ce} {d nf : Nat} (rc : Nat → Nat → Int32 → mm → Option (Int32 × mm)) (hrc0 : ∀ {b0 : Nat} {x0 : Int32} {μ : mm} {r : Int32 × mm} {Q : Option Value → mm → Prop}, rc 0 b0 x0 μ = some r → kd b0 = 8 → Q (some (.int r.1)) r.2 → Ct l E (d + nf + 1) yX8_readCond m_8_readCond [.ref b0, .int x0] μ Q) (hrc1 : ∀ {b0 : Nat} {x0 : Int32} {μ : mm} {r : Int32 × mm} {Q : Option Value → mm → Prop}, rc 1 b0 x0 μ = some r → kd b0 = 8 → Q (some (.int r.1)) r.2 → Ct l E (d + nf + 1) yX8_readAll m_8_readAll [.ref b0, .int x0] μ Q) (hrc2 : ∀ {b0 : Nat} {x0 : Int32} {μ : mm} {r : Int32 × mm} {Q : Option Value → mm → Prop}, rc 2 b0 x0 μ = some r → kd b0 = 8 → Q (some (.int r.1)) r.2 → Ct l E (d + nf + 1) yX8_readOne m_8_readOne [.ref b0, .int x0] μ Q) (hrc3 : ∀ {b0 : Nat} {x0 : Int32} {μ : mm} {r : Int32 × mm} {Q : Option Value → mm → Prop}, rc 3 b0 x0 μ = some r → kd b0 = 8 → Q (some (.int r.1)) r.2 → Ct l E (d + nf + 1) yX8_readBrackets m_8_readBrackets [.ref b0, .int x0] μ Q)  {a0 : Nat} {a1 : Int32} {μ : mm} {r : Int32 × mm} {Q : Option Value → mm → Prop} (h : f_8_readAll_b rc a0 a1 μ = some r) (k0 : kd a0 = 8) (hQ : Q (some (.int r.1)) r.2) : Ct l E (d + nf + 1 + 1) yX8_readAll m_8_readAll [.ref a0, .int a1] μ Q := by
  refine Ct_of (lv := [some (.ref a0), some (.int a1), none, none]) (by decide) rfl (Nat.le_of_ble_eq_true rfl) rfl ?_
  unfold f_8_readAll_b at h
  refine R_aload_n (dd dt_8_readAll 0 rfl) 0 rfl rfl ?_
  refine R_iload_n (dd dt_8_readAll 1 rfl) 1 rfl rfl ?_
  obtain ⟨z2, e1, h⟩ := bi_el h
  refine c_8_98 (As := [.int a1]) (st1 := [.int z2.1]) rfl (fun Q1 hq => hrc2 e1 k0 hq) k0 rfl rfl (Nat.le_of_ble_eq_true rfl) (dd dt_8_readAll 2 rfl) rfl ?_
  refine R_istore_n (lv' := [some (.ref a0), some (.int a1), some (.int z2.1), none]) (dd dt_8_readAll 3 rfl) 2 rfl (by decide) rfl rfl ?_
  refine R_iconst (v := 0) (dd dt_8_readAll 4 rfl) ic_0 ?_
  refine R_istore_n (lv' := [some (.ref a0), some (.int a1), some (.int z2.1), some (.int 0)]) (dd dt_8_readAll 5 rfl) 3 rfl (by decide) rfl rfl ?_
  obtain ⟨z3, e4, h⟩ := bi_el h
  refine R_mask [true, true, true, true] rfl (ok_8_readAll_l8 rc hrc0 hrc1 hrc2 hrc3 a0 a1 k0 FU z2.1 0 z2.2 _ e4 ?_)
  refine R_iload_n (dd dt_8_readAll 27 rfl) 2 rfl rfl ?_
  obtain ⟨_, q5, h⟩ := bi_el h
  obtain rfl := Option.some.inj h
  exact R_zret rfl (bo_narrow (gb_el q5).1) (dd dt_8_readAll 28 rfl) hQ
/-! LongStrike$TextReader.readOne(I)Z -/
def tab_8_readOne : List (Nat × Instr × Nat) := [(0, .iconst 0, 1), (1, .istore_n 2, 1), (2, .iconst 0, 1), (3, .istore_n 3, 1), (4, .iload_n 3, 1), (5, .sipush 300, 3), (8, .if_icmp .ge 32, 3), (11, .aload_n 0, 1), (12, .getfield 37, 3), (15, .bipush 10, 2), (17, .if_icmp .ne 23, 3), (20, .aload_n 0, 1), (21, .invokevirtual 71, 3), (24, .iload_n 2, 1), (25, .ifCond .ne 7, 3), (28, .iconst 1, 1), (29, .goto 4, 3), (32, .iconst 0, 1), (33, .istore_n 2, 1), (34, .iinc 3 1, 3), (37, .goto (-33), 3), (40, .aload_n 0, 1), (41, .getfield 37, 3), (44, .bipush 40, 2), (46, .if_icmp .ne 11, 3), (49, .aload_n 0, 1), (50, .iload_n 1, 1), (51, .invokevirtual 101, 3), (54, .goto 7, 3), (57, .aload_n 0, 1), (58, .invokevirtual 104, 3), (61, .istore_n 3, 1), (62, .iload_n 3, 1), (63, .ifCond .eq 16, 3), (66, .iload_n 2, 1), (67, .ifCond .eq 12, 3), (70, .aload_n 0, 1), (71, .getfield 20, 3), (74, .bipush (-3), 2), (76, .invokevirtual 94, 3), (79, .iload_n 3, 1), (80, .ireturn, 1)]
set_option maxRecDepth 100000 in
theorem dt_8_readOne : ∀ q ∈ tab_8_readOne, decode m_8_readOne.2.1 q.1 = .ok q.2 := by decide +kernel
def f_8_readOne_l4 (rc : Nat → Nat → Int32 → mm → Option (Int32 × mm)) (a0 : Nat) (a1 : Int32) : Nat → Int32 → Int32 → mm → Option (Int32 × mm)
  | 0, _, _, _ => none
  | n + 1, v2, v3, μ => if 300 ≤ v3 then
      some (v2, μ)
    else
      if (μ a0 7) = 10 then
        (f_8_step a0 μ).bind fun μ2 =>
        if v2 = 0 then
          f_8_readOne_l4 rc a0 a1 n 1 (v3 + 1) μ2
        else
          f_8_readOne_l4 rc a0 a1 n 0 (v3 + 1) μ2
      else
        some (v2, μ)
set_option maxRecDepth 100000 in
theorem ok_8_readOne_l4 {l : Launch} {E : ce} {d nf : Nat} {Q : Option Value → mm → Prop} (rc : Nat → Nat → Int32 → mm → Option (Int32 × mm)) (hrc0 : ∀ {b0 : Nat} {x0 : Int32} {μ : mm} {r : Int32 × mm} {Q : Option Value → mm → Prop}, rc 0 b0 x0 μ = some r → kd b0 = 8 → Q (some (.int r.1)) r.2 → Ct l E (d + nf + 1) yX8_readCond m_8_readCond [.ref b0, .int x0] μ Q) (hrc1 : ∀ {b0 : Nat} {x0 : Int32} {μ : mm} {r : Int32 × mm} {Q : Option Value → mm → Prop}, rc 1 b0 x0 μ = some r → kd b0 = 8 → Q (some (.int r.1)) r.2 → Ct l E (d + nf + 1) yX8_readAll m_8_readAll [.ref b0, .int x0] μ Q) (hrc2 : ∀ {b0 : Nat} {x0 : Int32} {μ : mm} {r : Int32 × mm} {Q : Option Value → mm → Prop}, rc 2 b0 x0 μ = some r → kd b0 = 8 → Q (some (.int r.1)) r.2 → Ct l E (d + nf + 1) yX8_readOne m_8_readOne [.ref b0, .int x0] μ Q) (hrc3 : ∀ {b0 : Nat} {x0 : Int32} {μ : mm} {r : Int32 × mm} {Q : Option Value → mm → Prop}, rc 3 b0 x0 μ = some r → kd b0 = 8 → Q (some (.int r.1)) r.2 → Ct l E (d + nf + 1) yX8_readBrackets m_8_readBrackets [.ref b0, .int x0] μ Q) (a0 : Nat) (a1 : Int32) (k0 : kd a0 = 8) : ∀ (n : Nat) (v2 : Int32) (v3 : Int32) (μ : mm) (z : Int32 × mm), f_8_readOne_l4 rc a0 a1 n v2 v3 μ = some z → Rj l E (d + nf + 1 + 1) m_8_readOne 40 [some (.ref a0), some (.int a1), some (.int z.1), none] [] z.2 Q → Rj l E (d + nf + 1 + 1) m_8_readOne 4 [some (.ref a0), some (.int a1), some (.int v2), some (.int v3)] [] μ Q
  | 0, _, _, _, z, h, _ => by
    rw [f_8_readOne_l4] at h
    cases h
  | n + 1, v2, v3, μ, z, h, KX => by
    rw [f_8_readOne_l4] at h
    refine R_iload_n (dd dt_8_readOne 4 rfl) 3 rfl rfl ?_
    refine R_sipush (v := 300) (dd dt_8_readOne 5 rfl) sp_300 ?_
    refine R_cmpge (dd dt_8_readOne 6 rfl) (tgt := 40) rfl (fun hc => ?_) (fun hc => ?_)
    · rw [if_pos hc] at h
      obtain rfl := Option.some.inj h
      exact R_mask [true, true, true, false] rfl KX
    · rw [if_neg hc] at h
      refine R_aload_n (dd dt_8_readOne 7 rfl) 0 rfl rfl ?_
      refine g_8_37 rfl k0 (dd dt_8_readOne 8 rfl) ?_
      refine R_bipush (v := 10) (dd dt_8_readOne 9 rfl) bp_10 ?_
      refine R_cmpne (dd dt_8_readOne 10 rfl) (tgt := 40) rfl (fun hc => ?_) (fun hc => ?_)
      · rw [if_neg hc] at h
        obtain rfl := Option.some.inj h
        exact R_mask [true, true, true, false] rfl KX
      · rw [if_pos hc] at h
        refine R_aload_n (dd dt_8_readOne 11 rfl) 0 rfl rfl ?_
        obtain ⟨μ2, e1, h⟩ := bi_el h
        refine c_8_71 (As := []) (st1 := []) rfl (fun Q1 hq => ok_8_step e1 k0 hq) k0 rfl rfl (Nat.le_of_ble_eq_true rfl) (dd dt_8_readOne 12 rfl) rfl ?_
        refine R_iload_n (dd dt_8_readOne 13 rfl) 2 rfl rfl ?_
        refine R_ifne (dd dt_8_readOne 14 rfl) (tgt := 32) rfl (fun hc => ?_) (fun hc => ?_)
        · rw [if_neg hc] at h
          refine R_iconst (v := 0) (dd dt_8_readOne 17 rfl) ic_0 ?_
          refine R_istore_n (lv' := [some (.ref a0), some (.int a1), some (.int 0), some (.int v3)]) (dd dt_8_readOne 18 rfl) 2 rfl (by decide) rfl rfl ?_
          refine R_iinc (v := 1) (lv' := [some (.ref a0), some (.int a1), some (.int 0), some (.int (v3 + 1))]) (dd dt_8_readOne 19 rfl) (by decide) rfl rfl ic_1 rfl ?_
          refine R_goto (dd dt_8_readOne 20 rfl) (tgt := 4) rfl ?_
          exact R_mask [true, true, true, true] rfl (ok_8_readOne_l4 rc hrc0 hrc1 hrc2 hrc3 a0 a1 k0 n 0 (v3 + 1) μ2 _ h KX)
        · rw [if_pos hc] at h
          refine R_iconst (v := 1) (dd dt_8_readOne 15 rfl) ic_1 ?_
          refine R_goto (dd dt_8_readOne 16 rfl) (tgt := 33) rfl ?_
          refine R_istore_n (lv' := [some (.ref a0), some (.int a1), some (.int 1), some (.int v3)]) (dd dt_8_readOne 18 rfl) 2 rfl (by decide) rfl rfl ?_
          refine R_iinc (v := 1) (lv' := [some (.ref a0), some (.int a1), some (.int 1), some (.int (v3 + 1))]) (dd dt_8_readOne 19 rfl) (by decide) rfl rfl ic_1 rfl ?_
          refine R_goto (dd dt_8_readOne 20 rfl) (tgt := 4) rfl ?_
          exact R_mask [true, true, true, true] rfl (ok_8_readOne_l4 rc hrc0 hrc1 hrc2 hrc3 a0 a1 k0 n 1 (v3 + 1) μ2 _ h KX)
def f_8_readOne_b (rc : Nat → Nat → Int32 → mm → Option (Int32 × mm)) (a0 : Nat) (a1 : Int32) (μ : mm) : Option (Int32 × mm) :=
  (f_8_readOne_l4 rc a0 a1 FU 0 0 μ).bind fun z1 =>
  (if (z1.2 a0 7) = 40 then
      (rc 3 a0 a1 z1.2).bind fun z6 =>
      some (z6.1, z6.2)
    else
      (f_8_readTest a0 z1.2).bind fun z4 =>
      some (z4.1, z4.2)).bind fun (z7 : Int32 × mm) =>
  if z7.1 = 0 then
    (gb z7.1).bind fun _ =>
    some (z7.1, z7.2)
  else
    if z1.1 = 0 then
      (gb z7.1).bind fun _ =>
      some (z7.1, z7.2)
    else
      (f_5_addCode (rf a0 2) (-3) z7.2).bind fun μ11 =>
      (gb z7.1).bind fun _ =>
      some (z7.1, μ11)
set_option maxRecDepth 100000 in
set_option maxHeartbeats 4000000 in
theorem ok_8_readOne_b {l : Launch} {E : ce} {d nf : Nat} (rc : Nat → Nat → Int32 → mm → Option (Int32 × mm)) (hrc0 : ∀ {b0 : Nat} {x0 : Int32} {μ : mm} {r : Int32 × mm} {Q : Option Value → mm → Prop}, rc 0 b0 x0 μ = some r → kd b0 = 8 → Q (some (.int r.1)) r.2 → Ct l E (d + nf + 1) yX8_readCond m_8_readCond [.ref b0, .int x0] μ Q) (hrc1 : ∀ {b0 : Nat} {x0 : Int32} {μ : mm} {r : Int32 × mm} {Q : Option Value → mm → Prop}, rc 1 b0 x0 μ = some r → kd b0 = 8 → Q (some (.int r.1)) r.2 → Ct l E (d + nf + 1) yX8_readAll m_8_readAll [.ref b0, .int x0] μ Q) (hrc2 : ∀ {b0 : Nat} {x0 : Int32} {μ : mm} {r : Int32 × mm} {Q : Option Value → mm → Prop}, rc 2 b0 x0 μ = some r → kd b0 = 8 → Q (some (.int r.1)) r.2 → Ct l E (d + nf + 1) yX8_readOne m_8_readOne [.ref b0, .int x0] μ Q) (hrc3 : ∀ {b0 : Nat} {x0 : Int32} {μ : mm} {r : Int32 × mm} {Q : Option Value → mm → Prop}, rc 3 b0 x0 μ = some r → kd b0 = 8 → Q (some (.int r.1)) r.2 → Ct l E (d + nf + 1) yX8_readBrackets m_8_readBrackets [.ref b0, .int x0] μ Q)  {a0 : Nat} {a1 : Int32} {μ : mm} {r : Int32 × mm} {Q : Option Value → mm → Prop} (h : f_8_readOne_b rc a0 a1 μ = some r) (k0 : kd a0 = 8) (hQ : Q (some (.int r.1)) r.2) : Ct l E (d + nf + 1 + 1) yX8_readOne m_8_readOne [.ref a0, .int a1] μ Q := by
  refine Ct_of (lv := [some (.ref a0), some (.int a1), none, none]) (by decide) rfl (Nat.le_of_ble_eq_true rfl) rfl ?_
  unfold f_8_readOne_b at h
  refine R_iconst (v := 0) (dd dt_8_readOne 0 rfl) ic_0 ?_
  refine R_istore_n (lv' := [some (.ref a0), some (.int a1), some (.int 0), none]) (dd dt_8_readOne 1 rfl) 2 rfl (by decide) rfl rfl ?_
  refine R_iconst (v := 0) (dd dt_8_readOne 2 rfl) ic_0 ?_
  refine R_istore_n (lv' := [some (.ref a0), some (.int a1), some (.int 0), some (.int 0)]) (dd dt_8_readOne 3 rfl) 3 rfl (by decide) rfl rfl ?_
  obtain ⟨z1, e2, h⟩ := bi_el h
  refine R_mask [true, true, true, true] rfl (ok_8_readOne_l4 rc hrc0 hrc1 hrc2 hrc3 a0 a1 k0 FU 0 0 μ _ e2 ?_)
  refine R_aload_n (dd dt_8_readOne 21 rfl) 0 rfl rfl ?_
  refine g_8_37 rfl k0 (dd dt_8_readOne 22 rfl) ?_
  refine R_bipush (v := 40) (dd dt_8_readOne 23 rfl) bp_40 ?_
  obtain ⟨z7, hz7, h⟩ := bi_el h
  have K7 : Rj l E (d + nf + 1 + 1) m_8_readOne 61 [some (.ref a0), none, some (.int z1.1), none] [.int z7.1] z7.2 Q := by
    clear hz7
    refine R_istore_n (lv' := [some (.ref a0), none, some (.int z1.1), some (.int z7.1)]) (dd dt_8_readOne 31 rfl) 3 rfl (by decide) rfl rfl ?_
    refine R_iload_n (dd dt_8_readOne 32 rfl) 3 rfl rfl ?_
    refine R_ifeq (dd dt_8_readOne 33 rfl) (tgt := 79) rfl (fun hc => ?_) (fun hc => ?_)
    · rw [if_pos hc] at h
      refine R_iload_n (dd dt_8_readOne 40 rfl) 3 rfl rfl ?_
      obtain ⟨_, q8, h⟩ := bi_el h
      obtain rfl := Option.some.inj h
      exact R_zret rfl (bo_narrow (gb_el q8).1) (dd dt_8_readOne 41 rfl) hQ
    · rw [if_neg hc] at h
      refine R_iload_n (dd dt_8_readOne 34 rfl) 2 rfl rfl ?_
      refine R_ifeq (dd dt_8_readOne 35 rfl) (tgt := 79) rfl (fun hc => ?_) (fun hc => ?_)
      · rw [if_pos hc] at h
        refine R_iload_n (dd dt_8_readOne 40 rfl) 3 rfl rfl ?_
        obtain ⟨_, q9, h⟩ := bi_el h
        obtain rfl := Option.some.inj h
        exact R_zret rfl (bo_narrow (gb_el q9).1) (dd dt_8_readOne 41 rfl) hQ
      · rw [if_neg hc] at h
        refine R_aload_n (dd dt_8_readOne 36 rfl) 0 rfl rfl ?_
        refine g_8_20 rfl k0 (dd dt_8_readOne 37 rfl) ?_
        refine R_bipush (v := (-3)) (dd dt_8_readOne 38 rfl) bp_m3 ?_
        obtain ⟨μ11, e10, h⟩ := bi_el h
        refine c_8_94 (As := [.int (-3)]) (st1 := []) rfl (fun Q1 hq => ok_5_addCode e10 (ty_8_2 k0) hq) (ty_8_2 k0) rfl rfl (Nat.le_of_ble_eq_true rfl) (dd dt_8_readOne 39 rfl) rfl ?_
        refine R_iload_n (dd dt_8_readOne 40 rfl) 3 rfl rfl ?_
        obtain ⟨_, q12, h⟩ := bi_el h
        obtain rfl := Option.some.inj h
        exact R_zret rfl (bo_narrow (gb_el q12).1) (dd dt_8_readOne 41 rfl) hQ
  clear h
  have h := hz7
  clear hz7
  refine R_cmpne (dd dt_8_readOne 24 rfl) (tgt := 57) rfl (fun hc => ?_) (fun hc => ?_)
  · rw [if_neg hc] at h
    refine R_aload_n (dd dt_8_readOne 29 rfl) 0 rfl rfl ?_
    obtain ⟨z4, e3, h⟩ := bi_el h
    refine c_8_104 (As := []) (st1 := [.int z4.1]) rfl (fun Q1 hq => ok_8_readTest e3 k0 hq) k0 rfl rfl (Nat.le_of_ble_eq_true rfl) (dd dt_8_readOne 30 rfl) rfl ?_
    obtain rfl := Option.some.inj h
    exact R_mask [true, false, true, false] rfl K7
  · rw [if_pos hc] at h
    refine R_aload_n (dd dt_8_readOne 25 rfl) 0 rfl rfl ?_
    refine R_iload_n (dd dt_8_readOne 26 rfl) 1 rfl rfl ?_
    obtain ⟨z6, e5, h⟩ := bi_el h
    refine c_8_101 (As := [.int a1]) (st1 := [.int z6.1]) rfl (fun Q1 hq => hrc3 e5 k0 hq) k0 rfl rfl (Nat.le_of_ble_eq_true rfl) (dd dt_8_readOne 27 rfl) rfl ?_
    refine R_goto (dd dt_8_readOne 28 rfl) (tgt := 61) rfl ?_
    obtain rfl := Option.some.inj h
    exact R_mask [true, false, true, false] rfl K7
/-! LongStrike$TextReader.readBrackets(I)Z -/
def tab_8_readBrackets : List (Nat × Instr × Nat) := [(0, .iload_n 1, 1), (1, .iconst 4, 1), (2, .if_icmp .lt 5, 3), (5, .iconst 0, 1), (6, .ireturn, 1), (7, .aload_n 0, 1), (8, .invokevirtual 71, 3), (11, .aload_n 0, 1), (12, .iload_n 1, 1), (13, .iconst 1, 1), (14, .iadd, 1), (15, .invokevirtual 84, 3), (18, .ifCond .eq 12, 3), (21, .aload_n 0, 1), (22, .getfield 37, 3), (25, .bipush 41, 2), (27, .if_icmp .eq 5, 3), (30, .iconst 0, 1), (31, .ireturn, 1), (32, .aload_n 0, 1), (33, .invokevirtual 71, 3), (36, .iconst 1, 1), (37, .ireturn, 1)]
set_option maxRecDepth 100000 in
theorem dt_8_readBrackets : ∀ q ∈ tab_8_readBrackets, decode m_8_readBrackets.2.1 q.1 = .ok q.2 := by decide +kernel
def f_8_readBrackets_b (rc : Nat → Nat → Int32 → mm → Option (Int32 × mm)) (a0 : Nat) (a1 : Int32) (μ : mm) : Option (Int32 × mm) :=
  if a1 < 4 then
    (f_8_step a0 μ).bind fun μ2 =>
    (rc 0 a0 (a1 + 1) μ2).bind fun z4 =>
    if z4.1 = 0 then
      some (0, z4.2)
    else
      if (z4.2 a0 7) = 41 then
        (f_8_step a0 z4.2).bind fun μ6 =>
        some (1, μ6)
      else
        some (0, z4.2)
  else
    some (0, μ)
set_option maxRecDepth 100000 in
set_option maxHeartbeats 4000000 in
theorem ok_8_readBrackets_b {l : Launch} {E : ce} {d nf : Nat} (rc : Nat → Nat → Int32 → mm → Option (Int32 × mm)) (hrc0 : ∀ {b0 : Nat} {x0 : Int32} {μ : mm} {r : Int32 × mm} {Q : Option Value → mm → Prop}, rc 0 b0 x0 μ = some r → kd b0 = 8 → Q (some (.int r.1)) r.2 → Ct l E (d + nf + 1) yX8_readCond m_8_readCond [.ref b0, .int x0] μ Q) (hrc1 : ∀ {b0 : Nat} {x0 : Int32} {μ : mm} {r : Int32 × mm} {Q : Option Value → mm → Prop}, rc 1 b0 x0 μ = some r → kd b0 = 8 → Q (some (.int r.1)) r.2 → Ct l E (d + nf + 1) yX8_readAll m_8_readAll [.ref b0, .int x0] μ Q) (hrc2 : ∀ {b0 : Nat} {x0 : Int32} {μ : mm} {r : Int32 × mm} {Q : Option Value → mm → Prop}, rc 2 b0 x0 μ = some r → kd b0 = 8 → Q (some (.int r.1)) r.2 → Ct l E (d + nf + 1) yX8_readOne m_8_readOne [.ref b0, .int x0] μ Q) (hrc3 : ∀ {b0 : Nat} {x0 : Int32} {μ : mm} {r : Int32 × mm} {Q : Option Value → mm → Prop}, rc 3 b0 x0 μ = some r → kd b0 = 8 → Q (some (.int r.1)) r.2 → Ct l E (d + nf + 1) yX8_readBrackets m_8_readBrackets [.ref b0, .int x0] μ Q)  {a0 : Nat} {a1 : Int32} {μ : mm} {r : Int32 × mm} {Q : Option Value → mm → Prop} (h : f_8_readBrackets_b rc a0 a1 μ = some r) (k0 : kd a0 = 8) (hQ : Q (some (.int r.1)) r.2) : Ct l E (d + nf + 1 + 1) yX8_readBrackets m_8_readBrackets [.ref a0, .int a1] μ Q := by
  refine Ct_of (lv := [some (.ref a0), some (.int a1)]) (by decide) rfl (Nat.le_of_ble_eq_true rfl) rfl ?_
  unfold f_8_readBrackets_b at h
  refine R_iload_n (dd dt_8_readBrackets 0 rfl) 1 rfl rfl ?_
  refine R_iconst (v := 4) (dd dt_8_readBrackets 1 rfl) ic_4 ?_
  refine R_cmplt (dd dt_8_readBrackets 2 rfl) (tgt := 7) rfl (fun hc => ?_) (fun hc => ?_)
  · rw [if_pos hc] at h
    refine R_aload_n (dd dt_8_readBrackets 5 rfl) 0 rfl rfl ?_
    obtain ⟨μ2, e1, h⟩ := bi_el h
    refine c_8_71 (As := []) (st1 := []) rfl (fun Q1 hq => ok_8_step e1 k0 hq) k0 rfl rfl (Nat.le_of_ble_eq_true rfl) (dd dt_8_readBrackets 6 rfl) rfl ?_
    refine R_aload_n (dd dt_8_readBrackets 7 rfl) 0 rfl rfl ?_
    refine R_iload_n (dd dt_8_readBrackets 8 rfl) 1 rfl rfl ?_
    refine R_iconst (v := 1) (dd dt_8_readBrackets 9 rfl) ic_1 ?_
    refine R_iadd (dd dt_8_readBrackets 10 rfl) ?_
    obtain ⟨z4, e3, h⟩ := bi_el h
    refine c_8_84 (As := [.int (a1 + 1)]) (st1 := [.int z4.1]) rfl (fun Q1 hq => hrc0 e3 k0 hq) k0 rfl rfl (Nat.le_of_ble_eq_true rfl) (dd dt_8_readBrackets 11 rfl) rfl ?_
    refine R_ifeq (dd dt_8_readBrackets 12 rfl) (tgt := 30) rfl (fun hc => ?_) (fun hc => ?_)
    · rw [if_pos hc] at h
      refine R_iconst (v := 0) (dd dt_8_readBrackets 17 rfl) ic_0 ?_
      obtain rfl := Option.some.inj h
      exact R_zret rfl (by decide) (dd dt_8_readBrackets 18 rfl) hQ
    · rw [if_neg hc] at h
      refine R_aload_n (dd dt_8_readBrackets 13 rfl) 0 rfl rfl ?_
      refine g_8_37 rfl k0 (dd dt_8_readBrackets 14 rfl) ?_
      refine R_bipush (v := 41) (dd dt_8_readBrackets 15 rfl) bp_41 ?_
      refine R_cmpeq (dd dt_8_readBrackets 16 rfl) (tgt := 32) rfl (fun hc => ?_) (fun hc => ?_)
      · rw [if_pos hc] at h
        refine R_aload_n (dd dt_8_readBrackets 19 rfl) 0 rfl rfl ?_
        obtain ⟨μ6, e5, h⟩ := bi_el h
        refine c_8_71 (As := []) (st1 := []) rfl (fun Q1 hq => ok_8_step e5 k0 hq) k0 rfl rfl (Nat.le_of_ble_eq_true rfl) (dd dt_8_readBrackets 20 rfl) rfl ?_
        refine R_iconst (v := 1) (dd dt_8_readBrackets 21 rfl) ic_1 ?_
        obtain rfl := Option.some.inj h
        exact R_zret rfl (by decide) (dd dt_8_readBrackets 22 rfl) hQ
      · rw [if_neg hc] at h
        refine R_iconst (v := 0) (dd dt_8_readBrackets 17 rfl) ic_0 ?_
        obtain rfl := Option.some.inj h
        exact R_zret rfl (by decide) (dd dt_8_readBrackets 18 rfl) hQ
  · rw [if_neg hc] at h
    refine R_iconst (v := 0) (dd dt_8_readBrackets 3 rfl) ic_0 ?_
    obtain rfl := Option.some.inj h
    exact R_zret rfl (by decide) (dd dt_8_readBrackets 4 rfl) hQ
def f_8_readCond_G : Nat → Nat → Nat → Int32 → mm → Option (Int32 × mm)
  | 0, _, _, _, _ => none
  | n + 1, t, b0, x0, μ => if t = 0 then f_8_readCond_b (f_8_readCond_G n) b0 x0 μ else if t = 1 then f_8_readAll_b (f_8_readCond_G n) b0 x0 μ else if t = 2 then f_8_readOne_b (f_8_readCond_G n) b0 x0 μ else if t = 3 then f_8_readBrackets_b (f_8_readCond_G n) b0 x0 μ else none
set_option maxRecDepth 100000 in
theorem ok_8_readCond_G {l : Launch} {E : ce} {d : Nat} : ∀ n : Nat, (∀ {b0 : Nat} {x0 : Int32} {μ : mm} {r : Int32 × mm} {Q : Option Value → mm → Prop}, f_8_readCond_G n 0 b0 x0 μ = some r → kd b0 = 8 → Q (some (.int r.1)) r.2 → Ct l E (d + n + 1) yX8_readCond m_8_readCond [.ref b0, .int x0] μ Q) ∧ (∀ {b0 : Nat} {x0 : Int32} {μ : mm} {r : Int32 × mm} {Q : Option Value → mm → Prop}, f_8_readCond_G n 1 b0 x0 μ = some r → kd b0 = 8 → Q (some (.int r.1)) r.2 → Ct l E (d + n + 1) yX8_readAll m_8_readAll [.ref b0, .int x0] μ Q) ∧ (∀ {b0 : Nat} {x0 : Int32} {μ : mm} {r : Int32 × mm} {Q : Option Value → mm → Prop}, f_8_readCond_G n 2 b0 x0 μ = some r → kd b0 = 8 → Q (some (.int r.1)) r.2 → Ct l E (d + n + 1) yX8_readOne m_8_readOne [.ref b0, .int x0] μ Q) ∧ (∀ {b0 : Nat} {x0 : Int32} {μ : mm} {r : Int32 × mm} {Q : Option Value → mm → Prop}, f_8_readCond_G n 3 b0 x0 μ = some r → kd b0 = 8 → Q (some (.int r.1)) r.2 → Ct l E (d + n + 1) yX8_readBrackets m_8_readBrackets [.ref b0, .int x0] μ Q) ∧ True
  | 0 => by
    refine ⟨?_, ?_, ?_, ?_, trivial⟩
    · intro b0 x0 μ r Q h kb hQ
      rw [f_8_readCond_G] at h
      cases h
    · intro b0 x0 μ r Q h kb hQ
      rw [f_8_readCond_G] at h
      cases h
    · intro b0 x0 μ r Q h kb hQ
      rw [f_8_readCond_G] at h
      cases h
    · intro b0 x0 μ r Q h kb hQ
      rw [f_8_readCond_G] at h
      cases h
  | n + 1 => by
    obtain ⟨i0, i1, i2, i3, -⟩ := ok_8_readCond_G (l := l) (E := E) (d := d) n
    refine ⟨?_, ?_, ?_, ?_, trivial⟩
    · intro b0 x0 μ r Q h kb hQ
      simp only [f_8_readCond_G, if_pos] at h
      have hh := ok_8_readCond_b (l := l) (E := E) (d := d) (nf := n) (rc := f_8_readCond_G n) (fun h k q => i0 h k q) (fun h k q => i1 h k q) (fun h k q => i2 h k q) (fun h k q => i3 h k q) h kb hQ
      rw [show d + (n + 1) + 1 = d + n + 1 + 1 by omega]
      exact hh
    · intro b0 x0 μ r Q h kb hQ
      simp only [f_8_readCond_G, if_pos] at h
      have hh := ok_8_readAll_b (l := l) (E := E) (d := d) (nf := n) (rc := f_8_readCond_G n) (fun h k q => i0 h k q) (fun h k q => i1 h k q) (fun h k q => i2 h k q) (fun h k q => i3 h k q) h kb hQ
      rw [show d + (n + 1) + 1 = d + n + 1 + 1 by omega]
      exact hh
    · intro b0 x0 μ r Q h kb hQ
      simp only [f_8_readCond_G, if_pos] at h
      have hh := ok_8_readOne_b (l := l) (E := E) (d := d) (nf := n) (rc := f_8_readCond_G n) (fun h k q => i0 h k q) (fun h k q => i1 h k q) (fun h k q => i2 h k q) (fun h k q => i3 h k q) h kb hQ
      rw [show d + (n + 1) + 1 = d + n + 1 + 1 by omega]
      exact hh
    · intro b0 x0 μ r Q h kb hQ
      simp only [f_8_readCond_G, if_pos] at h
      have hh := ok_8_readBrackets_b (l := l) (E := E) (d := d) (nf := n) (rc := f_8_readCond_G n) (fun h k q => i0 h k q) (fun h k q => i1 h k q) (fun h k q => i2 h k q) (fun h k q => i3 h k q) h kb hQ
      rw [show d + (n + 1) + 1 = d + n + 1 + 1 by omega]
      exact hh
theorem ok_8_readCond_G_0 {l : Launch} {E : ce} {d : Nat} (n : Nat) {b0 : Nat} {x0 : Int32} {μ : mm} {r : Int32 × mm} {Q : Option Value → mm → Prop} (h : f_8_readCond_G n 0 b0 x0 μ = some r) (kb : kd b0 = 8) (hQ : Q (some (.int r.1)) r.2) : Ct l E (d + n + 1) yX8_readCond m_8_readCond [.ref b0, .int x0] μ Q := (ok_8_readCond_G (l := l) (E := E) (d := d) n).1 h kb hQ
theorem ok_8_readCond_G_1 {l : Launch} {E : ce} {d : Nat} (n : Nat) {b0 : Nat} {x0 : Int32} {μ : mm} {r : Int32 × mm} {Q : Option Value → mm → Prop} (h : f_8_readCond_G n 1 b0 x0 μ = some r) (kb : kd b0 = 8) (hQ : Q (some (.int r.1)) r.2) : Ct l E (d + n + 1) yX8_readAll m_8_readAll [.ref b0, .int x0] μ Q := (ok_8_readCond_G (l := l) (E := E) (d := d) n).2.1 h kb hQ
theorem ok_8_readCond_G_2 {l : Launch} {E : ce} {d : Nat} (n : Nat) {b0 : Nat} {x0 : Int32} {μ : mm} {r : Int32 × mm} {Q : Option Value → mm → Prop} (h : f_8_readCond_G n 2 b0 x0 μ = some r) (kb : kd b0 = 8) (hQ : Q (some (.int r.1)) r.2) : Ct l E (d + n + 1) yX8_readOne m_8_readOne [.ref b0, .int x0] μ Q := (ok_8_readCond_G (l := l) (E := E) (d := d) n).2.2.1 h kb hQ
theorem ok_8_readCond_G_3 {l : Launch} {E : ce} {d : Nat} (n : Nat) {b0 : Nat} {x0 : Int32} {μ : mm} {r : Int32 × mm} {Q : Option Value → mm → Prop} (h : f_8_readCond_G n 3 b0 x0 μ = some r) (kb : kd b0 = 8) (hQ : Q (some (.int r.1)) r.2) : Ct l E (d + n + 1) yX8_readBrackets m_8_readBrackets [.ref b0, .int x0] μ Q := (ok_8_readCond_G (l := l) (E := E) (d := d) n).2.2.2.1 h kb hQ
/-! LongStrike$TextReader.readLine()Z -/
def tab_8_readLine : List (Nat × Instr × Nat) := [(0, .aload_n 0, 1), (1, .getfield 37, 3), (4, .istore_n 1, 1), (5, .iload_n 1, 1), (6, .iconst 0, 1), (7, .bipush 6, 2), (9, .invokestatic 54, 3), (12, .ifCond .ne 5, 3), (15, .iconst 0, 1), (16, .ireturn, 1), (17, .aload_n 0, 1), (18, .invokevirtual 71, 3), (21, .iconst 0, 1), (22, .istore_n 2, 1), (23, .iload_n 1, 1), (24, .iconst 5, 1), (25, .if_icmp .eq 39, 3), (28, .aload_n 0, 1), (29, .iload_n 1, 1), (30, .iconst 1, 1), (31, .if_icmp .ne 8, 3), (34, .bipush 9, 2), (36, .goto 6, 3), (39, .sipush 999, 3), (42, .invokevirtual 74, 3), (45, .ifCond .ne 5, 3), (48, .iconst 0, 1), (49, .ireturn, 1), (50, .aload_n 0, 1), (51, .getfield 31, 3), (54, .aload_n 0, 1), (55, .getfield 34, 3), (58, .iaload, 1), (59, .istore_n 2, 1), (60, .aload_n 0, 1), (61, .invokevirtual 71, 3), (64, .aload_n 0, 1), (65, .getfield 20, 3), (68, .invokevirtual 77, 3), (71, .istore_n 3, 1), (72, .aload_n 0, 1), (73, .getfield 37, 3), (76, .bipush 7, 2), (78, .if_icmp .ne 24, 3), (81, .iload_n 1, 1), (82, .invokestatic 81, 3), (85, .ifCond .eq 17, 3), (88, .aload_n 0, 1), (89, .invokevirtual 71, 3), (92, .aload_n 0, 1), (93, .iconst 0, 1), (94, .invokevirtual 84, 3), (97, .ifCond .ne 5, 3), (100, .iconst 0, 1), (101, .ireturn, 1), (102, .aload_n 0, 1), (103, .getfield 20, 3), (106, .iload_n 1, 1), (107, .iload_n 2, 1), (108, .iload_n 3, 1), (109, .invokevirtual 87, 3), (112, .aload_n 0, 1), (113, .getfield 37, 3), (116, .bipush 59, 2), (118, .if_icmp .eq 5, 3), (121, .iconst 0, 1), (122, .ireturn, 1), (123, .aload_n 0, 1), (124, .invokevirtual 71, 3), (127, .iconst 1, 1), (128, .ireturn, 1)]
set_option maxRecDepth 100000 in
theorem dt_8_readLine : ∀ q ∈ tab_8_readLine, decode m_8_readLine.2.1 q.1 = .ok q.2 := by decide +kernel
def f_8_readLine_b102 (a0 : Nat) (a1 : Int32) (a2 : Int32) (a3 : Int32) (μ : mm) : Option (Int32 × mm) :=
  (f_5_addLine (rf a0 2) a1 a2 a3 μ).bind fun μ2 =>
  if (μ2 a0 7) = 59 then
    (f_8_step a0 μ2).bind fun μ4 =>
    some (1, μ4)
  else
    some (0, μ2)
set_option maxRecDepth 100000 in
set_option maxHeartbeats 4000000 in
theorem ok_8_readLine_b102 {l : Launch} {E : ce} {d : Nat}  {a0 : Nat} {a1 : Int32} {a2 : Int32} {a3 : Int32} {μ : mm} {r : Int32 × mm} {Q : Option Value → mm → Prop} (h : f_8_readLine_b102 a0 a1 a2 a3 μ = some r) (k0 : kd a0 = 8) (hQ : Q (some (.int r.1)) r.2) : Rj l E (d + 29) m_8_readLine 102 [some (.ref a0), some (.int a1), some (.int a2), some (.int a3)] [] μ Q := by
  unfold f_8_readLine_b102 at h
  refine R_aload_n (dd dt_8_readLine 55 rfl) 0 rfl rfl ?_
  refine g_8_20 rfl k0 (dd dt_8_readLine 56 rfl) ?_
  refine R_iload_n (dd dt_8_readLine 57 rfl) 1 rfl rfl ?_
  refine R_iload_n (dd dt_8_readLine 58 rfl) 2 rfl rfl ?_
  refine R_iload_n (dd dt_8_readLine 59 rfl) 3 rfl rfl ?_
  obtain ⟨μ2, e1, h⟩ := bi_el h
  refine c_8_87 (As := [.int a1, .int a2, .int a3]) (st1 := []) rfl (fun Q1 hq => ok_5_addLine e1 (ty_8_2 k0) hq) (ty_8_2 k0) rfl rfl (Nat.le_of_ble_eq_true rfl) (dd dt_8_readLine 60 rfl) rfl ?_
  refine R_aload_n (dd dt_8_readLine 61 rfl) 0 rfl rfl ?_
  refine g_8_37 rfl k0 (dd dt_8_readLine 62 rfl) ?_
  refine R_bipush (v := 59) (dd dt_8_readLine 63 rfl) bp_59 ?_
  refine R_cmpeq (dd dt_8_readLine 64 rfl) (tgt := 123) rfl (fun hc => ?_) (fun hc => ?_)
  · rw [if_pos hc] at h
    refine R_aload_n (dd dt_8_readLine 67 rfl) 0 rfl rfl ?_
    obtain ⟨μ4, e3, h⟩ := bi_el h
    refine c_8_71 (As := []) (st1 := []) rfl (fun Q1 hq => ok_8_step e3 k0 hq) k0 rfl rfl (Nat.le_of_ble_eq_true rfl) (dd dt_8_readLine 68 rfl) rfl ?_
    refine R_iconst (v := 1) (dd dt_8_readLine 69 rfl) ic_1 ?_
    obtain rfl := Option.some.inj h
    exact R_zret rfl (by decide) (dd dt_8_readLine 70 rfl) hQ
  · rw [if_neg hc] at h
    refine R_iconst (v := 0) (dd dt_8_readLine 65 rfl) ic_0 ?_
    obtain rfl := Option.some.inj h
    exact R_zret rfl (by decide) (dd dt_8_readLine 66 rfl) hQ
def f_8_readLine_b64 (a0 : Nat) (a1 : Int32) (a2 : Int32) (μ : mm) : Option (Int32 × mm) :=
  (f_5_codeEnd (rf a0 2) μ).bind fun x2 =>
  if (μ a0 7) = 7 then
    (f_8_mayHaveCond a1 μ).bind fun x4 =>
    if x4 = 0 then
      f_8_readLine_b102 a0 a1 a2 x2 μ
    else
      (f_8_step a0 μ).bind fun μ6 =>
      (f_8_readCond_G 27 0 a0 0 μ6).bind fun z8 =>
      if z8.1 = 0 then
        some (0, z8.2)
      else
        f_8_readLine_b102 a0 a1 a2 x2 z8.2
  else
    f_8_readLine_b102 a0 a1 a2 x2 μ
set_option maxRecDepth 100000 in
set_option maxHeartbeats 4000000 in
theorem ok_8_readLine_b64 {l : Launch} {E : ce} {d : Nat}  {a0 : Nat} {a1 : Int32} {a2 : Int32} {μ : mm} {r : Int32 × mm} {Q : Option Value → mm → Prop} (h : f_8_readLine_b64 a0 a1 a2 μ = some r) (k0 : kd a0 = 8) (hQ : Q (some (.int r.1)) r.2) : Rj l E (d + 29) m_8_readLine 64 [some (.ref a0), some (.int a1), some (.int a2), none] [] μ Q := by
  unfold f_8_readLine_b64 at h
  refine R_aload_n (dd dt_8_readLine 36 rfl) 0 rfl rfl ?_
  refine g_8_20 rfl k0 (dd dt_8_readLine 37 rfl) ?_
  obtain ⟨x2, e1, h⟩ := bi_el h
  refine c_8_77 (As := []) (st1 := [.int x2]) rfl (fun Q1 hq => ok_5_codeEnd e1 (ty_8_2 k0) hq) (ty_8_2 k0) rfl rfl (Nat.le_of_ble_eq_true rfl) (dd dt_8_readLine 38 rfl) rfl ?_
  refine R_istore_n (lv' := [some (.ref a0), some (.int a1), some (.int a2), some (.int x2)]) (dd dt_8_readLine 39 rfl) 3 rfl (by decide) rfl rfl ?_
  refine R_aload_n (dd dt_8_readLine 40 rfl) 0 rfl rfl ?_
  refine g_8_37 rfl k0 (dd dt_8_readLine 41 rfl) ?_
  refine R_bipush (v := 7) (dd dt_8_readLine 42 rfl) bp_7 ?_
  refine R_cmpne (dd dt_8_readLine 43 rfl) (tgt := 102) rfl (fun hc => ?_) (fun hc => ?_)
  · rw [if_neg hc] at h
    exact R_mask [true, true, true, true] rfl (ok_8_readLine_b102  h k0 hQ)
  · rw [if_pos hc] at h
    refine R_iload_n (dd dt_8_readLine 44 rfl) 1 rfl rfl ?_
    obtain ⟨x4, e3, h⟩ := bi_el h
    refine c_8_81 (As := [.int a1]) (st1 := [.int x4]) rfl (fun Q1 hq => ok_8_mayHaveCond e3 hq) rfl rfl (Nat.le_of_ble_eq_true rfl) (dd dt_8_readLine 45 rfl) rfl ?_
    refine R_ifeq (dd dt_8_readLine 46 rfl) (tgt := 102) rfl (fun hc => ?_) (fun hc => ?_)
    · rw [if_pos hc] at h
      exact R_mask [true, true, true, true] rfl (ok_8_readLine_b102  h k0 hQ)
    · rw [if_neg hc] at h
      refine R_aload_n (dd dt_8_readLine 47 rfl) 0 rfl rfl ?_
      obtain ⟨μ6, e5, h⟩ := bi_el h
      refine c_8_71 (As := []) (st1 := []) rfl (fun Q1 hq => ok_8_step e5 k0 hq) k0 rfl rfl (Nat.le_of_ble_eq_true rfl) (dd dt_8_readLine 48 rfl) rfl ?_
      refine R_aload_n (dd dt_8_readLine 49 rfl) 0 rfl rfl ?_
      refine R_iconst (v := 0) (dd dt_8_readLine 50 rfl) ic_0 ?_
      obtain ⟨z8, e7, h⟩ := bi_el h
      refine c_8_84 (As := [.int 0]) (st1 := [.int z8.1]) rfl (fun Q1 hq => ok_8_readCond_G_0 _ e7 k0 hq) k0 rfl rfl (Nat.le_of_ble_eq_true rfl) (dd dt_8_readLine 51 rfl) rfl ?_
      refine R_ifne (dd dt_8_readLine 52 rfl) (tgt := 102) rfl (fun hc => ?_) (fun hc => ?_)
      · rw [if_neg hc] at h
        exact R_mask [true, true, true, true] rfl (ok_8_readLine_b102  h k0 hQ)
      · rw [if_pos hc] at h
        refine R_iconst (v := 0) (dd dt_8_readLine 53 rfl) ic_0 ?_
        obtain rfl := Option.some.inj h
        exact R_zret rfl (by decide) (dd dt_8_readLine 54 rfl) hQ
def f_8_readLine (a0 : Nat) (μ : mm) : Option (Int32 × mm) :=
  (f_11_isIn (μ a0 7) 0 6 μ).bind fun x2 =>
  if x2 = 0 then
    some (0, μ)
  else
    (f_8_step a0 μ).bind fun μ4 =>
    if (μ a0 7) = 5 then
      f_8_readLine_b64 a0 (μ a0 7) 0 μ4
    else
      (if (μ a0 7) = 1 then
          some 9
        else
          some 999).bind fun (z5 : Int32) =>
      (f_8_isNumberUpTo a0 z5 μ4).bind fun x7 =>
      if x7 = 0 then
        some (0, μ4)
      else
        (ld μ4 (rf a0 5) (μ4 a0 6)).bind fun x8 =>
        (f_8_step a0 μ4).bind fun μ11 =>
        f_8_readLine_b64 a0 (μ a0 7) x8 μ11
set_option maxRecDepth 100000 in
set_option maxHeartbeats 4000000 in
theorem ok_8_readLine {l : Launch} {E : ce} {d : Nat}  {a0 : Nat} {μ : mm} {r : Int32 × mm} {Q : Option Value → mm → Prop} (h : f_8_readLine a0 μ = some r) (k0 : kd a0 = 8) (hQ : Q (some (.int r.1)) r.2) : Ct l E (d + 29) yX8_readLine m_8_readLine [.ref a0] μ Q := by
  refine Ct_of (lv := [some (.ref a0), none, none, none]) (by decide) rfl (Nat.le_of_ble_eq_true rfl) rfl ?_
  unfold f_8_readLine at h
  refine R_aload_n (dd dt_8_readLine 0 rfl) 0 rfl rfl ?_
  refine g_8_37 rfl k0 (dd dt_8_readLine 1 rfl) ?_
  refine R_istore_n (lv' := [some (.ref a0), some (.int (μ a0 7)), none, none]) (dd dt_8_readLine 2 rfl) 1 rfl (by decide) rfl rfl ?_
  refine R_iload_n (dd dt_8_readLine 3 rfl) 1 rfl rfl ?_
  refine R_iconst (v := 0) (dd dt_8_readLine 4 rfl) ic_0 ?_
  refine R_bipush (v := 6) (dd dt_8_readLine 5 rfl) bp_6 ?_
  obtain ⟨x2, e1, h⟩ := bi_el h
  refine c_8_54 (As := [.int (μ a0 7), .int 0, .int 6]) (st1 := [.int x2]) rfl (fun Q1 hq => ok_11_isIn e1 hq) rfl rfl (Nat.le_of_ble_eq_true rfl) (dd dt_8_readLine 6 rfl) rfl ?_
  refine R_ifne (dd dt_8_readLine 7 rfl) (tgt := 17) rfl (fun hc => ?_) (fun hc => ?_)
  · rw [if_neg hc] at h
    refine R_aload_n (dd dt_8_readLine 10 rfl) 0 rfl rfl ?_
    obtain ⟨μ4, e3, h⟩ := bi_el h
    refine c_8_71 (As := []) (st1 := []) rfl (fun Q1 hq => ok_8_step e3 k0 hq) k0 rfl rfl (Nat.le_of_ble_eq_true rfl) (dd dt_8_readLine 11 rfl) rfl ?_
    refine R_iconst (v := 0) (dd dt_8_readLine 12 rfl) ic_0 ?_
    refine R_istore_n (lv' := [some (.ref a0), some (.int (μ a0 7)), some (.int 0), none]) (dd dt_8_readLine 13 rfl) 2 rfl (by decide) rfl rfl ?_
    refine R_iload_n (dd dt_8_readLine 14 rfl) 1 rfl rfl ?_
    refine R_iconst (v := 5) (dd dt_8_readLine 15 rfl) ic_5 ?_
    refine R_cmpeq (dd dt_8_readLine 16 rfl) (tgt := 64) rfl (fun hc => ?_) (fun hc => ?_)
    · rw [if_pos hc] at h
      exact R_mask [true, true, true, false] rfl (ok_8_readLine_b64  h k0 hQ)
    · rw [if_neg hc] at h
      refine R_aload_n (dd dt_8_readLine 17 rfl) 0 rfl rfl ?_
      refine R_iload_n (dd dt_8_readLine 18 rfl) 1 rfl rfl ?_
      refine R_iconst (v := 1) (dd dt_8_readLine 19 rfl) ic_1 ?_
      obtain ⟨z5, hz5, h⟩ := bi_el h
      have K5 : Rj l E (d + 29) m_8_readLine 42 [some (.ref a0), some (.int (μ a0 7)), none, none] [.int z5, .ref a0] μ4 Q := by
        clear hz5
        obtain ⟨x7, e6, h⟩ := bi_el h
        refine c_8_74 (As := [.int z5]) (st1 := [.int x7]) rfl (fun Q1 hq => ok_8_isNumberUpTo e6 k0 hq) k0 rfl rfl (Nat.le_of_ble_eq_true rfl) (dd dt_8_readLine 24 rfl) rfl ?_
        refine R_ifne (dd dt_8_readLine 25 rfl) (tgt := 50) rfl (fun hc => ?_) (fun hc => ?_)
        · rw [if_neg hc] at h
          refine R_aload_n (dd dt_8_readLine 28 rfl) 0 rfl rfl ?_
          refine g_8_31 rfl k0 (dd dt_8_readLine 29 rfl) ?_
          refine R_aload_n (dd dt_8_readLine 30 rfl) 0 rfl rfl ?_
          refine g_8_34 rfl k0 (dd dt_8_readLine 31 rfl) ?_
          obtain ⟨x8, e9, h⟩ := bi_el h
          refine R_ild e9 (ty_8_5 k0) (dd dt_8_readLine 32 rfl) ?_
          refine R_istore_n (lv' := [some (.ref a0), some (.int (μ a0 7)), some (.int x8), none]) (dd dt_8_readLine 33 rfl) 2 rfl (by decide) rfl rfl ?_
          refine R_aload_n (dd dt_8_readLine 34 rfl) 0 rfl rfl ?_
          obtain ⟨μ11, e10, h⟩ := bi_el h
          refine c_8_71 (As := []) (st1 := []) rfl (fun Q1 hq => ok_8_step e10 k0 hq) k0 rfl rfl (Nat.le_of_ble_eq_true rfl) (dd dt_8_readLine 35 rfl) rfl ?_
          exact R_mask [true, true, true, false] rfl (ok_8_readLine_b64  h k0 hQ)
        · rw [if_pos hc] at h
          refine R_iconst (v := 0) (dd dt_8_readLine 26 rfl) ic_0 ?_
          obtain rfl := Option.some.inj h
          exact R_zret rfl (by decide) (dd dt_8_readLine 27 rfl) hQ
      clear h
      have h := hz5
      clear hz5
      refine R_cmpne (dd dt_8_readLine 20 rfl) (tgt := 39) rfl (fun hc => ?_) (fun hc => ?_)
      · rw [if_neg hc] at h
        refine R_sipush (v := 999) (dd dt_8_readLine 23 rfl) sp_999 ?_
        obtain rfl := Option.some.inj h
        exact R_mask [true, true, false, false] rfl K5
      · rw [if_pos hc] at h
        refine R_bipush (v := 9) (dd dt_8_readLine 21 rfl) bp_9 ?_
        refine R_goto (dd dt_8_readLine 22 rfl) (tgt := 42) rfl ?_
        obtain rfl := Option.some.inj h
        exact R_mask [true, true, false, false] rfl K5
  · rw [if_pos hc] at h
    refine R_iconst (v := 0) (dd dt_8_readLine 8 rfl) ic_0 ?_
    obtain rfl := Option.some.inj h
    exact R_zret rfl (by decide) (dd dt_8_readLine 9 rfl) hQ
/-! LongStrike$TextReader.endOfRun(ICC)I -/
def tab_8_endOfRun : List (Nat × Instr × Nat) := [(0, .iload_n 1, 1), (1, .istore 4, 2), (3, .iload 4, 2), (5, .aload_n 0, 1), (6, .getfield 13, 3), (9, .if_icmp .ge 24, 3), (12, .aload_n 0, 1), (13, .getfield 9, 3), (16, .iload 4, 2), (18, .baload, 1), (19, .iload_n 2, 1), (20, .iload_n 3, 1), (21, .invokestatic 54, 3), (24, .ifCond .eq 9, 3), (27, .iinc 4 1, 3), (30, .goto (-27), 3), (33, .iload 4, 2), (35, .ireturn, 1)]
set_option maxRecDepth 100000 in
theorem dt_8_endOfRun : ∀ q ∈ tab_8_endOfRun, decode m_8_endOfRun.2.1 q.1 = .ok q.2 := by decide +kernel
def f_8_endOfRun_l3 (a0 : Nat) (a2 : Int32) (a3 : Int32) (μ : mm) : Nat → Int32 → Option (Int32)
  | 0, _ => none
  | n + 1, v4 => if (μ a0 1) ≤ v4 then
      some v4
    else
      (ld μ (rf a0 0) v4).bind fun x1 =>
      (f_11_isIn x1 a2 a3 μ).bind fun x4 =>
      if x4 = 0 then
        some v4
      else
        f_8_endOfRun_l3 a0 a2 a3 μ n (v4 + 1)
set_option maxRecDepth 100000 in
theorem ok_8_endOfRun_l3 {l : Launch} {E : ce} {d : Nat} {Q : Option Value → mm → Prop} (a0 : Nat) (a2 : Int32) (a3 : Int32) (μ : mm) (k0 : kd a0 = 8) : ∀ (n : Nat) (v4 : Int32) (z : Int32), f_8_endOfRun_l3 a0 a2 a3 μ n v4 = some z → Rj l E (d + 1) m_8_endOfRun 33 [none, none, none, none, some (.int z)] [] μ Q → Rj l E (d + 1) m_8_endOfRun 3 [some (.ref a0), none, some (.int a2), some (.int a3), some (.int v4)] [] μ Q
  | 0, _, z, h, _ => by
    rw [f_8_endOfRun_l3] at h
    cases h
  | n + 1, v4, z, h, KX => by
    rw [f_8_endOfRun_l3] at h
    refine R_iload (dd dt_8_endOfRun 2 rfl) rfl ?_
    refine R_aload_n (dd dt_8_endOfRun 3 rfl) 0 rfl rfl ?_
    refine g_8_13 rfl k0 (dd dt_8_endOfRun 4 rfl) ?_
    refine R_cmpge (dd dt_8_endOfRun 5 rfl) (tgt := 33) rfl (fun hc => ?_) (fun hc => ?_)
    · rw [if_pos hc] at h
      obtain rfl := Option.some.inj h
      exact R_mask [false, false, false, false, true] rfl KX
    · rw [if_neg hc] at h
      refine R_aload_n (dd dt_8_endOfRun 6 rfl) 0 rfl rfl ?_
      refine g_8_9 rfl k0 (dd dt_8_endOfRun 7 rfl) ?_
      refine R_iload (dd dt_8_endOfRun 8 rfl) rfl ?_
      obtain ⟨x1, e2, h⟩ := bi_el h
      refine R_bld e2 (ty_8_0 k0) (dd dt_8_endOfRun 9 rfl) ?_
      refine R_iload_n (dd dt_8_endOfRun 10 rfl) 2 rfl rfl ?_
      refine R_iload_n (dd dt_8_endOfRun 11 rfl) 3 rfl rfl ?_
      obtain ⟨x4, e3, h⟩ := bi_el h
      refine c_8_54 (As := [.int x1, .int a2, .int a3]) (st1 := [.int x4]) rfl (fun Q1 hq => ok_11_isIn e3 hq) rfl rfl (Nat.le_of_ble_eq_true rfl) (dd dt_8_endOfRun 12 rfl) rfl ?_
      refine R_ifeq (dd dt_8_endOfRun 13 rfl) (tgt := 33) rfl (fun hc => ?_) (fun hc => ?_)
      · rw [if_pos hc] at h
        obtain rfl := Option.some.inj h
        exact R_mask [false, false, false, false, true] rfl KX
      · rw [if_neg hc] at h
        refine R_iinc (v := 1) (lv' := [some (.ref a0), none, some (.int a2), some (.int a3), some (.int (v4 + 1))]) (dd dt_8_endOfRun 14 rfl) (by decide) rfl rfl ic_1 rfl ?_
        refine R_goto (dd dt_8_endOfRun 15 rfl) (tgt := 3) rfl ?_
        exact R_mask [true, false, true, true, true] rfl (ok_8_endOfRun_l3 a0 a2 a3 μ k0 n (v4 + 1) _ h KX)
def f_8_endOfRun (a0 : Nat) (a1 : Int32) (a2 : Int32) (a3 : Int32) (μ : mm) : Option (Int32) :=
  (f_8_endOfRun_l3 a0 a2 a3 μ FU a1).bind fun z1 =>
  some z1
set_option maxRecDepth 100000 in
set_option maxHeartbeats 4000000 in
theorem ok_8_endOfRun {l : Launch} {E : ce} {d : Nat}  {a0 : Nat} {a1 : Int32} {a2 : Int32} {a3 : Int32} {μ : mm} {r : Int32} {Q : Option Value → mm → Prop} (h : f_8_endOfRun a0 a1 a2 a3 μ = some r) (k0 : kd a0 = 8) (hQ : Q (some (.int r)) μ) : Ct l E (d + 1) yX8_endOfRun m_8_endOfRun [.ref a0, .int a1, .int a2, .int a3] μ Q := by
  refine Ct_of (lv := [some (.ref a0), some (.int a1), some (.int a2), some (.int a3), none]) (by decide) rfl (Nat.le_of_ble_eq_true rfl) rfl ?_
  unfold f_8_endOfRun at h
  refine R_iload_n (dd dt_8_endOfRun 0 rfl) 1 rfl rfl ?_
  refine R_istore (lv' := [some (.ref a0), some (.int a1), some (.int a2), some (.int a3), some (.int a1)]) (dd dt_8_endOfRun 1 rfl) (by decide) rfl rfl ?_
  obtain ⟨z1, e2, h⟩ := bi_el h
  refine R_mask [true, false, true, true, true] rfl (ok_8_endOfRun_l3 a0 a2 a3 μ k0 FU a1 _ e2 ?_)
  refine R_iload (dd dt_8_endOfRun 16 rfl) rfl ?_
  obtain rfl := Option.some.inj h
  exact R_iret rfl (dd dt_8_endOfRun 17 rfl) hQ
/-! LongStrike$TextReader.isSign(I)Z -/
def tab_8_isSign : List (Nat × Instr × Nat) := [(0, .iload_n 0, 1), (1, .bipush 59, 2), (3, .if_icmp .eq 26, 3), (6, .iload_n 0, 1), (7, .bipush 40, 2), (9, .if_icmp .eq 20, 3), (12, .iload_n 0, 1), (13, .bipush 41, 2), (15, .if_icmp .eq 14, 3), (18, .iload_n 0, 1), (19, .bipush 60, 2), (21, .bipush 62, 2), (23, .invokestatic 54, 3), (26, .ifCond .eq 7, 3), (29, .iconst 1, 1), (30, .goto 4, 3), (33, .iconst 0, 1), (34, .ireturn, 1)]
set_option maxRecDepth 100000 in
theorem dt_8_isSign : ∀ q ∈ tab_8_isSign, decode m_8_isSign.2.1 q.1 = .ok q.2 := by decide +kernel
def f_8_isSign (a0 : Int32) (μ : mm) : Option (Int32) :=
  if a0 = 59 then
    some 1
  else
    if a0 = 40 then
      some 1
    else
      if a0 = 41 then
        some 1
      else
        (f_11_isIn a0 60 62 μ).bind fun x2 =>
        if x2 = 0 then
          some 0
        else
          some 1
set_option maxRecDepth 100000 in
set_option maxHeartbeats 4000000 in
theorem ok_8_isSign {l : Launch} {E : ce} {d : Nat}  {a0 : Int32} {μ : mm} {r : Int32} {Q : Option Value → mm → Prop} (h : f_8_isSign a0 μ = some r)  (hQ : Q (some (.int r)) μ) : Ct l E (d + 1) yX8_isSign m_8_isSign [.int a0] μ Q := by
  refine Ct_of (lv := [some (.int a0)]) (by decide) rfl (Nat.le_of_ble_eq_true rfl) rfl ?_
  unfold f_8_isSign at h
  refine R_iload_n (dd dt_8_isSign 0 rfl) 0 rfl rfl ?_
  refine R_bipush (v := 59) (dd dt_8_isSign 1 rfl) bp_59 ?_
  refine R_cmpeq (dd dt_8_isSign 2 rfl) (tgt := 29) rfl (fun hc => ?_) (fun hc => ?_)
  · rw [if_pos hc] at h
    refine R_iconst (v := 1) (dd dt_8_isSign 14 rfl) ic_1 ?_
    refine R_goto (dd dt_8_isSign 15 rfl) (tgt := 34) rfl ?_
    obtain rfl := Option.some.inj h
    exact R_zret rfl (by decide) (dd dt_8_isSign 17 rfl) hQ
  · rw [if_neg hc] at h
    refine R_iload_n (dd dt_8_isSign 3 rfl) 0 rfl rfl ?_
    refine R_bipush (v := 40) (dd dt_8_isSign 4 rfl) bp_40 ?_
    refine R_cmpeq (dd dt_8_isSign 5 rfl) (tgt := 29) rfl (fun hc => ?_) (fun hc => ?_)
    · rw [if_pos hc] at h
      refine R_iconst (v := 1) (dd dt_8_isSign 14 rfl) ic_1 ?_
      refine R_goto (dd dt_8_isSign 15 rfl) (tgt := 34) rfl ?_
      obtain rfl := Option.some.inj h
      exact R_zret rfl (by decide) (dd dt_8_isSign 17 rfl) hQ
    · rw [if_neg hc] at h
      refine R_iload_n (dd dt_8_isSign 6 rfl) 0 rfl rfl ?_
      refine R_bipush (v := 41) (dd dt_8_isSign 7 rfl) bp_41 ?_
      refine R_cmpeq (dd dt_8_isSign 8 rfl) (tgt := 29) rfl (fun hc => ?_) (fun hc => ?_)
      · rw [if_pos hc] at h
        refine R_iconst (v := 1) (dd dt_8_isSign 14 rfl) ic_1 ?_
        refine R_goto (dd dt_8_isSign 15 rfl) (tgt := 34) rfl ?_
        obtain rfl := Option.some.inj h
        exact R_zret rfl (by decide) (dd dt_8_isSign 17 rfl) hQ
      · rw [if_neg hc] at h
        refine R_iload_n (dd dt_8_isSign 9 rfl) 0 rfl rfl ?_
        refine R_bipush (v := 60) (dd dt_8_isSign 10 rfl) bp_60 ?_
        refine R_bipush (v := 62) (dd dt_8_isSign 11 rfl) bp_62 ?_
        obtain ⟨x2, e1, h⟩ := bi_el h
        refine c_8_54 (As := [.int a0, .int 60, .int 62]) (st1 := [.int x2]) rfl (fun Q1 hq => ok_11_isIn e1 hq) rfl rfl (Nat.le_of_ble_eq_true rfl) (dd dt_8_isSign 12 rfl) rfl ?_
        refine R_ifeq (dd dt_8_isSign 13 rfl) (tgt := 33) rfl (fun hc => ?_) (fun hc => ?_)
        · rw [if_pos hc] at h
          refine R_iconst (v := 0) (dd dt_8_isSign 16 rfl) ic_0 ?_
          obtain rfl := Option.some.inj h
          exact R_zret rfl (by decide) (dd dt_8_isSign 17 rfl) hQ
        · rw [if_neg hc] at h
          refine R_iconst (v := 1) (dd dt_8_isSign 14 rfl) ic_1 ?_
          refine R_goto (dd dt_8_isSign 15 rfl) (tgt := 34) rfl ?_
          obtain rfl := Option.some.inj h
          exact R_zret rfl (by decide) (dd dt_8_isSign 17 rfl) hQ
/-! LongStrike$TextReader.numberBetween(II)I -/
def tab_8_numberBetween : List (Nat × Instr × Nat) := [(0, .iload_n 2, 1), (1, .iload_n 1, 1), (2, .isub, 1), (3, .iconst 3, 1), (4, .if_icmp .le 7, 3), (7, .sipush 1000, 3), (10, .ireturn, 1), (11, .iconst 0, 1), (12, .istore_n 3, 1), (13, .iload_n 1, 1), (14, .istore 4, 2), (16, .iload 4, 2), (18, .iload_n 2, 1), (19, .if_icmp .ge 25, 3), (22, .iload_n 3, 1), (23, .bipush 10, 2), (25, .imul, 1), (26, .aload_n 0, 1), (27, .getfield 9, 3), (30, .iload 4, 2), (32, .baload, 1), (33, .iadd, 1), (34, .bipush 48, 2), (36, .isub, 1), (37, .istore_n 3, 1), (38, .iinc 4 1, 3), (41, .goto (-25), 3), (44, .iload_n 3, 1), (45, .ireturn, 1)]
set_option maxRecDepth 100000 in
theorem dt_8_numberBetween : ∀ q ∈ tab_8_numberBetween, decode m_8_numberBetween.2.1 q.1 = .ok q.2 := by decide +kernel
def f_8_numberBetween_l16 (a0 : Nat) (a2 : Int32) (μ : mm) : Nat → Int32 → Int32 → Option (Int32)
  | 0, _, _ => none
  | n + 1, v3, v4 => if a2 ≤ v4 then
      some v3
    else
      (ld μ (rf a0 0) v4).bind fun x1 =>
      f_8_numberBetween_l16 a0 a2 μ n (((v3 * 10) + x1) - 48) (v4 + 1)
set_option maxRecDepth 100000 in
theorem ok_8_numberBetween_l16 {l : Launch} {E : ce} {d : Nat} {Q : Option Value → mm → Prop} (a0 : Nat) (a2 : Int32) (μ : mm) (k0 : kd a0 = 8) : ∀ (n : Nat) (v3 : Int32) (v4 : Int32) (z : Int32), f_8_numberBetween_l16 a0 a2 μ n v3 v4 = some z → Rj l E d m_8_numberBetween 44 [none, none, none, some (.int z), none] [] μ Q → Rj l E d m_8_numberBetween 16 [some (.ref a0), none, some (.int a2), some (.int v3), some (.int v4)] [] μ Q
  | 0, _, _, z, h, _ => by
    rw [f_8_numberBetween_l16] at h
    cases h
  | n + 1, v3, v4, z, h, KX => by
    rw [f_8_numberBetween_l16] at h
    refine R_iload (dd dt_8_numberBetween 11 rfl) rfl ?_
    refine R_iload_n (dd dt_8_numberBetween 12 rfl) 2 rfl rfl ?_
    refine R_cmpge (dd dt_8_numberBetween 13 rfl) (tgt := 44) rfl (fun hc => ?_) (fun hc => ?_)
    · rw [if_pos hc] at h
      obtain rfl := Option.some.inj h
      exact R_mask [false, false, false, true, false] rfl KX
    · rw [if_neg hc] at h
      refine R_iload_n (dd dt_8_numberBetween 14 rfl) 3 rfl rfl ?_
      refine R_bipush (v := 10) (dd dt_8_numberBetween 15 rfl) bp_10 ?_
      refine R_imul (dd dt_8_numberBetween 16 rfl) ?_
      refine R_aload_n (dd dt_8_numberBetween 17 rfl) 0 rfl rfl ?_
      refine g_8_9 rfl k0 (dd dt_8_numberBetween 18 rfl) ?_
      refine R_iload (dd dt_8_numberBetween 19 rfl) rfl ?_
      obtain ⟨x1, e2, h⟩ := bi_el h
      refine R_bld e2 (ty_8_0 k0) (dd dt_8_numberBetween 20 rfl) ?_
      refine R_iadd (dd dt_8_numberBetween 21 rfl) ?_
      refine R_bipush (v := 48) (dd dt_8_numberBetween 22 rfl) bp_48 ?_
      refine R_isub (dd dt_8_numberBetween 23 rfl) ?_
      refine R_istore_n (lv' := [some (.ref a0), none, some (.int a2), some (.int (((v3 * 10) + x1) - 48)), some (.int v4)]) (dd dt_8_numberBetween 24 rfl) 3 rfl (by decide) rfl rfl ?_
      refine R_iinc (v := 1) (lv' := [some (.ref a0), none, some (.int a2), some (.int (((v3 * 10) + x1) - 48)), some (.int (v4 + 1))]) (dd dt_8_numberBetween 25 rfl) (by decide) rfl rfl ic_1 rfl ?_
      refine R_goto (dd dt_8_numberBetween 26 rfl) (tgt := 16) rfl ?_
      exact R_mask [true, false, true, true, true] rfl (ok_8_numberBetween_l16 a0 a2 μ k0 n (((v3 * 10) + x1) - 48) (v4 + 1) _ h KX)
def f_8_numberBetween (a0 : Nat) (a1 : Int32) (a2 : Int32) (μ : mm) : Option (Int32) :=
  if (a2 - a1) ≤ 3 then
    (f_8_numberBetween_l16 a0 a2 μ FU 0 a1).bind fun z1 =>
    some z1
  else
    some 1000
set_option maxRecDepth 100000 in
set_option maxHeartbeats 4000000 in
theorem ok_8_numberBetween {l : Launch} {E : ce} {d : Nat}  {a0 : Nat} {a1 : Int32} {a2 : Int32} {μ : mm} {r : Int32} {Q : Option Value → mm → Prop} (h : f_8_numberBetween a0 a1 a2 μ = some r) (k0 : kd a0 = 8) (hQ : Q (some (.int r)) μ) : Ct l E d yX8_numberBetween m_8_numberBetween [.ref a0, .int a1, .int a2] μ Q := by
  refine Ct_of (lv := [some (.ref a0), some (.int a1), some (.int a2), none, none]) (by decide) rfl (Nat.le_of_ble_eq_true rfl) rfl ?_
  unfold f_8_numberBetween at h
  refine R_iload_n (dd dt_8_numberBetween 0 rfl) 2 rfl rfl ?_
  refine R_iload_n (dd dt_8_numberBetween 1 rfl) 1 rfl rfl ?_
  refine R_isub (dd dt_8_numberBetween 2 rfl) ?_
  refine R_iconst (v := 3) (dd dt_8_numberBetween 3 rfl) ic_3 ?_
  refine R_cmple (dd dt_8_numberBetween 4 rfl) (tgt := 11) rfl (fun hc => ?_) (fun hc => ?_)
  · rw [if_pos hc] at h
    refine R_iconst (v := 0) (dd dt_8_numberBetween 7 rfl) ic_0 ?_
    refine R_istore_n (lv' := [some (.ref a0), some (.int a1), some (.int a2), some (.int 0), none]) (dd dt_8_numberBetween 8 rfl) 3 rfl (by decide) rfl rfl ?_
    refine R_iload_n (dd dt_8_numberBetween 9 rfl) 1 rfl rfl ?_
    refine R_istore (lv' := [some (.ref a0), some (.int a1), some (.int a2), some (.int 0), some (.int a1)]) (dd dt_8_numberBetween 10 rfl) (by decide) rfl rfl ?_
    obtain ⟨z1, e2, h⟩ := bi_el h
    refine R_mask [true, false, true, true, true] rfl (ok_8_numberBetween_l16 a0 a2 μ k0 FU 0 a1 _ e2 ?_)
    refine R_iload_n (dd dt_8_numberBetween 27 rfl) 3 rfl rfl ?_
    obtain rfl := Option.some.inj h
    exact R_iret rfl (dd dt_8_numberBetween 28 rfl) hQ
  · rw [if_neg hc] at h
    refine R_sipush (v := 1000) (dd dt_8_numberBetween 5 rfl) sp_1000 ?_
    obtain rfl := Option.some.inj h
    exact R_iret rfl (dd dt_8_numberBetween 6 rfl) hQ
/-! LongStrike$TextReader.isSame(III)Z -/
def tab_8_isSame : List (Nat × Instr × Nat) := [(0, .iload_n 2, 1), (1, .istore 4, 2), (3, .iload 4, 2), (5, .iload_n 3, 1), (6, .if_icmp .ge 32, 3), (9, .ldc 111, 2), (11, .iload_n 1, 1), (12, .iload 4, 2), (14, .iadd, 1), (15, .iload_n 2, 1), (16, .isub, 1), (17, .invokevirtual 118, 3), (20, .aload_n 0, 1), (21, .getfield 9, 3), (24, .iload 4, 2), (26, .baload, 1), (27, .if_icmp .eq 5, 3), (30, .iconst 0, 1), (31, .ireturn, 1), (32, .iinc 4 1, 3), (35, .goto (-32), 3), (38, .iconst 1, 1), (39, .ireturn, 1)]
set_option maxRecDepth 100000 in
theorem dt_8_isSame : ∀ q ∈ tab_8_isSame, decode m_8_isSame.2.1 q.1 = .ok q.2 := by decide +kernel
def f_8_isSame_l3 (a0 : Nat) (a1 : Int32) (a2 : Int32) (a3 : Int32) (μ : mm) : Nat → Int32 → Option (Int32)
  | 0, _ => none
  | n + 1, v4 => if a3 ≤ v4 then
      some 1
    else
      (sch 1018 ((a1 + v4) - a2)).bind fun x1 =>
      (ld μ (rf a0 0) v4).bind fun x3 =>
      if x1 = x3 then
        f_8_isSame_l3 a0 a1 a2 a3 μ n (v4 + 1)
      else
        some 0
set_option maxRecDepth 100000 in
theorem ok_8_isSame_l3 {l : Launch} {E : ce} {d : Nat} {Q : Option Value → mm → Prop} (a0 : Nat) (a1 : Int32) (a2 : Int32) (a3 : Int32) (μ : mm) (k0 : kd a0 = 8) : ∀ (n : Nat) (v4 : Int32) (r : Int32), f_8_isSame_l3 a0 a1 a2 a3 μ n v4 = some r → Q (some (.int r)) μ → Rj l E (d + 5) m_8_isSame 3 [some (.ref a0), some (.int a1), some (.int a2), some (.int a3), some (.int v4)] [] μ Q
  | 0, _, z, h, _ => by
    rw [f_8_isSame_l3] at h
    cases h
  | n + 1, v4, r, h, hQ => by
    rw [f_8_isSame_l3] at h
    refine R_iload (dd dt_8_isSame 2 rfl) rfl ?_
    refine R_iload_n (dd dt_8_isSame 3 rfl) 3 rfl rfl ?_
    refine R_cmpge (dd dt_8_isSame 4 rfl) (tgt := 38) rfl (fun hc => ?_) (fun hc => ?_)
    · rw [if_pos hc] at h
      refine R_iconst (v := 1) (dd dt_8_isSame 21 rfl) ic_1 ?_
      obtain rfl := Option.some.inj h
      exact R_zret rfl (by decide) (dd dt_8_isSame 22 rfl) hQ
    · rw [if_neg hc] at h
      refine R_str_18 rfl (dd dt_8_isSame 5 rfl) ?_
      refine R_iload_n (dd dt_8_isSame 6 rfl) 1 rfl rfl ?_
      refine R_iload (dd dt_8_isSame 7 rfl) rfl ?_
      refine R_iadd (dd dt_8_isSame 8 rfl) ?_
      refine R_iload_n (dd dt_8_isSame 9 rfl) 2 rfl rfl ?_
      refine R_isub (dd dt_8_isSame 10 rfl) ?_
      obtain ⟨x1, e2, h⟩ := bi_el h
      refine R_sch_8_118 rfl e2 kd_s18 (Nat.le_of_ble_eq_true rfl) (dd dt_8_isSame 11 rfl) ?_
      refine R_aload_n (dd dt_8_isSame 12 rfl) 0 rfl rfl ?_
      refine g_8_9 rfl k0 (dd dt_8_isSame 13 rfl) ?_
      refine R_iload (dd dt_8_isSame 14 rfl) rfl ?_
      obtain ⟨x3, e4, h⟩ := bi_el h
      refine R_bld e4 (ty_8_0 k0) (dd dt_8_isSame 15 rfl) ?_
      refine R_cmpeq (dd dt_8_isSame 16 rfl) (tgt := 32) rfl (fun hc => ?_) (fun hc => ?_)
      · rw [if_pos hc] at h
        refine R_iinc (v := 1) (lv' := [some (.ref a0), some (.int a1), some (.int a2), some (.int a3), some (.int (v4 + 1))]) (dd dt_8_isSame 19 rfl) (by decide) rfl rfl ic_1 rfl ?_
        refine R_goto (dd dt_8_isSame 20 rfl) (tgt := 3) rfl ?_
        exact R_mask [true, true, true, true, true] rfl (ok_8_isSame_l3 a0 a1 a2 a3 μ k0 n (v4 + 1) _ h hQ)
      · rw [if_neg hc] at h
        refine R_iconst (v := 0) (dd dt_8_isSame 17 rfl) ic_0 ?_
        obtain rfl := Option.some.inj h
        exact R_zret rfl (by decide) (dd dt_8_isSame 18 rfl) hQ
def f_8_isSame (a0 : Nat) (a1 : Int32) (a2 : Int32) (a3 : Int32) (μ : mm) : Option (Int32) :=
  f_8_isSame_l3 a0 a1 a2 a3 μ FU a2
set_option maxRecDepth 100000 in
set_option maxHeartbeats 4000000 in
theorem ok_8_isSame {l : Launch} {E : ce} {d : Nat}  {a0 : Nat} {a1 : Int32} {a2 : Int32} {a3 : Int32} {μ : mm} {r : Int32} {Q : Option Value → mm → Prop} (h : f_8_isSame a0 a1 a2 a3 μ = some r) (k0 : kd a0 = 8) (hQ : Q (some (.int r)) μ) : Ct l E (d + 5) yX8_isSame m_8_isSame [.ref a0, .int a1, .int a2, .int a3] μ Q := by
  refine Ct_of (lv := [some (.ref a0), some (.int a1), some (.int a2), some (.int a3), none]) (by decide) rfl (Nat.le_of_ble_eq_true rfl) rfl ?_
  unfold f_8_isSame at h
  refine R_iload_n (dd dt_8_isSame 0 rfl) 2 rfl rfl ?_
  refine R_istore (lv' := [some (.ref a0), some (.int a1), some (.int a2), some (.int a3), some (.int a2)]) (dd dt_8_isSame 1 rfl) (by decide) rfl rfl ?_
  exact R_mask [true, true, true, true, true] rfl (ok_8_isSame_l3 a0 a1 a2 a3 μ k0 FU a2 _ h hQ)
/-! LongStrike$TextReader.wordBetween(II)I -/
def tab_8_wordBetween : List (Nat × Instr × Nat) := [(0, .iconst 0, 1), (1, .istore_n 3, 1), (2, .iconst 0, 1), (3, .istore 4, 2), (5, .iconst 0, 1), (6, .istore 5, 2), (8, .iload 5, 2), (10, .ldc 111, 2), (12, .invokevirtual 113, 3), (15, .if_icmp .ge 54, 3), (18, .ldc 111, 2), (20, .iload 5, 2), (22, .invokevirtual 118, 3), (25, .bipush 32, 2), (27, .if_icmp .ne 36, 3), (30, .iload 5, 2), (32, .iload 4, 2), (34, .isub, 1), (35, .iload_n 2, 1), (36, .iload_n 1, 1), (37, .isub, 1), (38, .if_icmp .ne 16, 3), (41, .aload_n 0, 1), (42, .iload 4, 2), (44, .iload_n 1, 1), (45, .iload_n 2, 1), (46, .invokevirtual 122, 3), (49, .ifCond .eq 5, 3), (52, .iload_n 3, 1), (53, .ireturn, 1), (54, .iinc 3 1, 3), (57, .iload 5, 2), (59, .iconst 1, 1), (60, .iadd, 1), (61, .istore 4, 2), (63, .iinc 5 1, 3), (66, .goto (-58), 3), (69, .bipush (-3), 2), (71, .ireturn, 1)]
set_option maxRecDepth 100000 in
theorem dt_8_wordBetween : ∀ q ∈ tab_8_wordBetween, decode m_8_wordBetween.2.1 q.1 = .ok q.2 := by decide +kernel
def f_8_wordBetween_l8 (a0 : Nat) (a1 : Int32) (a2 : Int32) (μ : mm) : Nat → Int32 → Int32 → Int32 → Option (Int32)
  | 0, _, _, _ => none
  | n + 1, v3, v4, v5 => if (slen 1018) ≤ v5 then
      some (-3)
    else
      (sch 1018 v5).bind fun x1 =>
      if x1 = 32 then
        if (v5 - v4) = (a2 - a1) then
          (f_8_isSame a0 v4 a1 a2 μ).bind fun x4 =>
          if x4 = 0 then
            f_8_wordBetween_l8 a0 a1 a2 μ n (v3 + 1) (v5 + 1) (v5 + 1)
          else
            some v3
        else
          f_8_wordBetween_l8 a0 a1 a2 μ n (v3 + 1) (v5 + 1) (v5 + 1)
      else
        f_8_wordBetween_l8 a0 a1 a2 μ n v3 v4 (v5 + 1)
set_option maxRecDepth 100000 in
theorem ok_8_wordBetween_l8 {l : Launch} {E : ce} {d : Nat} {Q : Option Value → mm → Prop} (a0 : Nat) (a1 : Int32) (a2 : Int32) (μ : mm) (k0 : kd a0 = 8) : ∀ (n : Nat) (v3 : Int32) (v4 : Int32) (v5 : Int32) (r : Int32), f_8_wordBetween_l8 a0 a1 a2 μ n v3 v4 v5 = some r → Q (some (.int r)) μ → Rj l E (d + 6) m_8_wordBetween 8 [some (.ref a0), some (.int a1), some (.int a2), some (.int v3), some (.int v4), some (.int v5)] [] μ Q
  | 0, _, _, _, z, h, _ => by
    rw [f_8_wordBetween_l8] at h
    cases h
  | n + 1, v3, v4, v5, r, h, hQ => by
    rw [f_8_wordBetween_l8] at h
    refine R_iload (dd dt_8_wordBetween 6 rfl) rfl ?_
    refine R_str_18 rfl (dd dt_8_wordBetween 7 rfl) ?_
    refine R_slen_8_113 rfl kd_s18 (Nat.le_of_ble_eq_true rfl) (dd dt_8_wordBetween 8 rfl) ?_
    refine R_cmpge (dd dt_8_wordBetween 9 rfl) (tgt := 69) rfl (fun hc => ?_) (fun hc => ?_)
    · rw [if_pos hc] at h
      refine R_bipush (v := (-3)) (dd dt_8_wordBetween 37 rfl) bp_m3 ?_
      obtain rfl := Option.some.inj h
      exact R_iret rfl (dd dt_8_wordBetween 38 rfl) hQ
    · rw [if_neg hc] at h
      refine R_str_18 rfl (dd dt_8_wordBetween 10 rfl) ?_
      refine R_iload (dd dt_8_wordBetween 11 rfl) rfl ?_
      obtain ⟨x1, e2, h⟩ := bi_el h
      refine R_sch_8_118 rfl e2 kd_s18 (Nat.le_of_ble_eq_true rfl) (dd dt_8_wordBetween 12 rfl) ?_
      refine R_bipush (v := 32) (dd dt_8_wordBetween 13 rfl) bp_32 ?_
      refine R_cmpne (dd dt_8_wordBetween 14 rfl) (tgt := 63) rfl (fun hc => ?_) (fun hc => ?_)
      · rw [if_neg hc] at h
        refine R_iinc (v := 1) (lv' := [some (.ref a0), some (.int a1), some (.int a2), some (.int v3), some (.int v4), some (.int (v5 + 1))]) (dd dt_8_wordBetween 35 rfl) (by decide) rfl rfl ic_1 rfl ?_
        refine R_goto (dd dt_8_wordBetween 36 rfl) (tgt := 8) rfl ?_
        exact R_mask [true, true, true, true, true, true] rfl (ok_8_wordBetween_l8 a0 a1 a2 μ k0 n v3 v4 (v5 + 1) _ h hQ)
      · rw [if_pos hc] at h
        refine R_iload (dd dt_8_wordBetween 15 rfl) rfl ?_
        refine R_iload (dd dt_8_wordBetween 16 rfl) rfl ?_
        refine R_isub (dd dt_8_wordBetween 17 rfl) ?_
        refine R_iload_n (dd dt_8_wordBetween 18 rfl) 2 rfl rfl ?_
        refine R_iload_n (dd dt_8_wordBetween 19 rfl) 1 rfl rfl ?_
        refine R_isub (dd dt_8_wordBetween 20 rfl) ?_
        refine R_cmpne (dd dt_8_wordBetween 21 rfl) (tgt := 54) rfl (fun hc => ?_) (fun hc => ?_)
        · rw [if_neg hc] at h
          refine R_iinc (v := 1) (lv' := [some (.ref a0), some (.int a1), some (.int a2), some (.int (v3 + 1)), some (.int v4), some (.int v5)]) (dd dt_8_wordBetween 30 rfl) (by decide) rfl rfl ic_1 rfl ?_
          refine R_iload (dd dt_8_wordBetween 31 rfl) rfl ?_
          refine R_iconst (v := 1) (dd dt_8_wordBetween 32 rfl) ic_1 ?_
          refine R_iadd (dd dt_8_wordBetween 33 rfl) ?_
          refine R_istore (lv' := [some (.ref a0), some (.int a1), some (.int a2), some (.int (v3 + 1)), some (.int (v5 + 1)), some (.int v5)]) (dd dt_8_wordBetween 34 rfl) (by decide) rfl rfl ?_
          refine R_iinc (v := 1) (lv' := [some (.ref a0), some (.int a1), some (.int a2), some (.int (v3 + 1)), some (.int (v5 + 1)), some (.int (v5 + 1))]) (dd dt_8_wordBetween 35 rfl) (by decide) rfl rfl ic_1 rfl ?_
          refine R_goto (dd dt_8_wordBetween 36 rfl) (tgt := 8) rfl ?_
          exact R_mask [true, true, true, true, true, true] rfl (ok_8_wordBetween_l8 a0 a1 a2 μ k0 n (v3 + 1) (v5 + 1) (v5 + 1) _ h hQ)
        · rw [if_pos hc] at h
          refine R_aload_n (dd dt_8_wordBetween 22 rfl) 0 rfl rfl ?_
          refine R_iload (dd dt_8_wordBetween 23 rfl) rfl ?_
          refine R_iload_n (dd dt_8_wordBetween 24 rfl) 1 rfl rfl ?_
          refine R_iload_n (dd dt_8_wordBetween 25 rfl) 2 rfl rfl ?_
          obtain ⟨x4, e3, h⟩ := bi_el h
          refine c_8_122 (As := [.int v4, .int a1, .int a2]) (st1 := [.int x4]) rfl (fun Q1 hq => ok_8_isSame e3 k0 hq) k0 rfl rfl (Nat.le_of_ble_eq_true rfl) (dd dt_8_wordBetween 26 rfl) rfl ?_
          refine R_ifeq (dd dt_8_wordBetween 27 rfl) (tgt := 54) rfl (fun hc => ?_) (fun hc => ?_)
          · rw [if_pos hc] at h
            refine R_iinc (v := 1) (lv' := [some (.ref a0), some (.int a1), some (.int a2), some (.int (v3 + 1)), some (.int v4), some (.int v5)]) (dd dt_8_wordBetween 30 rfl) (by decide) rfl rfl ic_1 rfl ?_
            refine R_iload (dd dt_8_wordBetween 31 rfl) rfl ?_
            refine R_iconst (v := 1) (dd dt_8_wordBetween 32 rfl) ic_1 ?_
            refine R_iadd (dd dt_8_wordBetween 33 rfl) ?_
            refine R_istore (lv' := [some (.ref a0), some (.int a1), some (.int a2), some (.int (v3 + 1)), some (.int (v5 + 1)), some (.int v5)]) (dd dt_8_wordBetween 34 rfl) (by decide) rfl rfl ?_
            refine R_iinc (v := 1) (lv' := [some (.ref a0), some (.int a1), some (.int a2), some (.int (v3 + 1)), some (.int (v5 + 1)), some (.int (v5 + 1))]) (dd dt_8_wordBetween 35 rfl) (by decide) rfl rfl ic_1 rfl ?_
            refine R_goto (dd dt_8_wordBetween 36 rfl) (tgt := 8) rfl ?_
            exact R_mask [true, true, true, true, true, true] rfl (ok_8_wordBetween_l8 a0 a1 a2 μ k0 n (v3 + 1) (v5 + 1) (v5 + 1) _ h hQ)
          · rw [if_neg hc] at h
            refine R_iload_n (dd dt_8_wordBetween 28 rfl) 3 rfl rfl ?_
            obtain rfl := Option.some.inj h
            exact R_iret rfl (dd dt_8_wordBetween 29 rfl) hQ
def f_8_wordBetween (a0 : Nat) (a1 : Int32) (a2 : Int32) (μ : mm) : Option (Int32) :=
  f_8_wordBetween_l8 a0 a1 a2 μ FU 0 0 0
set_option maxRecDepth 100000 in
set_option maxHeartbeats 4000000 in
theorem ok_8_wordBetween {l : Launch} {E : ce} {d : Nat}  {a0 : Nat} {a1 : Int32} {a2 : Int32} {μ : mm} {r : Int32} {Q : Option Value → mm → Prop} (h : f_8_wordBetween a0 a1 a2 μ = some r) (k0 : kd a0 = 8) (hQ : Q (some (.int r)) μ) : Ct l E (d + 6) yX8_wordBetween m_8_wordBetween [.ref a0, .int a1, .int a2] μ Q := by
  refine Ct_of (lv := [some (.ref a0), some (.int a1), some (.int a2), none, none, none]) (by decide) rfl (Nat.le_of_ble_eq_true rfl) rfl ?_
  unfold f_8_wordBetween at h
  refine R_iconst (v := 0) (dd dt_8_wordBetween 0 rfl) ic_0 ?_
  refine R_istore_n (lv' := [some (.ref a0), some (.int a1), some (.int a2), some (.int 0), none, none]) (dd dt_8_wordBetween 1 rfl) 3 rfl (by decide) rfl rfl ?_
  refine R_iconst (v := 0) (dd dt_8_wordBetween 2 rfl) ic_0 ?_
  refine R_istore (lv' := [some (.ref a0), some (.int a1), some (.int a2), some (.int 0), some (.int 0), none]) (dd dt_8_wordBetween 3 rfl) (by decide) rfl rfl ?_
  refine R_iconst (v := 0) (dd dt_8_wordBetween 4 rfl) ic_0 ?_
  refine R_istore (lv' := [some (.ref a0), some (.int a1), some (.int a2), some (.int 0), some (.int 0), some (.int 0)]) (dd dt_8_wordBetween 5 rfl) (by decide) rfl rfl ?_
  exact R_mask [true, true, true, true, true, true] rfl (ok_8_wordBetween_l8 a0 a1 a2 μ k0 FU 0 0 0 _ h hQ)
/-! LongStrike$TextReader.splitTape()V -/
def tab_8_splitTape : List (Nat × Instr × Nat) := [(0, .iconst 0, 1), (1, .istore_n 1, 1), (2, .aload_n 0, 1), (3, .iconst 0, 1), (4, .bipush 32, 2), (6, .bipush 32, 2), (8, .invokevirtual 50, 3), (11, .istore_n 2, 1), (12, .iload_n 1, 1), (13, .sipush 300, 3), (16, .if_icmp .ge 150, 3), (19, .iload_n 2, 1), (20, .aload_n 0, 1), (21, .getfield 13, 3), (24, .if_icmp .ge 142, 3), (27, .aload_n 0, 1), (28, .getfield 9, 3), (31, .iload_n 2, 1), (32, .baload, 1), (33, .istore_n 3, 1), (34, .iload_n 2, 1), (35, .iconst 1, 1), (36, .iadd, 1), (37, .istore 4, 2), (39, .aload_n 0, 1), (40, .getfield 28, 3), (43, .iload_n 1, 1), (44, .iload_n 2, 1), (45, .iastore, 1), (46, .iload_n 3, 1), (47, .bipush 97, 2), (49, .bipush 122, 2), (51, .invokestatic 54, 3), (54, .ifCond .eq 30, 3), (57, .aload_n 0, 1), (58, .iload_n 2, 1), (59, .bipush 97, 2), (61, .bipush 122, 2), (63, .invokevirtual 50, 3), (66, .istore 4, 2), (68, .aload_n 0, 1), (69, .getfield 24, 3), (72, .iload_n 1, 1), (73, .aload_n 0, 1), (74, .iload_n 2, 1), (75, .iload 4, 2), (77, .invokevirtual 60, 3), (80, .iastore, 1), (81, .goto 68, 3), (84, .iload_n 3, 1), (85, .bipush 48, 2), (87, .bipush 57, 2), (89, .invokestatic 54, 3), (92, .ifCond .eq 38, 3), (95, .aload_n 0, 1), (96, .iload_n 2, 1), (97, .bipush 48, 2), (99, .bipush 57, 2), (101, .invokevirtual 50, 3), (104, .istore 4, 2), (106, .aload_n 0, 1), (107, .getfield 24, 3), (110, .iload_n 1, 1), (111, .bipush (-2), 2), (113, .iastore, 1), (114, .aload_n 0, 1), (115, .getfield 31, 3), (118, .iload_n 1, 1), (119, .aload_n 0, 1), (120, .iload_n 2, 1), (121, .iload 4, 2), (123, .invokevirtual 64, 3), (126, .iastore, 1), (127, .goto 22, 3), (130, .aload_n 0, 1), (131, .getfield 24, 3), (134, .iload_n 1, 1), (135, .iload_n 3, 1), (136, .invokestatic 67, 3), (139, .ifCond .eq 7, 3), (142, .iload_n 3, 1), (143, .goto 5, 3), (146, .bipush (-3), 2), (148, .iastore, 1), (149, .aload_n 0, 1), (150, .iload 4, 2), (152, .bipush 32, 2), (154, .bipush 32, 2), (156, .invokevirtual 50, 3), (159, .istore_n 2, 1), (160, .iinc 1 1, 3), (163, .goto (-151), 3), (166, .aload_n 0, 1), (167, .getfield 28, 3), (170, .iload_n 1, 1), (171, .aload_n 0, 1), (172, .getfield 13, 3), (175, .iastore, 1), (176, .aload_n 0, 1), (177, .getfield 24, 3), (180, .iload_n 1, 1), (181, .iconst (-1), 1), (182, .iastore, 1), (183, .return_, 1)]
set_option maxRecDepth 100000 in
theorem dt_8_splitTape : ∀ q ∈ tab_8_splitTape, decode m_8_splitTape.2.1 q.1 = .ok q.2 := by decide +kernel
def f_8_splitTape_l12 (a0 : Nat) : Nat → Int32 → Int32 → mm → Option (Int32 × mm)
  | 0, _, _, _ => none
  | n + 1, v1, v2, μ => if 300 ≤ v1 then
      some (v1, μ)
    else
      if (μ a0 1) ≤ v2 then
        some (v1, μ)
      else
        (ld μ (rf a0 0) v2).bind fun x1 =>
        (sto μ (rf a0 4) v1 v2).bind fun μ3 =>
        (f_11_isIn x1 97 122 μ3).bind fun x6 =>
        (if x6 = 0 then
            (f_11_isIn x1 48 57 μ3).bind fun x8 =>
            if x8 = 0 then
              (f_8_isSign x1 μ3).bind fun x10 =>
              (if x10 = 0 then
                  some (-3)
                else
                  some x1).bind fun (z11 : Int32) =>
              (sto μ3 (rf a0 3) v1 z11).bind fun μ12 =>
              some ((v2 + 1), μ12)
            else
              (f_8_endOfRun a0 v2 48 57 μ3).bind fun x15 =>
              (sto μ3 (rf a0 3) v1 (-2)).bind fun μ16 =>
              (f_8_numberBetween a0 v2 x15 μ16).bind fun x19 =>
              (sto μ16 (rf a0 5) v1 x19).bind fun μ20 =>
              some (x15, μ20)
          else
            (f_8_endOfRun a0 v2 97 122 μ3).bind fun x23 =>
            (f_8_wordBetween a0 v2 x23 μ3).bind fun x25 =>
            (sto μ3 (rf a0 3) v1 x25).bind fun μ26 =>
            some (x23, μ26)).bind fun (z28 : Int32 × mm) =>
        (f_8_endOfRun a0 z28.1 32 32 z28.2).bind fun x30 =>
        f_8_splitTape_l12 a0 n (v1 + 1) x30 z28.2
set_option maxRecDepth 100000 in
theorem ok_8_splitTape_l12 {l : Launch} {E : ce} {d : Nat} {Q : Option Value → mm → Prop} (a0 : Nat) (k0 : kd a0 = 8) : ∀ (n : Nat) (v1 : Int32) (v2 : Int32) (μ : mm) (z : Int32 × mm), f_8_splitTape_l12 a0 n v1 v2 μ = some z → Rj l E (d + 7) m_8_splitTape 166 [some (.ref a0), some (.int z.1), none, none, none] [] z.2 Q → Rj l E (d + 7) m_8_splitTape 12 [some (.ref a0), some (.int v1), some (.int v2), none, none] [] μ Q
  | 0, _, _, _, z, h, _ => by
    rw [f_8_splitTape_l12] at h
    cases h
  | n + 1, v1, v2, μ, z, h, KX => by
    rw [f_8_splitTape_l12] at h
    refine R_iload_n (dd dt_8_splitTape 8 rfl) 1 rfl rfl ?_
    refine R_sipush (v := 300) (dd dt_8_splitTape 9 rfl) sp_300 ?_
    refine R_cmpge (dd dt_8_splitTape 10 rfl) (tgt := 166) rfl (fun hc => ?_) (fun hc => ?_)
    · rw [if_pos hc] at h
      obtain rfl := Option.some.inj h
      exact R_mask [true, true, false, false, false] rfl KX
    · rw [if_neg hc] at h
      refine R_iload_n (dd dt_8_splitTape 11 rfl) 2 rfl rfl ?_
      refine R_aload_n (dd dt_8_splitTape 12 rfl) 0 rfl rfl ?_
      refine g_8_13 rfl k0 (dd dt_8_splitTape 13 rfl) ?_
      refine R_cmpge (dd dt_8_splitTape 14 rfl) (tgt := 166) rfl (fun hc => ?_) (fun hc => ?_)
      · rw [if_pos hc] at h
        obtain rfl := Option.some.inj h
        exact R_mask [true, true, false, false, false] rfl KX
      · rw [if_neg hc] at h
        refine R_aload_n (dd dt_8_splitTape 15 rfl) 0 rfl rfl ?_
        refine g_8_9 rfl k0 (dd dt_8_splitTape 16 rfl) ?_
        refine R_iload_n (dd dt_8_splitTape 17 rfl) 2 rfl rfl ?_
        obtain ⟨x1, e2, h⟩ := bi_el h
        refine R_bld e2 (ty_8_0 k0) (dd dt_8_splitTape 18 rfl) ?_
        refine R_istore_n (lv' := [some (.ref a0), some (.int v1), some (.int v2), some (.int x1), none]) (dd dt_8_splitTape 19 rfl) 3 rfl (by decide) rfl rfl ?_
        refine R_iload_n (dd dt_8_splitTape 20 rfl) 2 rfl rfl ?_
        refine R_iconst (v := 1) (dd dt_8_splitTape 21 rfl) ic_1 ?_
        refine R_iadd (dd dt_8_splitTape 22 rfl) ?_
        refine R_istore (lv' := [some (.ref a0), some (.int v1), some (.int v2), some (.int x1), some (.int (v2 + 1))]) (dd dt_8_splitTape 23 rfl) (by decide) rfl rfl ?_
        refine R_aload_n (dd dt_8_splitTape 24 rfl) 0 rfl rfl ?_
        refine g_8_28 rfl k0 (dd dt_8_splitTape 25 rfl) ?_
        refine R_iload_n (dd dt_8_splitTape 26 rfl) 1 rfl rfl ?_
        refine R_iload_n (dd dt_8_splitTape 27 rfl) 2 rfl rfl ?_
        obtain ⟨μ3, e4, h⟩ := bi_el h
        refine R_isto e4 (ty_8_4 k0) (dd dt_8_splitTape 28 rfl) ?_
        refine R_iload_n (dd dt_8_splitTape 29 rfl) 3 rfl rfl ?_
        refine R_bipush (v := 97) (dd dt_8_splitTape 30 rfl) bp_97 ?_
        refine R_bipush (v := 122) (dd dt_8_splitTape 31 rfl) bp_122 ?_
        obtain ⟨x6, e5, h⟩ := bi_el h
        refine c_8_54 (As := [.int x1, .int 97, .int 122]) (st1 := [.int x6]) rfl (fun Q1 hq => ok_11_isIn e5 hq) rfl rfl (Nat.le_of_ble_eq_true rfl) (dd dt_8_splitTape 32 rfl) rfl ?_
        obtain ⟨z28, hz28, h⟩ := bi_el h
        have K28 : Rj l E (d + 7) m_8_splitTape 149 [some (.ref a0), some (.int v1), none, none, some (.int z28.1)] [] z28.2 Q := by
          clear hz28
          refine R_aload_n (dd dt_8_splitTape 84 rfl) 0 rfl rfl ?_
          refine R_iload (dd dt_8_splitTape 85 rfl) rfl ?_
          refine R_bipush (v := 32) (dd dt_8_splitTape 86 rfl) bp_32 ?_
          refine R_bipush (v := 32) (dd dt_8_splitTape 87 rfl) bp_32 ?_
          obtain ⟨x30, e29, h⟩ := bi_el h
          refine c_8_50 (As := [.int z28.1, .int 32, .int 32]) (st1 := [.int x30]) rfl (fun Q1 hq => ok_8_endOfRun e29 k0 hq) k0 rfl rfl (Nat.le_of_ble_eq_true rfl) (dd dt_8_splitTape 88 rfl) rfl ?_
          refine R_istore_n (lv' := [some (.ref a0), some (.int v1), some (.int x30), none, some (.int z28.1)]) (dd dt_8_splitTape 89 rfl) 2 rfl (by decide) rfl rfl ?_
          refine R_iinc (v := 1) (lv' := [some (.ref a0), some (.int (v1 + 1)), some (.int x30), none, some (.int z28.1)]) (dd dt_8_splitTape 90 rfl) (by decide) rfl rfl ic_1 rfl ?_
          refine R_goto (dd dt_8_splitTape 91 rfl) (tgt := 12) rfl ?_
          exact R_mask [true, true, true, false, false] rfl (ok_8_splitTape_l12 a0 k0 n (v1 + 1) x30 z28.2 _ h KX)
        clear h
        have h := hz28
        clear hz28
        refine R_ifeq (dd dt_8_splitTape 33 rfl) (tgt := 84) rfl (fun hc => ?_) (fun hc => ?_)
        · rw [if_pos hc] at h
          refine R_iload_n (dd dt_8_splitTape 49 rfl) 3 rfl rfl ?_
          refine R_bipush (v := 48) (dd dt_8_splitTape 50 rfl) bp_48 ?_
          refine R_bipush (v := 57) (dd dt_8_splitTape 51 rfl) bp_57 ?_
          obtain ⟨x8, e7, h⟩ := bi_el h
          refine c_8_54 (As := [.int x1, .int 48, .int 57]) (st1 := [.int x8]) rfl (fun Q1 hq => ok_11_isIn e7 hq) rfl rfl (Nat.le_of_ble_eq_true rfl) (dd dt_8_splitTape 52 rfl) rfl ?_
          refine R_ifeq (dd dt_8_splitTape 53 rfl) (tgt := 130) rfl (fun hc => ?_) (fun hc => ?_)
          · rw [if_pos hc] at h
            refine R_aload_n (dd dt_8_splitTape 74 rfl) 0 rfl rfl ?_
            refine g_8_24 rfl k0 (dd dt_8_splitTape 75 rfl) ?_
            refine R_iload_n (dd dt_8_splitTape 76 rfl) 1 rfl rfl ?_
            refine R_iload_n (dd dt_8_splitTape 77 rfl) 3 rfl rfl ?_
            obtain ⟨x10, e9, h⟩ := bi_el h
            refine c_8_67 (As := [.int x1]) (st1 := [.int x10, .int v1, .ref (rf a0 3)]) rfl (fun Q1 hq => ok_8_isSign e9 hq) rfl rfl (Nat.le_of_ble_eq_true rfl) (dd dt_8_splitTape 78 rfl) rfl ?_
            obtain ⟨z11, hz11, h⟩ := bi_el h
            have K11 : Rj l E (d + 7) m_8_splitTape 148 [some (.ref a0), some (.int v1), none, none, some (.int (v2 + 1))] [.int z11, .int v1, .ref (rf a0 3)] μ3 Q := by
              clear hz11
              obtain ⟨μ12, e13, h⟩ := bi_el h
              refine R_isto e13 (ty_8_3 k0) (dd dt_8_splitTape 83 rfl) ?_
              obtain rfl := Option.some.inj h
              exact R_mask [true, true, false, false, true] rfl K28
            clear h
            have h := hz11
            clear hz11
            refine R_ifeq (dd dt_8_splitTape 79 rfl) (tgt := 146) rfl (fun hc => ?_) (fun hc => ?_)
            · rw [if_pos hc] at h
              refine R_bipush (v := (-3)) (dd dt_8_splitTape 82 rfl) bp_m3 ?_
              obtain rfl := Option.some.inj h
              exact R_mask [true, true, false, false, true] rfl K11
            · rw [if_neg hc] at h
              refine R_iload_n (dd dt_8_splitTape 80 rfl) 3 rfl rfl ?_
              refine R_goto (dd dt_8_splitTape 81 rfl) (tgt := 148) rfl ?_
              obtain rfl := Option.some.inj h
              exact R_mask [true, true, false, false, true] rfl K11
          · rw [if_neg hc] at h
            refine R_aload_n (dd dt_8_splitTape 54 rfl) 0 rfl rfl ?_
            refine R_iload_n (dd dt_8_splitTape 55 rfl) 2 rfl rfl ?_
            refine R_bipush (v := 48) (dd dt_8_splitTape 56 rfl) bp_48 ?_
            refine R_bipush (v := 57) (dd dt_8_splitTape 57 rfl) bp_57 ?_
            obtain ⟨x15, e14, h⟩ := bi_el h
            refine c_8_50 (As := [.int v2, .int 48, .int 57]) (st1 := [.int x15]) rfl (fun Q1 hq => ok_8_endOfRun e14 k0 hq) k0 rfl rfl (Nat.le_of_ble_eq_true rfl) (dd dt_8_splitTape 58 rfl) rfl ?_
            refine R_istore (lv' := [some (.ref a0), some (.int v1), some (.int v2), some (.int x1), some (.int x15)]) (dd dt_8_splitTape 59 rfl) (by decide) rfl rfl ?_
            refine R_aload_n (dd dt_8_splitTape 60 rfl) 0 rfl rfl ?_
            refine g_8_24 rfl k0 (dd dt_8_splitTape 61 rfl) ?_
            refine R_iload_n (dd dt_8_splitTape 62 rfl) 1 rfl rfl ?_
            refine R_bipush (v := (-2)) (dd dt_8_splitTape 63 rfl) bp_m2 ?_
            obtain ⟨μ16, e17, h⟩ := bi_el h
            refine R_isto e17 (ty_8_3 k0) (dd dt_8_splitTape 64 rfl) ?_
            refine R_aload_n (dd dt_8_splitTape 65 rfl) 0 rfl rfl ?_
            refine g_8_31 rfl k0 (dd dt_8_splitTape 66 rfl) ?_
            refine R_iload_n (dd dt_8_splitTape 67 rfl) 1 rfl rfl ?_
            refine R_aload_n (dd dt_8_splitTape 68 rfl) 0 rfl rfl ?_
            refine R_iload_n (dd dt_8_splitTape 69 rfl) 2 rfl rfl ?_
            refine R_iload (dd dt_8_splitTape 70 rfl) rfl ?_
            obtain ⟨x19, e18, h⟩ := bi_el h
            refine c_8_64 (As := [.int v2, .int x15]) (st1 := [.int x19, .int v1, .ref (rf a0 5)]) rfl (fun Q1 hq => ok_8_numberBetween e18 k0 hq) k0 rfl rfl (Nat.le_of_ble_eq_true rfl) (dd dt_8_splitTape 71 rfl) rfl ?_
            obtain ⟨μ20, e21, h⟩ := bi_el h
            refine R_isto e21 (ty_8_5 k0) (dd dt_8_splitTape 72 rfl) ?_
            refine R_goto (dd dt_8_splitTape 73 rfl) (tgt := 149) rfl ?_
            obtain rfl := Option.some.inj h
            exact R_mask [true, true, false, false, true] rfl K28
        · rw [if_neg hc] at h
          refine R_aload_n (dd dt_8_splitTape 34 rfl) 0 rfl rfl ?_
          refine R_iload_n (dd dt_8_splitTape 35 rfl) 2 rfl rfl ?_
          refine R_bipush (v := 97) (dd dt_8_splitTape 36 rfl) bp_97 ?_
          refine R_bipush (v := 122) (dd dt_8_splitTape 37 rfl) bp_122 ?_
          obtain ⟨x23, e22, h⟩ := bi_el h
          refine c_8_50 (As := [.int v2, .int 97, .int 122]) (st1 := [.int x23]) rfl (fun Q1 hq => ok_8_endOfRun e22 k0 hq) k0 rfl rfl (Nat.le_of_ble_eq_true rfl) (dd dt_8_splitTape 38 rfl) rfl ?_
          refine R_istore (lv' := [some (.ref a0), some (.int v1), some (.int v2), some (.int x1), some (.int x23)]) (dd dt_8_splitTape 39 rfl) (by decide) rfl rfl ?_
          refine R_aload_n (dd dt_8_splitTape 40 rfl) 0 rfl rfl ?_
          refine g_8_24 rfl k0 (dd dt_8_splitTape 41 rfl) ?_
          refine R_iload_n (dd dt_8_splitTape 42 rfl) 1 rfl rfl ?_
          refine R_aload_n (dd dt_8_splitTape 43 rfl) 0 rfl rfl ?_
          refine R_iload_n (dd dt_8_splitTape 44 rfl) 2 rfl rfl ?_
          refine R_iload (dd dt_8_splitTape 45 rfl) rfl ?_
          obtain ⟨x25, e24, h⟩ := bi_el h
          refine c_8_60 (As := [.int v2, .int x23]) (st1 := [.int x25, .int v1, .ref (rf a0 3)]) rfl (fun Q1 hq => ok_8_wordBetween e24 k0 hq) k0 rfl rfl (Nat.le_of_ble_eq_true rfl) (dd dt_8_splitTape 46 rfl) rfl ?_
          obtain ⟨μ26, e27, h⟩ := bi_el h
          refine R_isto e27 (ty_8_3 k0) (dd dt_8_splitTape 47 rfl) ?_
          refine R_goto (dd dt_8_splitTape 48 rfl) (tgt := 149) rfl ?_
          obtain rfl := Option.some.inj h
          exact R_mask [true, true, false, false, true] rfl K28
def f_8_splitTape (a0 : Nat) (μ : mm) : Option (mm) :=
  (f_8_endOfRun a0 0 32 32 μ).bind fun x2 =>
  (f_8_splitTape_l12 a0 FU 0 x2 μ).bind fun z3 =>
  (sto z3.2 (rf a0 4) z3.1 (z3.2 a0 1)).bind fun μ5 =>
  (sto μ5 (rf a0 3) z3.1 (-1)).bind fun μ7 =>
  some μ7
set_option maxRecDepth 100000 in
set_option maxHeartbeats 4000000 in
theorem ok_8_splitTape {l : Launch} {E : ce} {d : Nat}  {a0 : Nat} {μ : mm} {r : mm} {Q : Option Value → mm → Prop} (h : f_8_splitTape a0 μ = some r) (k0 : kd a0 = 8) (hQ : Q none r) : Ct l E (d + 7) yX8_splitTape m_8_splitTape [.ref a0] μ Q := by
  refine Ct_of (lv := [some (.ref a0), none, none, none, none]) (by decide) rfl (Nat.le_of_ble_eq_true rfl) rfl ?_
  unfold f_8_splitTape at h
  refine R_iconst (v := 0) (dd dt_8_splitTape 0 rfl) ic_0 ?_
  refine R_istore_n (lv' := [some (.ref a0), some (.int 0), none, none, none]) (dd dt_8_splitTape 1 rfl) 1 rfl (by decide) rfl rfl ?_
  refine R_aload_n (dd dt_8_splitTape 2 rfl) 0 rfl rfl ?_
  refine R_iconst (v := 0) (dd dt_8_splitTape 3 rfl) ic_0 ?_
  refine R_bipush (v := 32) (dd dt_8_splitTape 4 rfl) bp_32 ?_
  refine R_bipush (v := 32) (dd dt_8_splitTape 5 rfl) bp_32 ?_
  obtain ⟨x2, e1, h⟩ := bi_el h
  refine c_8_50 (As := [.int 0, .int 32, .int 32]) (st1 := [.int x2]) rfl (fun Q1 hq => ok_8_endOfRun e1 k0 hq) k0 rfl rfl (Nat.le_of_ble_eq_true rfl) (dd dt_8_splitTape 6 rfl) rfl ?_
  refine R_istore_n (lv' := [some (.ref a0), some (.int 0), some (.int x2), none, none]) (dd dt_8_splitTape 7 rfl) 2 rfl (by decide) rfl rfl ?_
  obtain ⟨z3, e4, h⟩ := bi_el h
  refine R_mask [true, true, true, false, false] rfl (ok_8_splitTape_l12 a0 k0 FU 0 x2 μ _ e4 ?_)
  refine R_aload_n (dd dt_8_splitTape 92 rfl) 0 rfl rfl ?_
  refine g_8_28 rfl k0 (dd dt_8_splitTape 93 rfl) ?_
  refine R_iload_n (dd dt_8_splitTape 94 rfl) 1 rfl rfl ?_
  refine R_aload_n (dd dt_8_splitTape 95 rfl) 0 rfl rfl ?_
  refine g_8_13 rfl k0 (dd dt_8_splitTape 96 rfl) ?_
  obtain ⟨μ5, e6, h⟩ := bi_el h
  refine R_isto e6 (ty_8_4 k0) (dd dt_8_splitTape 97 rfl) ?_
  refine R_aload_n (dd dt_8_splitTape 98 rfl) 0 rfl rfl ?_
  refine g_8_24 rfl k0 (dd dt_8_splitTape 99 rfl) ?_
  refine R_iload_n (dd dt_8_splitTape 100 rfl) 1 rfl rfl ?_
  refine R_iconst (v := (-1)) (dd dt_8_splitTape 101 rfl) ic_m1 ?_
  obtain ⟨μ7, e8, h⟩ := bi_el h
  refine R_isto e8 (ty_8_3 k0) (dd dt_8_splitTape 102 rfl) ?_
  obtain rfl := Option.some.inj h
  exact R_vret rfl (dd dt_8_splitTape 103 rfl) hQ
/-! LongStrike$TextReader.useUp()I -/
def tab_8_useUp : List (Nat × Instr × Nat) := [(0, .aload_n 0, 1), (1, .invokevirtual 40, 3), (4, .aload_n 0, 1), (5, .iconst 0, 1), (6, .putfield 13, 3), (9, .aload_n 0, 1), (10, .getfield 20, 3), (13, .invokevirtual 43, 3), (16, .aload_n 0, 1), (17, .iconst 0, 1), (18, .putfield 34, 3), (21, .aload_n 0, 1), (22, .aload_n 0, 1), (23, .getfield 24, 3), (26, .iconst 0, 1), (27, .iaload, 1), (28, .putfield 37, 3), (31, .iconst 1, 1), (32, .istore_n 1, 1), (33, .iconst 0, 1), (34, .istore_n 2, 1), (35, .iload_n 2, 1), (36, .bipush 10, 2), (38, .if_icmp .ge 26, 3), (41, .iload_n 1, 1), (42, .ifCond .eq 22, 3), (45, .aload_n 0, 1), (46, .getfield 37, 3), (49, .iconst (-1), 1), (50, .if_icmp .eq 14, 3), (53, .aload_n 0, 1), (54, .invokevirtual 46, 3), (57, .istore_n 1, 1), (58, .iinc 2 1, 3), (61, .goto (-26), 3), (64, .iload_n 1, 1), (65, .ifCond .eq 15, 3), (68, .aload_n 0, 1), (69, .getfield 37, 3), (72, .iconst (-1), 1), (73, .if_icmp .ne 7, 3), (76, .iconst (-1), 1), (77, .goto 12, 3), (80, .aload_n 0, 1), (81, .getfield 28, 3), (84, .aload_n 0, 1), (85, .getfield 34, 3), (88, .iaload, 1), (89, .ireturn, 1)]
set_option maxRecDepth 100000 in
theorem dt_8_useUp : ∀ q ∈ tab_8_useUp, decode m_8_useUp.2.1 q.1 = .ok q.2 := by decide +kernel
def f_8_useUp_l35 (a0 : Nat) : Nat → Int32 → Int32 → mm → Option (Int32 × mm)
  | 0, _, _, _ => none
  | n + 1, v1, v2, μ => if 10 ≤ v2 then
      some (v1, μ)
    else
      if v1 = 0 then
        some (v1, μ)
      else
        if (μ a0 7) = (-1) then
          some (v1, μ)
        else
          (f_8_readLine a0 μ).bind fun z2 =>
          f_8_useUp_l35 a0 n z2.1 (v2 + 1) z2.2
set_option maxRecDepth 100000 in
theorem ok_8_useUp_l35 {l : Launch} {E : ce} {d : Nat} {Q : Option Value → mm → Prop} (a0 : Nat) (k0 : kd a0 = 8) : ∀ (n : Nat) (v1 : Int32) (v2 : Int32) (μ : mm) (z : Int32 × mm), f_8_useUp_l35 a0 n v1 v2 μ = some z → Rj l E (d + 30) m_8_useUp 64 [some (.ref a0), some (.int z.1), none] [] z.2 Q → Rj l E (d + 30) m_8_useUp 35 [some (.ref a0), some (.int v1), some (.int v2)] [] μ Q
  | 0, _, _, _, z, h, _ => by
    rw [f_8_useUp_l35] at h
    cases h
  | n + 1, v1, v2, μ, z, h, KX => by
    rw [f_8_useUp_l35] at h
    refine R_iload_n (dd dt_8_useUp 21 rfl) 2 rfl rfl ?_
    refine R_bipush (v := 10) (dd dt_8_useUp 22 rfl) bp_10 ?_
    refine R_cmpge (dd dt_8_useUp 23 rfl) (tgt := 64) rfl (fun hc => ?_) (fun hc => ?_)
    · rw [if_pos hc] at h
      obtain rfl := Option.some.inj h
      exact R_mask [true, true, false] rfl KX
    · rw [if_neg hc] at h
      refine R_iload_n (dd dt_8_useUp 24 rfl) 1 rfl rfl ?_
      refine R_ifeq (dd dt_8_useUp 25 rfl) (tgt := 64) rfl (fun hc => ?_) (fun hc => ?_)
      · rw [if_pos hc] at h
        obtain rfl := Option.some.inj h
        exact R_mask [true, true, false] rfl KX
      · rw [if_neg hc] at h
        refine R_aload_n (dd dt_8_useUp 26 rfl) 0 rfl rfl ?_
        refine g_8_37 rfl k0 (dd dt_8_useUp 27 rfl) ?_
        refine R_iconst (v := (-1)) (dd dt_8_useUp 28 rfl) ic_m1 ?_
        refine R_cmpeq (dd dt_8_useUp 29 rfl) (tgt := 64) rfl (fun hc => ?_) (fun hc => ?_)
        · rw [if_pos hc] at h
          obtain rfl := Option.some.inj h
          exact R_mask [true, true, false] rfl KX
        · rw [if_neg hc] at h
          refine R_aload_n (dd dt_8_useUp 30 rfl) 0 rfl rfl ?_
          obtain ⟨z2, e1, h⟩ := bi_el h
          refine c_8_46 (As := []) (st1 := [.int z2.1]) rfl (fun Q1 hq => ok_8_readLine e1 k0 hq) k0 rfl rfl (Nat.le_of_ble_eq_true rfl) (dd dt_8_useUp 31 rfl) rfl ?_
          refine R_istore_n (lv' := [some (.ref a0), some (.int z2.1), some (.int v2)]) (dd dt_8_useUp 32 rfl) 1 rfl (by decide) rfl rfl ?_
          refine R_iinc (v := 1) (lv' := [some (.ref a0), some (.int z2.1), some (.int (v2 + 1))]) (dd dt_8_useUp 33 rfl) (by decide) rfl rfl ic_1 rfl ?_
          refine R_goto (dd dt_8_useUp 34 rfl) (tgt := 35) rfl ?_
          exact R_mask [true, true, true] rfl (ok_8_useUp_l35 a0 k0 n z2.1 (v2 + 1) z2.2 _ h KX)
def f_8_useUp (a0 : Nat) (μ : mm) : Option (Int32 × mm) :=
  (f_8_splitTape a0 μ).bind fun μ2 =>
  (pf μ2 a0 1 0).bind fun μ3 =>
  (f_5_clear (rf a0 2) μ3).bind fun μ6 =>
  (pf μ6 a0 6 0).bind fun μ7 =>
  (ld μ7 (rf a0 3) 0).bind fun x9 =>
  (pf μ7 a0 7 x9).bind fun μ11 =>
  (f_8_useUp_l35 a0 FU 1 0 μ11).bind fun z13 =>
  if z13.1 = 0 then
    (ld z13.2 (rf a0 4) (z13.2 a0 6)).bind fun x15 =>
    some (x15, z13.2)
  else
    if (z13.2 a0 7) = (-1) then
      some ((-1), z13.2)
    else
      (ld z13.2 (rf a0 4) (z13.2 a0 6)).bind fun x17 =>
      some (x17, z13.2)
set_option maxRecDepth 100000 in
set_option maxHeartbeats 4000000 in
theorem ok_8_useUp {l : Launch} {E : ce} {d : Nat}  {a0 : Nat} {μ : mm} {r : Int32 × mm} {Q : Option Value → mm → Prop} (h : f_8_useUp a0 μ = some r) (k0 : kd a0 = 8) (hQ : Q (some (.int r.1)) r.2) : Ct l E (d + 30) yX8_useUp m_8_useUp [.ref a0] μ Q := by
  refine Ct_of (lv := [some (.ref a0), none, none]) (by decide) rfl (Nat.le_of_ble_eq_true rfl) rfl ?_
  unfold f_8_useUp at h
  refine R_aload_n (dd dt_8_useUp 0 rfl) 0 rfl rfl ?_
  obtain ⟨μ2, e1, h⟩ := bi_el h
  refine c_8_40 (As := []) (st1 := []) rfl (fun Q1 hq => ok_8_splitTape e1 k0 hq) k0 rfl rfl (Nat.le_of_ble_eq_true rfl) (dd dt_8_useUp 1 rfl) rfl ?_
  refine R_aload_n (dd dt_8_useUp 2 rfl) 0 rfl rfl ?_
  refine R_iconst (v := 0) (dd dt_8_useUp 3 rfl) ic_0 ?_
  obtain ⟨μ3, e4, h⟩ := bi_el h
  refine p_8_13 rfl k0 (dd dt_8_useUp 4 rfl) e4 ?_
  refine R_aload_n (dd dt_8_useUp 5 rfl) 0 rfl rfl ?_
  refine g_8_20 rfl k0 (dd dt_8_useUp 6 rfl) ?_
  obtain ⟨μ6, e5, h⟩ := bi_el h
  refine c_8_43 (As := []) (st1 := []) rfl (fun Q1 hq => ok_5_clear e5 (ty_8_2 k0) hq) (ty_8_2 k0) rfl rfl (Nat.le_of_ble_eq_true rfl) (dd dt_8_useUp 7 rfl) rfl ?_
  refine R_aload_n (dd dt_8_useUp 8 rfl) 0 rfl rfl ?_
  refine R_iconst (v := 0) (dd dt_8_useUp 9 rfl) ic_0 ?_
  obtain ⟨μ7, e8, h⟩ := bi_el h
  refine p_8_34 rfl k0 (dd dt_8_useUp 10 rfl) e8 ?_
  refine R_aload_n (dd dt_8_useUp 11 rfl) 0 rfl rfl ?_
  refine R_aload_n (dd dt_8_useUp 12 rfl) 0 rfl rfl ?_
  refine g_8_24 rfl k0 (dd dt_8_useUp 13 rfl) ?_
  refine R_iconst (v := 0) (dd dt_8_useUp 14 rfl) ic_0 ?_
  obtain ⟨x9, e10, h⟩ := bi_el h
  refine R_ild e10 (ty_8_3 k0) (dd dt_8_useUp 15 rfl) ?_
  obtain ⟨μ11, e12, h⟩ := bi_el h
  refine p_8_37 rfl k0 (dd dt_8_useUp 16 rfl) e12 ?_
  refine R_iconst (v := 1) (dd dt_8_useUp 17 rfl) ic_1 ?_
  refine R_istore_n (lv' := [some (.ref a0), some (.int 1), none]) (dd dt_8_useUp 18 rfl) 1 rfl (by decide) rfl rfl ?_
  refine R_iconst (v := 0) (dd dt_8_useUp 19 rfl) ic_0 ?_
  refine R_istore_n (lv' := [some (.ref a0), some (.int 1), some (.int 0)]) (dd dt_8_useUp 20 rfl) 2 rfl (by decide) rfl rfl ?_
  obtain ⟨z13, e14, h⟩ := bi_el h
  refine R_mask [true, true, true] rfl (ok_8_useUp_l35 a0 k0 FU 1 0 μ11 _ e14 ?_)
  refine R_iload_n (dd dt_8_useUp 35 rfl) 1 rfl rfl ?_
  refine R_ifeq (dd dt_8_useUp 36 rfl) (tgt := 80) rfl (fun hc => ?_) (fun hc => ?_)
  · rw [if_pos hc] at h
    refine R_aload_n (dd dt_8_useUp 43 rfl) 0 rfl rfl ?_
    refine g_8_28 rfl k0 (dd dt_8_useUp 44 rfl) ?_
    refine R_aload_n (dd dt_8_useUp 45 rfl) 0 rfl rfl ?_
    refine g_8_34 rfl k0 (dd dt_8_useUp 46 rfl) ?_
    obtain ⟨x15, e16, h⟩ := bi_el h
    refine R_ild e16 (ty_8_4 k0) (dd dt_8_useUp 47 rfl) ?_
    obtain rfl := Option.some.inj h
    exact R_iret rfl (dd dt_8_useUp 48 rfl) hQ
  · rw [if_neg hc] at h
    refine R_aload_n (dd dt_8_useUp 37 rfl) 0 rfl rfl ?_
    refine g_8_37 rfl k0 (dd dt_8_useUp 38 rfl) ?_
    refine R_iconst (v := (-1)) (dd dt_8_useUp 39 rfl) ic_m1 ?_
    refine R_cmpne (dd dt_8_useUp 40 rfl) (tgt := 80) rfl (fun hc => ?_) (fun hc => ?_)
    · rw [if_neg hc] at h
      refine R_aload_n (dd dt_8_useUp 43 rfl) 0 rfl rfl ?_
      refine g_8_28 rfl k0 (dd dt_8_useUp 44 rfl) ?_
      refine R_aload_n (dd dt_8_useUp 45 rfl) 0 rfl rfl ?_
      refine g_8_34 rfl k0 (dd dt_8_useUp 46 rfl) ?_
      obtain ⟨x17, e18, h⟩ := bi_el h
      refine R_ild e18 (ty_8_4 k0) (dd dt_8_useUp 47 rfl) ?_
      obtain rfl := Option.some.inj h
      exact R_iret rfl (dd dt_8_useUp 48 rfl) hQ
    · rw [if_pos hc] at h
      refine R_iconst (v := (-1)) (dd dt_8_useUp 41 rfl) ic_m1 ?_
      refine R_goto (dd dt_8_useUp 42 rfl) (tgt := 89) rfl ?_
      obtain rfl := Option.some.inj h
      exact R_iret rfl (dd dt_8_useUp 48 rfl) hQ
/-! LongStrike.read(I)I -/
def tab_11_read : List (Nat × Instr × Nat) := [(0, .aload_n 0, 1), (1, .getfield 29, 3), (4, .invokevirtual 297, 3), (7, .istore_n 2, 1), (8, .iload_n 1, 1), (9, .iconst 0, 1), (10, .iconst 2, 1), (11, .invokestatic 83, 3), (14, .ifCond .ne 5, 3), (17, .iconst (-1), 1), (18, .ireturn, 1), (19, .iload_n 2, 1), (20, .iconst (-1), 1), (21, .if_icmp .eq 8, 3), (24, .bipush (-100), 2), (26, .iload_n 2, 1), (27, .isub, 1), (28, .ireturn, 1), (29, .aload_n 0, 1), (30, .getfield 10, 3), (33, .getfield 300, 3), (36, .iload_n 1, 1), (37, .aaload, 1), (38, .aload_n 0, 1), (39, .getfield 29, 3), (42, .getfield 304, 3), (45, .invokevirtual 308, 3), (48, .aload_n 0, 1), (49, .getfield 10, 3), (52, .getfield 300, 3), (55, .iload_n 1, 1), (56, .aaload, 1), (57, .getfield 314, 3), (60, .ireturn, 1)]
set_option maxRecDepth 100000 in
theorem dt_11_read : ∀ q ∈ tab_11_read, decode m_11_read.2.1 q.1 = .ok q.2 := by decide +kernel
def f_11_read (a0 : Nat) (a1 : Int32) (μ : mm) : Option (Int32 × mm) :=
  (f_8_useUp (rf a0 4) μ).bind fun z2 =>
  (f_11_isIn a1 0 2 z2.2).bind fun x4 =>
  if x4 = 0 then
    some ((-1), z2.2)
  else
    if z2.1 = (-1) then
      (lda (rf (rf a0 0) 11) a1).bind fun r5 =>
      (f_5_takeFrom r5 (rf (rf a0 4) 2) z2.2).bind fun μ8 =>
      (lda (rf (rf a0 0) 11) a1).bind fun r9 =>
      some ((μ8 r9 0), μ8)
    else
      some (((-100) - z2.1), z2.2)
set_option maxRecDepth 100000 in
set_option maxHeartbeats 4000000 in
theorem ok_11_read {l : Launch} {E : ce} {d : Nat}  {a0 : Nat} {a1 : Int32} {μ : mm} {r : Int32 × mm} {Q : Option Value → mm → Prop} (h : f_11_read a0 a1 μ = some r) (k0 : kd a0 = 11) (hQ : Q (some (.int r.1)) r.2) : Ct l E (d + 31) yX11_read m_11_read [.ref a0, .int a1] μ Q := by
  refine Ct_of (lv := [some (.ref a0), some (.int a1), none]) (by decide) rfl (Nat.le_of_ble_eq_true rfl) rfl ?_
  unfold f_11_read at h
  refine R_aload_n (dd dt_11_read 0 rfl) 0 rfl rfl ?_
  refine g_11_29 rfl k0 (dd dt_11_read 1 rfl) ?_
  obtain ⟨z2, e1, h⟩ := bi_el h
  refine c_11_297 (As := []) (st1 := [.int z2.1]) rfl (fun Q1 hq => ok_8_useUp e1 (ty_11_4 k0) hq) (ty_11_4 k0) rfl rfl (Nat.le_of_ble_eq_true rfl) (dd dt_11_read 2 rfl) rfl ?_
  refine R_istore_n (lv' := [some (.ref a0), some (.int a1), some (.int z2.1)]) (dd dt_11_read 3 rfl) 2 rfl (by decide) rfl rfl ?_
  refine R_iload_n (dd dt_11_read 4 rfl) 1 rfl rfl ?_
  refine R_iconst (v := 0) (dd dt_11_read 5 rfl) ic_0 ?_
  refine R_iconst (v := 2) (dd dt_11_read 6 rfl) ic_2 ?_
  obtain ⟨x4, e3, h⟩ := bi_el h
  refine c_11_83 (As := [.int a1, .int 0, .int 2]) (st1 := [.int x4]) rfl (fun Q1 hq => ok_11_isIn e3 hq) rfl rfl (Nat.le_of_ble_eq_true rfl) (dd dt_11_read 7 rfl) rfl ?_
  refine R_ifne (dd dt_11_read 8 rfl) (tgt := 19) rfl (fun hc => ?_) (fun hc => ?_)
  · rw [if_neg hc] at h
    refine R_iload_n (dd dt_11_read 11 rfl) 2 rfl rfl ?_
    refine R_iconst (v := (-1)) (dd dt_11_read 12 rfl) ic_m1 ?_
    refine R_cmpeq (dd dt_11_read 13 rfl) (tgt := 29) rfl (fun hc => ?_) (fun hc => ?_)
    · rw [if_pos hc] at h
      refine R_aload_n (dd dt_11_read 18 rfl) 0 rfl rfl ?_
      refine g_11_10 rfl k0 (dd dt_11_read 19 rfl) ?_
      refine g_11_300 rfl (ty_11_0 k0) (dd dt_11_read 20 rfl) ?_
      refine R_iload_n (dd dt_11_read 21 rfl) 1 rfl rfl ?_
      obtain ⟨r5, e6, h⟩ := bi_el h
      refine R_aald (t0 := 7) e6 (ty_9_11 (ty_11_0 k0)) (by decide) (by decide) rfl rfl (dd dt_11_read 22 rfl) ?_
      refine R_aload_n (dd dt_11_read 23 rfl) 0 rfl rfl ?_
      refine g_11_29 rfl k0 (dd dt_11_read 24 rfl) ?_
      refine g_11_304 rfl (ty_11_4 k0) (dd dt_11_read 25 rfl) ?_
      obtain ⟨μ8, e7, h⟩ := bi_el h
      refine c_11_308 (As := [.ref (rf (rf a0 4) 2)]) (st1 := []) rfl (fun Q1 hq => ok_5_takeFrom e7 (tl_27 e6 (ty_9_11 (ty_11_0 k0))) (ty_8_2 (ty_11_4 k0)) hq) (tl_27 e6 (ty_9_11 (ty_11_0 k0))) rfl rfl (Nat.le_of_ble_eq_true rfl) (dd dt_11_read 26 rfl) rfl ?_
      refine R_aload_n (dd dt_11_read 27 rfl) 0 rfl rfl ?_
      refine g_11_10 rfl k0 (dd dt_11_read 28 rfl) ?_
      refine g_11_300 rfl (ty_11_0 k0) (dd dt_11_read 29 rfl) ?_
      refine R_iload_n (dd dt_11_read 30 rfl) 1 rfl rfl ?_
      obtain ⟨r9, e10, h⟩ := bi_el h
      refine R_aald (t0 := 7) e10 (ty_9_11 (ty_11_0 k0)) (by decide) (by decide) rfl rfl (dd dt_11_read 31 rfl) ?_
      refine g_11_314 rfl (tl_27 e10 (ty_9_11 (ty_11_0 k0))) (dd dt_11_read 32 rfl) ?_
      obtain rfl := Option.some.inj h
      exact R_iret rfl (dd dt_11_read 33 rfl) hQ
    · rw [if_neg hc] at h
      refine R_bipush (v := (-100)) (dd dt_11_read 14 rfl) bp_m100 ?_
      refine R_iload_n (dd dt_11_read 15 rfl) 2 rfl rfl ?_
      refine R_isub (dd dt_11_read 16 rfl) ?_
      obtain rfl := Option.some.inj h
      exact R_iret rfl (dd dt_11_read 17 rfl) hQ
  · rw [if_pos hc] at h
    refine R_iconst (v := (-1)) (dd dt_11_read 9 rfl) ic_m1 ?_
    obtain rfl := Option.some.inj h
    exact R_iret rfl (dd dt_11_read 10 rfl) hQ
/-! LongStrike.line(III)I -/
def tab_11_line : List (Nat × Instr × Nat) := [(0, .iload_n 1, 1), (1, .iconst 0, 1), (2, .iconst 2, 1), (3, .invokestatic 83, 3), (6, .ifCond .eq 25, 3), (9, .iload_n 2, 1), (10, .iconst 0, 1), (11, .aload_n 0, 1), (12, .getfield 10, 3), (15, .getfield 300, 3), (18, .iload_n 1, 1), (19, .aaload, 1), (20, .getfield 314, 3), (23, .iconst 1, 1), (24, .isub, 1), (25, .invokestatic 83, 3), (28, .ifCond .ne 6, 3), (31, .bipush (-9), 2), (33, .ireturn, 1), (34, .aload_n 0, 1), (35, .getfield 10, 3), (38, .getfield 300, 3), (41, .iload_n 1, 1), (42, .aaload, 1), (43, .astore 4, 2), (45, .iload_n 3, 1), (46, .tableswitch 68 0 2 #[26, 34, 58], 26), (72, .aload 4, 2), (74, .getfield 317, 3), (77, .iload_n 2, 1), (78, .iaload, 1), (79, .ireturn, 1), (80, .aload 4, 2), (82, .getfield 317, 3), (85, .iload_n 2, 1), (86, .iaload, 1), (87, .iconst 5, 1), (88, .if_icmp .ne 8, 3), (91, .bipush (-9), 2), (93, .goto 10, 3), (96, .aload 4, 2), (98, .getfield 320, 3), (101, .iload_n 2, 1), (102, .iaload, 1), (103, .ireturn, 1), (104, .aload 4, 2), (106, .iload_n 2, 1), (107, .invokevirtual 323, 3), (110, .invokestatic 181, 3), (113, .ireturn, 1), (114, .bipush (-9), 2), (116, .ireturn, 1)]
set_option maxRecDepth 100000 in
theorem dt_11_line : ∀ q ∈ tab_11_line, decode m_11_line.2.1 q.1 = .ok q.2 := by decide +kernel
def f_11_line (a0 : Nat) (a1 : Int32) (a2 : Int32) (a3 : Int32) (μ : mm) : Option (Int32) :=
  (f_11_isIn a1 0 2 μ).bind fun x2 =>
  if x2 = 0 then
    some (-9)
  else
    (lda (rf (rf a0 0) 11) a1).bind fun r3 =>
    (f_11_isIn a2 0 ((μ r3 0) - 1) μ).bind fun x6 =>
    if x6 = 0 then
      some (-9)
    else
      (lda (rf (rf a0 0) 11) a1).bind fun r7 =>
      if a3 = 0 then
        (ld μ (rf r7 1) a2).bind fun x9 =>
        some x9
      else if a3 = 1 then
        (ld μ (rf r7 1) a2).bind fun x11 =>
        if x11 = 5 then
          some (-9)
        else
          (ld μ (rf r7 2) a2).bind fun x13 =>
          some x13
      else if a3 = 2 then
        (f_5_hasCond r7 a2 μ).bind fun x16 =>
        (f_11_asBit x16 μ).bind fun x18 =>
        some x18
      else 
        some (-9)
set_option maxRecDepth 100000 in
set_option maxHeartbeats 4000000 in
theorem ok_11_line {l : Launch} {E : ce} {d : Nat}  {a0 : Nat} {a1 : Int32} {a2 : Int32} {a3 : Int32} {μ : mm} {r : Int32} {Q : Option Value → mm → Prop} (h : f_11_line a0 a1 a2 a3 μ = some r) (k0 : kd a0 = 11) (hQ : Q (some (.int r)) μ) : Ct l E (d + 1) yX11_line m_11_line [.ref a0, .int a1, .int a2, .int a3] μ Q := by
  refine Ct_of (lv := [some (.ref a0), some (.int a1), some (.int a2), some (.int a3), none]) (by decide) rfl (Nat.le_of_ble_eq_true rfl) rfl ?_
  unfold f_11_line at h
  refine R_iload_n (dd dt_11_line 0 rfl) 1 rfl rfl ?_
  refine R_iconst (v := 0) (dd dt_11_line 1 rfl) ic_0 ?_
  refine R_iconst (v := 2) (dd dt_11_line 2 rfl) ic_2 ?_
  obtain ⟨x2, e1, h⟩ := bi_el h
  refine c_11_83 (As := [.int a1, .int 0, .int 2]) (st1 := [.int x2]) rfl (fun Q1 hq => ok_11_isIn e1 hq) rfl rfl (Nat.le_of_ble_eq_true rfl) (dd dt_11_line 3 rfl) rfl ?_
  refine R_ifeq (dd dt_11_line 4 rfl) (tgt := 31) rfl (fun hc => ?_) (fun hc => ?_)
  · rw [if_pos hc] at h
    refine R_bipush (v := (-9)) (dd dt_11_line 17 rfl) bp_m9 ?_
    obtain rfl := Option.some.inj h
    exact R_iret rfl (dd dt_11_line 18 rfl) hQ
  · rw [if_neg hc] at h
    refine R_iload_n (dd dt_11_line 5 rfl) 2 rfl rfl ?_
    refine R_iconst (v := 0) (dd dt_11_line 6 rfl) ic_0 ?_
    refine R_aload_n (dd dt_11_line 7 rfl) 0 rfl rfl ?_
    refine g_11_10 rfl k0 (dd dt_11_line 8 rfl) ?_
    refine g_11_300 rfl (ty_11_0 k0) (dd dt_11_line 9 rfl) ?_
    refine R_iload_n (dd dt_11_line 10 rfl) 1 rfl rfl ?_
    obtain ⟨r3, e4, h⟩ := bi_el h
    refine R_aald (t0 := 7) e4 (ty_9_11 (ty_11_0 k0)) (by decide) (by decide) rfl rfl (dd dt_11_line 11 rfl) ?_
    refine g_11_314 rfl (tl_27 e4 (ty_9_11 (ty_11_0 k0))) (dd dt_11_line 12 rfl) ?_
    refine R_iconst (v := 1) (dd dt_11_line 13 rfl) ic_1 ?_
    refine R_isub (dd dt_11_line 14 rfl) ?_
    obtain ⟨x6, e5, h⟩ := bi_el h
    refine c_11_83 (As := [.int a2, .int 0, .int ((μ r3 0) - 1)]) (st1 := [.int x6]) rfl (fun Q1 hq => ok_11_isIn e5 hq) rfl rfl (Nat.le_of_ble_eq_true rfl) (dd dt_11_line 15 rfl) rfl ?_
    refine R_ifne (dd dt_11_line 16 rfl) (tgt := 34) rfl (fun hc => ?_) (fun hc => ?_)
    · rw [if_neg hc] at h
      refine R_aload_n (dd dt_11_line 19 rfl) 0 rfl rfl ?_
      refine g_11_10 rfl k0 (dd dt_11_line 20 rfl) ?_
      refine g_11_300 rfl (ty_11_0 k0) (dd dt_11_line 21 rfl) ?_
      refine R_iload_n (dd dt_11_line 22 rfl) 1 rfl rfl ?_
      obtain ⟨r7, e8, h⟩ := bi_el h
      refine R_aald (t0 := 7) e8 (ty_9_11 (ty_11_0 k0)) (by decide) (by decide) rfl rfl (dd dt_11_line 23 rfl) ?_
      refine R_astore (lv' := [some (.ref a0), some (.int a1), some (.int a2), some (.int a3), some (.ref r7)]) (dd dt_11_line 24 rfl) (by decide) rfl rfl ?_
      refine R_iload_n (dd dt_11_line 25 rfl) 3 rfl rfl ?_
      by_cases hs0 : a3 = 0
      · refine R_tabIn (off := 26) (tgt := 72) (dd dt_11_line 26 rfl) (by rw [hs0]; decide) (by rw [hs0]; decide) (by rw [hs0]; rfl) rfl ?_
        rw [if_pos hs0] at h
        refine R_aload (dd dt_11_line 27 rfl) rfl ?_
        refine g_11_317 rfl (tl_27 e8 (ty_9_11 (ty_11_0 k0))) (dd dt_11_line 28 rfl) ?_
        refine R_iload_n (dd dt_11_line 29 rfl) 2 rfl rfl ?_
        obtain ⟨x9, e10, h⟩ := bi_el h
        refine R_ild e10 (ty_5_1 (tl_27 e8 (ty_9_11 (ty_11_0 k0)))) (dd dt_11_line 30 rfl) ?_
        obtain rfl := Option.some.inj h
        exact R_iret rfl (dd dt_11_line 31 rfl) hQ
      rw [if_neg hs0] at h
      by_cases hs1 : a3 = 1
      · refine R_tabIn (off := 34) (tgt := 80) (dd dt_11_line 26 rfl) (by rw [hs1]; decide) (by rw [hs1]; decide) (by rw [hs1]; rfl) rfl ?_
        rw [if_pos hs1] at h
        refine R_aload (dd dt_11_line 32 rfl) rfl ?_
        refine g_11_317 rfl (tl_27 e8 (ty_9_11 (ty_11_0 k0))) (dd dt_11_line 33 rfl) ?_
        refine R_iload_n (dd dt_11_line 34 rfl) 2 rfl rfl ?_
        obtain ⟨x11, e12, h⟩ := bi_el h
        refine R_ild e12 (ty_5_1 (tl_27 e8 (ty_9_11 (ty_11_0 k0)))) (dd dt_11_line 35 rfl) ?_
        refine R_iconst (v := 5) (dd dt_11_line 36 rfl) ic_5 ?_
        refine R_cmpne (dd dt_11_line 37 rfl) (tgt := 96) rfl (fun hc => ?_) (fun hc => ?_)
        · rw [if_neg hc] at h
          refine R_aload (dd dt_11_line 40 rfl) rfl ?_
          refine g_11_320 rfl (tl_27 e8 (ty_9_11 (ty_11_0 k0))) (dd dt_11_line 41 rfl) ?_
          refine R_iload_n (dd dt_11_line 42 rfl) 2 rfl rfl ?_
          obtain ⟨x13, e14, h⟩ := bi_el h
          refine R_ild e14 (ty_5_2 (tl_27 e8 (ty_9_11 (ty_11_0 k0)))) (dd dt_11_line 43 rfl) ?_
          obtain rfl := Option.some.inj h
          exact R_iret rfl (dd dt_11_line 44 rfl) hQ
        · rw [if_pos hc] at h
          refine R_bipush (v := (-9)) (dd dt_11_line 38 rfl) bp_m9 ?_
          refine R_goto (dd dt_11_line 39 rfl) (tgt := 103) rfl ?_
          obtain rfl := Option.some.inj h
          exact R_iret rfl (dd dt_11_line 44 rfl) hQ
      rw [if_neg hs1] at h
      by_cases hs2 : a3 = 2
      · refine R_tabIn (off := 58) (tgt := 104) (dd dt_11_line 26 rfl) (by rw [hs2]; decide) (by rw [hs2]; decide) (by rw [hs2]; rfl) rfl ?_
        rw [if_pos hs2] at h
        refine R_aload (dd dt_11_line 45 rfl) rfl ?_
        refine R_iload_n (dd dt_11_line 46 rfl) 2 rfl rfl ?_
        obtain ⟨x16, e15, h⟩ := bi_el h
        refine c_11_323 (As := [.int a2]) (st1 := [.int x16]) rfl (fun Q1 hq => ok_5_hasCond e15 (tl_27 e8 (ty_9_11 (ty_11_0 k0))) hq) (tl_27 e8 (ty_9_11 (ty_11_0 k0))) rfl rfl (Nat.le_of_ble_eq_true rfl) (dd dt_11_line 47 rfl) rfl ?_
        obtain ⟨x18, e17, h⟩ := bi_el h
        refine c_11_181 (As := [.int x16]) (st1 := [.int x18]) rfl (fun Q1 hq => ok_11_asBit e17 hq) rfl rfl (Nat.le_of_ble_eq_true rfl) (dd dt_11_line 48 rfl) rfl ?_
        obtain rfl := Option.some.inj h
        exact R_iret rfl (dd dt_11_line 49 rfl) hQ
      rw [if_neg hs2] at h
      refine R_tabOut (tgt := 114) (dd dt_11_line 26 rfl) (by have hn0 := lv_neT hs0 (a := 0) (by decide); have hn1 := lv_neT hs1 (a := 1) (by decide); have hn2 := lv_neT hs2 (a := 2) (by decide); omega) rfl ?_
      refine R_bipush (v := (-9)) (dd dt_11_line 50 rfl) bp_m9 ?_
      obtain rfl := Option.some.inj h
      exact R_iret rfl (dd dt_11_line 51 rfl) hQ
    · rw [if_pos hc] at h
      refine R_bipush (v := (-9)) (dd dt_11_line 17 rfl) bp_m9 ?_
      obtain rfl := Option.some.inj h
      exact R_iret rfl (dd dt_11_line 18 rfl) hQ
/-! LongStrike$Valley.evictWeeks()I -/
def tab_9_evictWeeks : List (Nat × Instr × Nat) := [(0, .aload_n 0, 1), (1, .getfield 59, 3), (4, .iconst 2, 1), (5, .aaload, 1), (6, .iconst 4, 1), (7, .bipush 12, 2), (9, .invokevirtual 158, 3), (12, .ireturn, 1)]
set_option maxRecDepth 100000 in
theorem dt_9_evictWeeks : ∀ q ∈ tab_9_evictWeeks, decode m_9_evictWeeks.2.1 q.1 = .ok q.2 := by decide +kernel
def f_9_evictWeeks (a0 : Nat) (μ : mm) : Option (Int32) :=
  (lda (rf a0 11) 2).bind fun r1 =>
  (f_5_numberOf r1 4 12 μ).bind fun x4 =>
  some x4
set_option maxRecDepth 100000 in
set_option maxHeartbeats 4000000 in
theorem ok_9_evictWeeks {l : Launch} {E : ce} {d : Nat}  {a0 : Nat} {μ : mm} {r : Int32} {Q : Option Value → mm → Prop} (h : f_9_evictWeeks a0 μ = some r) (k0 : kd a0 = 9) (hQ : Q (some (.int r)) μ) : Ct l E (d + 2) yX9_evictWeeks m_9_evictWeeks [.ref a0] μ Q := by
  refine Ct_of (lv := [some (.ref a0)]) (by decide) rfl (Nat.le_of_ble_eq_true rfl) rfl ?_
  unfold f_9_evictWeeks at h
  refine R_aload_n (dd dt_9_evictWeeks 0 rfl) 0 rfl rfl ?_
  refine g_9_59 rfl k0 (dd dt_9_evictWeeks 1 rfl) ?_
  refine R_iconst (v := 2) (dd dt_9_evictWeeks 2 rfl) ic_2 ?_
  obtain ⟨r1, e2, h⟩ := bi_el h
  refine R_aald (t0 := 7) e2 (ty_9_11 k0) (by decide) (by decide) rfl rfl (dd dt_9_evictWeeks 3 rfl) ?_
  refine R_iconst (v := 4) (dd dt_9_evictWeeks 4 rfl) ic_4 ?_
  refine R_bipush (v := 12) (dd dt_9_evictWeeks 5 rfl) bp_12 ?_
  obtain ⟨x4, e3, h⟩ := bi_el h
  refine c_9_158 (As := [.int 4, .int 12]) (st1 := [.int x4]) rfl (fun Q1 hq => ok_5_numberOf e3 (tl_27 e2 (ty_9_11 k0)) hq) (tl_27 e2 (ty_9_11 k0)) rfl rfl (Nat.le_of_ble_eq_true rfl) (dd dt_9_evictWeeks 6 rfl) rfl ?_
  obtain rfl := Option.some.inj h
  exact R_iret rfl (dd dt_9_evictWeeks 7 rfl) hQ
/-! LongStrike$Valley.quorum()I -/
def tab_9_quorum : List (Nat × Instr × Nat) := [(0, .aload_n 0, 1), (1, .getfield 59, 3), (4, .iconst 0, 1), (5, .aaload, 1), (6, .iconst 3, 1), (7, .bipush 50, 2), (9, .invokevirtual 158, 3), (12, .ireturn, 1)]
set_option maxRecDepth 100000 in
theorem dt_9_quorum : ∀ q ∈ tab_9_quorum, decode m_9_quorum.2.1 q.1 = .ok q.2 := by decide +kernel
def f_9_quorum (a0 : Nat) (μ : mm) : Option (Int32) :=
  (lda (rf a0 11) 0).bind fun r1 =>
  (f_5_numberOf r1 3 50 μ).bind fun x4 =>
  some x4
set_option maxRecDepth 100000 in
set_option maxHeartbeats 4000000 in
theorem ok_9_quorum {l : Launch} {E : ce} {d : Nat}  {a0 : Nat} {μ : mm} {r : Int32} {Q : Option Value → mm → Prop} (h : f_9_quorum a0 μ = some r) (k0 : kd a0 = 9) (hQ : Q (some (.int r)) μ) : Ct l E (d + 2) yX9_quorum m_9_quorum [.ref a0] μ Q := by
  refine Ct_of (lv := [some (.ref a0)]) (by decide) rfl (Nat.le_of_ble_eq_true rfl) rfl ?_
  unfold f_9_quorum at h
  refine R_aload_n (dd dt_9_quorum 0 rfl) 0 rfl rfl ?_
  refine g_9_59 rfl k0 (dd dt_9_quorum 1 rfl) ?_
  refine R_iconst (v := 0) (dd dt_9_quorum 2 rfl) ic_0 ?_
  obtain ⟨r1, e2, h⟩ := bi_el h
  refine R_aald (t0 := 7) e2 (ty_9_11 k0) (by decide) (by decide) rfl rfl (dd dt_9_quorum 3 rfl) ?_
  refine R_iconst (v := 3) (dd dt_9_quorum 4 rfl) ic_3 ?_
  refine R_bipush (v := 50) (dd dt_9_quorum 5 rfl) bp_50 ?_
  obtain ⟨x4, e3, h⟩ := bi_el h
  refine c_9_158 (As := [.int 3, .int 50]) (st1 := [.int x4]) rfl (fun Q1 hq => ok_5_numberOf e3 (tl_27 e2 (ty_9_11 k0)) hq) (tl_27 e2 (ty_9_11 k0)) rfl rfl (Nat.le_of_ble_eq_true rfl) (dd dt_9_quorum 6 rfl) rfl ?_
  obtain rfl := Option.some.inj h
  exact R_iret rfl (dd dt_9_quorum 7 rfl) hQ
