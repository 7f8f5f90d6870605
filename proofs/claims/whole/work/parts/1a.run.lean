/-! java/util/Arrays.fill([II)V -/
def tab_J7_fill : List (Nat × Instr × Nat) := [(0, .iconst 0, 1), (1, .istore_n 2, 1), (2, .aload_n 0, 1), (3, .arraylength, 1), (4, .istore_n 3, 1), (5, .iload_n 2, 1), (6, .iload_n 3, 1), (7, .if_icmp .ge 13, 3), (10, .aload_n 0, 1), (11, .iload_n 2, 1), (12, .iload_n 1, 1), (13, .iastore, 1), (14, .iinc 2 1, 3), (17, .goto (-12), 3), (20, .return_, 1)]
set_option maxRecDepth 100000 in
theorem dt_J7_fill : ∀ q ∈ tab_J7_fill, decode m_J7_fill.2.1 q.1 = .ok q.2 := by decide +kernel
def f_J7_fill_l5 (a0 : Nat) (a1 : Int32) (a3 : Int32) : Nat → Int32 → mm → Option (mm)
  | 0, _, _ => none
  | n + 1, v2, μ => if a3 ≤ v2 then
      some μ
    else
      (sto μ a0 v2 a1).bind fun μ1 =>
      f_J7_fill_l5 a0 a1 a3 n (v2 + 1) μ1
set_option maxRecDepth 100000 in
theorem ok_J7_fill_l5 {l : Launch} {E : ce} {d : Nat} {Q : Option Value → mm → Prop} (a0 : Nat) (a1 : Int32) (a3 : Int32) (k0 : kd a0 = 20) : ∀ (n : Nat) (v2 : Int32) (μ : mm) (z : mm), f_J7_fill_l5 a0 a1 a3 n v2 μ = some z → Rj l E d m_J7_fill 20 [none, none, none, none] [] z Q → Rj l E d m_J7_fill 5 [some (.ref a0), some (.int a1), some (.int v2), some (.int a3)] [] μ Q
  | 0, _, _, z, h, _ => by
    rw [f_J7_fill_l5] at h
    cases h
  | n + 1, v2, μ, z, h, KX => by
    rw [f_J7_fill_l5] at h
    refine R_iload_n (dd dt_J7_fill 5 rfl) 2 rfl rfl ?_
    refine R_iload_n (dd dt_J7_fill 6 rfl) 3 rfl rfl ?_
    refine R_cmpge (dd dt_J7_fill 7 rfl) (tgt := 20) rfl (fun hc => ?_) (fun hc => ?_)
    · rw [if_pos hc] at h
      obtain rfl := Option.some.inj h
      exact R_mask [false, false, false, false] rfl KX
    · rw [if_neg hc] at h
      refine R_aload_n (dd dt_J7_fill 8 rfl) 0 rfl rfl ?_
      refine R_iload_n (dd dt_J7_fill 9 rfl) 2 rfl rfl ?_
      refine R_iload_n (dd dt_J7_fill 10 rfl) 1 rfl rfl ?_
      obtain ⟨μ1, e2, h⟩ := bi_el h
      refine R_isto e2 k0 (dd dt_J7_fill 11 rfl) ?_
      refine R_iinc (v := 1) (lv' := [some (.ref a0), some (.int a1), some (.int (v2 + 1)), some (.int a3)]) (dd dt_J7_fill 12 rfl) (by decide) rfl rfl ic_1 rfl ?_
      refine R_goto (dd dt_J7_fill 13 rfl) (tgt := 5) rfl ?_
      exact R_mask [true, true, true, true] rfl (ok_J7_fill_l5 a0 a1 a3 k0 n (v2 + 1) μ1 _ h KX)
def f_J7_fill (a0 : Nat) (a1 : Int32) (μ : mm) : Option (mm) :=
  (f_J7_fill_l5 a0 a1 (Int32.ofNat (len a0)) FU 0 μ).bind fun z1 =>
  some z1
set_option maxRecDepth 100000 in
set_option maxHeartbeats 4000000 in
theorem ok_J7_fill {l : Launch} {E : ce} {d : Nat}  {a0 : Nat} {a1 : Int32} {μ : mm} {r : mm} {Q : Option Value → mm → Prop} (h : f_J7_fill a0 a1 μ = some r) (k0 : kd a0 = 20) (hQ : Q none r) : Ct l E d yJ7_fill_53178 m_J7_fill [.ref a0, .int a1] μ Q := by
  refine Ct_of (lv := [some (.ref a0), some (.int a1), none, none]) (by decide) rfl (Nat.le_of_ble_eq_true rfl) rfl ?_
  unfold f_J7_fill at h
  refine R_iconst (v := 0) (dd dt_J7_fill 0 rfl) ic_0 ?_
  refine R_istore_n (lv' := [some (.ref a0), some (.int a1), some (.int 0), none]) (dd dt_J7_fill 1 rfl) 2 rfl (by decide) rfl rfl ?_
  refine R_aload_n (dd dt_J7_fill 2 rfl) 0 rfl rfl ?_
  refine R_alen rfl k0 (dd dt_J7_fill 3 rfl) ?_
  refine R_istore_n (lv' := [some (.ref a0), some (.int a1), some (.int 0), some (.int (Int32.ofNat (len a0)))]) (dd dt_J7_fill 4 rfl) 3 rfl (by decide) rfl rfl ?_
  obtain ⟨z1, e2, h⟩ := bi_el h
  refine R_mask [true, true, true, true] rfl (ok_J7_fill_l5 a0 a1 (Int32.ofNat (len a0)) k0 FU 0 μ _ e2 ?_)
  obtain rfl := Option.some.inj h
  exact R_vret rfl (dd dt_J7_fill 14 rfl) hQ
/-! LongStrike.isIn(III)Z -/
def tab_11_isIn : List (Nat × Instr × Nat) := [(0, .iload_n 0, 1), (1, .iload_n 1, 1), (2, .if_icmp .lt 12, 3), (5, .iload_n 0, 1), (6, .iload_n 2, 1), (7, .if_icmp .gt 7, 3), (10, .iconst 1, 1), (11, .goto 4, 3), (14, .iconst 0, 1), (15, .ireturn, 1)]
set_option maxRecDepth 100000 in
theorem dt_11_isIn : ∀ q ∈ tab_11_isIn, decode m_11_isIn.2.1 q.1 = .ok q.2 := by decide +kernel
def f_11_isIn (a0 : Int32) (a1 : Int32) (a2 : Int32) (μ : mm) : Option (Int32) :=
  if a0 < a1 then
    some 0
  else
    if a2 < a0 then
      some 0
    else
      some 1
set_option maxRecDepth 100000 in
set_option maxHeartbeats 4000000 in
theorem ok_11_isIn {l : Launch} {E : ce} {d : Nat}  {a0 : Int32} {a1 : Int32} {a2 : Int32} {μ : mm} {r : Int32} {Q : Option Value → mm → Prop} (h : f_11_isIn a0 a1 a2 μ = some r)  (hQ : Q (some (.int r)) μ) : Ct l E d yX11_isIn m_11_isIn [.int a0, .int a1, .int a2] μ Q := by
  refine Ct_of (lv := [some (.int a0), some (.int a1), some (.int a2)]) (by decide) rfl (Nat.le_of_ble_eq_true rfl) rfl ?_
  unfold f_11_isIn at h
  refine R_iload_n (dd dt_11_isIn 0 rfl) 0 rfl rfl ?_
  refine R_iload_n (dd dt_11_isIn 1 rfl) 1 rfl rfl ?_
  refine R_cmplt (dd dt_11_isIn 2 rfl) (tgt := 14) rfl (fun hc => ?_) (fun hc => ?_)
  · rw [if_pos hc] at h
    refine R_iconst (v := 0) (dd dt_11_isIn 8 rfl) ic_0 ?_
    obtain rfl := Option.some.inj h
    exact R_zret rfl (by decide) (dd dt_11_isIn 9 rfl) hQ
  · rw [if_neg hc] at h
    refine R_iload_n (dd dt_11_isIn 3 rfl) 0 rfl rfl ?_
    refine R_iload_n (dd dt_11_isIn 4 rfl) 2 rfl rfl ?_
    refine R_cmpgt (dd dt_11_isIn 5 rfl) (tgt := 14) rfl (fun hc => ?_) (fun hc => ?_)
    · rw [if_pos hc] at h
      refine R_iconst (v := 0) (dd dt_11_isIn 8 rfl) ic_0 ?_
      obtain rfl := Option.some.inj h
      exact R_zret rfl (by decide) (dd dt_11_isIn 9 rfl) hQ
    · rw [if_neg hc] at h
      refine R_iconst (v := 1) (dd dt_11_isIn 6 rfl) ic_1 ?_
      refine R_goto (dd dt_11_isIn 7 rfl) (tgt := 15) rfl ?_
      obtain rfl := Option.some.inj h
      exact R_zret rfl (by decide) (dd dt_11_isIn 9 rfl) hQ
/-! LongStrike$Pit.isLost()Z -/
def tab_4_isLost : List (Nat × Instr × Nat) := [(0, .aload_n 0, 1), (1, .getfield 25, 3), (4, .iconst (-1), 1), (5, .if_icmp .eq 7, 3), (8, .iconst 1, 1), (9, .goto 4, 3), (12, .iconst 0, 1), (13, .ireturn, 1)]
set_option maxRecDepth 100000 in
theorem dt_4_isLost : ∀ q ∈ tab_4_isLost, decode m_4_isLost.2.1 q.1 = .ok q.2 := by decide +kernel
def f_4_isLost (a0 : Nat) (μ : mm) : Option (Int32) :=
  if (μ a0 5) = (-1) then
    some 0
  else
    some 1
set_option maxRecDepth 100000 in
set_option maxHeartbeats 4000000 in
theorem ok_4_isLost {l : Launch} {E : ce} {d : Nat}  {a0 : Nat} {μ : mm} {r : Int32} {Q : Option Value → mm → Prop} (h : f_4_isLost a0 μ = some r) (k0 : kd a0 = 4) (hQ : Q (some (.int r)) μ) : Ct l E d yX4_isLost m_4_isLost [.ref a0] μ Q := by
  refine Ct_of (lv := [some (.ref a0)]) (by decide) rfl (Nat.le_of_ble_eq_true rfl) rfl ?_
  unfold f_4_isLost at h
  refine R_aload_n (dd dt_4_isLost 0 rfl) 0 rfl rfl ?_
  refine g_4_25 rfl k0 (dd dt_4_isLost 1 rfl) ?_
  refine R_iconst (v := (-1)) (dd dt_4_isLost 2 rfl) ic_m1 ?_
  refine R_cmpeq (dd dt_4_isLost 3 rfl) (tgt := 12) rfl (fun hc => ?_) (fun hc => ?_)
  · rw [if_pos hc] at h
    refine R_iconst (v := 0) (dd dt_4_isLost 6 rfl) ic_0 ?_
    obtain rfl := Option.some.inj h
    exact R_zret rfl (by decide) (dd dt_4_isLost 7 rfl) hQ
  · rw [if_neg hc] at h
    refine R_iconst (v := 1) (dd dt_4_isLost 4 rfl) ic_1 ?_
    refine R_goto (dd dt_4_isLost 5 rfl) (tgt := 13) rfl ?_
    obtain rfl := Option.some.inj h
    exact R_zret rfl (by decide) (dd dt_4_isLost 7 rfl) hQ
/-! LongStrike$Pit.waterAfter(II)I -/
def tab_4_waterAfter : List (Nat × Instr × Nat) := [(0, .iconst 0, 1), (1, .iload_n 1, 1), (2, .aload_n 0, 1), (3, .getfield 13, 3), (6, .iadd, 1), (7, .aload_n 0, 1), (8, .getfield 16, 3), (11, .iload_n 2, 1), (12, .imul, 1), (13, .isub, 1), (14, .invokestatic 39, 3), (17, .ireturn, 1)]
set_option maxRecDepth 100000 in
theorem dt_4_waterAfter : ∀ q ∈ tab_4_waterAfter, decode m_4_waterAfter.2.1 q.1 = .ok q.2 := by decide +kernel
def f_4_waterAfter (a0 : Nat) (a1 : Int32) (a2 : Int32) (μ : mm) : Option (Int32) :=
  some (mx 0 ((a1 + (μ a0 1)) - ((μ a0 2) * a2)))
set_option maxRecDepth 100000 in
set_option maxHeartbeats 4000000 in
theorem ok_4_waterAfter {l : Launch} {E : ce} {d : Nat}  {a0 : Nat} {a1 : Int32} {a2 : Int32} {μ : mm} {r : Int32} {Q : Option Value → mm → Prop} (h : f_4_waterAfter a0 a1 a2 μ = some r) (k0 : kd a0 = 4) (hQ : Q (some (.int r)) μ) : Ct l E d yX4_waterAfter m_4_waterAfter [.ref a0, .int a1, .int a2] μ Q := by
  refine Ct_of (lv := [some (.ref a0), some (.int a1), some (.int a2)]) (by decide) rfl (Nat.le_of_ble_eq_true rfl) rfl ?_
  unfold f_4_waterAfter at h
  refine R_iconst (v := 0) (dd dt_4_waterAfter 0 rfl) ic_0 ?_
  refine R_iload_n (dd dt_4_waterAfter 1 rfl) 1 rfl rfl ?_
  refine R_aload_n (dd dt_4_waterAfter 2 rfl) 0 rfl rfl ?_
  refine g_4_13 rfl k0 (dd dt_4_waterAfter 3 rfl) ?_
  refine R_iadd (dd dt_4_waterAfter 4 rfl) ?_
  refine R_aload_n (dd dt_4_waterAfter 5 rfl) 0 rfl rfl ?_
  refine g_4_16 rfl k0 (dd dt_4_waterAfter 6 rfl) ?_
  refine R_iload_n (dd dt_4_waterAfter 7 rfl) 2 rfl rfl ?_
  refine R_imul (dd dt_4_waterAfter 8 rfl) ?_
  refine R_isub (dd dt_4_waterAfter 9 rfl) ?_
  refine R_mmax ml_4_39 (Nat.le_of_ble_eq_true rfl) (dd dt_4_waterAfter 10 rfl) ?_
  obtain rfl := Option.some.inj h
  exact R_iret rfl (dd dt_4_waterAfter 11 rfl) hQ
/-! LongStrike$Pit.fill(II)V -/
def tab_4_fill : List (Nat × Instr × Nat) := [(0, .aload_n 0, 1), (1, .invokevirtual 31, 3), (4, .ifCond .eq 4, 3), (7, .return_, 1), (8, .aload_n 0, 1), (9, .aload_n 0, 1), (10, .aload_n 0, 1), (11, .getfield 22, 3), (14, .iload_n 1, 1), (15, .invokevirtual 35, 3), (18, .putfield 22, 3), (21, .aload_n 0, 1), (22, .getfield 22, 3), (25, .aload_n 0, 1), (26, .getfield 19, 3), (29, .if_icmp .le 8, 3), (32, .aload_n 0, 1), (33, .iload_n 2, 1), (34, .putfield 25, 3), (37, .return_, 1)]
set_option maxRecDepth 100000 in
theorem dt_4_fill : ∀ q ∈ tab_4_fill, decode m_4_fill.2.1 q.1 = .ok q.2 := by decide +kernel
def f_4_fill (a0 : Nat) (a1 : Int32) (a2 : Int32) (μ : mm) : Option (mm) :=
  (f_4_isLost a0 μ).bind fun x2 =>
  if x2 = 0 then
    (f_4_waterAfter a0 (μ a0 4) a1 μ).bind fun x4 =>
    (pf μ a0 4 x4).bind fun μ5 =>
    if (μ5 a0 4) ≤ (μ5 a0 3) then
      some μ5
    else
      (pf μ5 a0 5 a2).bind fun μ7 =>
      some μ7
  else
    some μ
set_option maxRecDepth 100000 in
set_option maxHeartbeats 4000000 in
theorem ok_4_fill {l : Launch} {E : ce} {d : Nat}  {a0 : Nat} {a1 : Int32} {a2 : Int32} {μ : mm} {r : mm} {Q : Option Value → mm → Prop} (h : f_4_fill a0 a1 a2 μ = some r) (k0 : kd a0 = 4) (hQ : Q none r) : Ct l E (d + 1) yX4_fill m_4_fill [.ref a0, .int a1, .int a2] μ Q := by
  refine Ct_of (lv := [some (.ref a0), some (.int a1), some (.int a2)]) (by decide) rfl (Nat.le_of_ble_eq_true rfl) rfl ?_
  unfold f_4_fill at h
  refine R_aload_n (dd dt_4_fill 0 rfl) 0 rfl rfl ?_
  obtain ⟨x2, e1, h⟩ := bi_el h
  refine c_4_31 (As := []) (st1 := [.int x2]) rfl (fun Q1 hq => ok_4_isLost e1 k0 hq) k0 rfl rfl (Nat.le_of_ble_eq_true rfl) (dd dt_4_fill 1 rfl) rfl ?_
  refine R_ifeq (dd dt_4_fill 2 rfl) (tgt := 8) rfl (fun hc => ?_) (fun hc => ?_)
  · rw [if_pos hc] at h
    refine R_aload_n (dd dt_4_fill 4 rfl) 0 rfl rfl ?_
    refine R_aload_n (dd dt_4_fill 5 rfl) 0 rfl rfl ?_
    refine R_aload_n (dd dt_4_fill 6 rfl) 0 rfl rfl ?_
    refine g_4_22 rfl k0 (dd dt_4_fill 7 rfl) ?_
    refine R_iload_n (dd dt_4_fill 8 rfl) 1 rfl rfl ?_
    obtain ⟨x4, e3, h⟩ := bi_el h
    refine c_4_35 (As := [.int (μ a0 4), .int a1]) (st1 := [.int x4, .ref a0]) rfl (fun Q1 hq => ok_4_waterAfter e3 k0 hq) k0 rfl rfl (Nat.le_of_ble_eq_true rfl) (dd dt_4_fill 9 rfl) rfl ?_
    obtain ⟨μ5, e6, h⟩ := bi_el h
    refine p_4_22 rfl k0 (dd dt_4_fill 10 rfl) e6 ?_
    refine R_aload_n (dd dt_4_fill 11 rfl) 0 rfl rfl ?_
    refine g_4_22 rfl k0 (dd dt_4_fill 12 rfl) ?_
    refine R_aload_n (dd dt_4_fill 13 rfl) 0 rfl rfl ?_
    refine g_4_19 rfl k0 (dd dt_4_fill 14 rfl) ?_
    refine R_cmple (dd dt_4_fill 15 rfl) (tgt := 37) rfl (fun hc => ?_) (fun hc => ?_)
    · rw [if_pos hc] at h
      obtain rfl := Option.some.inj h
      exact R_vret rfl (dd dt_4_fill 19 rfl) hQ
    · rw [if_neg hc] at h
      refine R_aload_n (dd dt_4_fill 16 rfl) 0 rfl rfl ?_
      refine R_iload_n (dd dt_4_fill 17 rfl) 2 rfl rfl ?_
      obtain ⟨μ7, e8, h⟩ := bi_el h
      refine p_4_25 rfl k0 (dd dt_4_fill 18 rfl) e8 ?_
      obtain rfl := Option.some.inj h
      exact R_vret rfl (dd dt_4_fill 19 rfl) hQ
  · rw [if_neg hc] at h
    obtain rfl := Option.some.inj h
    exact R_vret rfl (dd dt_4_fill 3 rfl) hQ
/-! LongStrike$Talk.dayHeard(II[[I)I -/
def tab_7_dayHeard : List (Nat × Instr × Nat) := [(0, .aload_n 0, 1), (1, .getfield 15, 3), (4, .iload_n 1, 1), (5, .iaload, 1), (6, .iload_n 2, 1), (7, .if_icmp .ne 7, 3), (10, .iconst 1, 1), (11, .goto 4, 3), (14, .iconst 0, 1), (15, .istore 4, 2), (17, .aload_n 0, 1), (18, .getfield 22, 3), (21, .iload_n 1, 1), (22, .iaload, 1), (23, .iload 4, 2), (25, .ifCond .eq 7, 3), (28, .iconst 1, 1), (29, .goto 13, 3), (32, .aload_n 3, 1), (33, .aload_n 0, 1), (34, .getfield 15, 3), (37, .iload_n 1, 1), (38, .iaload, 1), (39, .aaload, 1), (40, .iload_n 2, 1), (41, .iaload, 1), (42, .iadd, 1), (43, .ireturn, 1)]
set_option maxRecDepth 100000 in
theorem dt_7_dayHeard : ∀ q ∈ tab_7_dayHeard, decode m_7_dayHeard.2.1 q.1 = .ok q.2 := by decide +kernel
def f_7_dayHeard (a0 : Nat) (a1 : Int32) (a2 : Int32) (a3 : Nat) (μ : mm) : Option (Int32) :=
  (ld μ (rf a0 1) a1).bind fun x1 =>
  (if x1 = a2 then
      some 1
    else
      some 0).bind fun (z3 : Int32) =>
  (ld μ (rf a0 3) a1).bind fun x4 =>
  if z3 = 0 then
    (ld μ (rf a0 1) a1).bind fun x6 =>
    (lda a3 x6).bind fun r8 =>
    (ld μ r8 a2).bind fun x10 =>
    some (x4 + x10)
  else
    some (x4 + 1)
set_option maxRecDepth 100000 in
set_option maxHeartbeats 4000000 in
theorem ok_7_dayHeard {l : Launch} {E : ce} {d : Nat}  {a0 : Nat} {a1 : Int32} {a2 : Int32} {a3 : Nat} {μ : mm} {r : Int32} {Q : Option Value → mm → Prop} (h : f_7_dayHeard a0 a1 a2 a3 μ = some r) (k0 : kd a0 = 7) (k3 : kd a3 = 23) (hQ : Q (some (.int r)) μ) : Ct l E d yX7_dayHeard m_7_dayHeard [.ref a0, .int a1, .int a2, .ref a3] μ Q := by
  refine Ct_of (lv := [some (.ref a0), some (.int a1), some (.int a2), some (.ref a3), none]) (by decide) rfl (Nat.le_of_ble_eq_true rfl) rfl ?_
  unfold f_7_dayHeard at h
  refine R_aload_n (dd dt_7_dayHeard 0 rfl) 0 rfl rfl ?_
  refine g_7_15 rfl k0 (dd dt_7_dayHeard 1 rfl) ?_
  refine R_iload_n (dd dt_7_dayHeard 2 rfl) 1 rfl rfl ?_
  obtain ⟨x1, e2, h⟩ := bi_el h
  refine R_ild e2 (ty_7_1 k0) (dd dt_7_dayHeard 3 rfl) ?_
  refine R_iload_n (dd dt_7_dayHeard 4 rfl) 2 rfl rfl ?_
  obtain ⟨z3, hz3, h⟩ := bi_el h
  have K3 : Rj l E d m_7_dayHeard 15 [some (.ref a0), some (.int a1), some (.int a2), some (.ref a3), none] [.int z3] μ Q := by
    clear hz3
    refine R_istore (lv' := [some (.ref a0), some (.int a1), some (.int a2), some (.ref a3), some (.int z3)]) (dd dt_7_dayHeard 9 rfl) (by decide) rfl rfl ?_
    refine R_aload_n (dd dt_7_dayHeard 10 rfl) 0 rfl rfl ?_
    refine g_7_22 rfl k0 (dd dt_7_dayHeard 11 rfl) ?_
    refine R_iload_n (dd dt_7_dayHeard 12 rfl) 1 rfl rfl ?_
    obtain ⟨x4, e5, h⟩ := bi_el h
    refine R_ild e5 (ty_7_3 k0) (dd dt_7_dayHeard 13 rfl) ?_
    refine R_iload (dd dt_7_dayHeard 14 rfl) rfl ?_
    refine R_ifeq (dd dt_7_dayHeard 15 rfl) (tgt := 32) rfl (fun hc => ?_) (fun hc => ?_)
    · rw [if_pos hc] at h
      refine R_aload_n (dd dt_7_dayHeard 18 rfl) 3 rfl rfl ?_
      refine R_aload_n (dd dt_7_dayHeard 19 rfl) 0 rfl rfl ?_
      refine g_7_15 rfl k0 (dd dt_7_dayHeard 20 rfl) ?_
      refine R_iload_n (dd dt_7_dayHeard 21 rfl) 1 rfl rfl ?_
      obtain ⟨x6, e7, h⟩ := bi_el h
      refine R_ild e7 (ty_7_1 k0) (dd dt_7_dayHeard 22 rfl) ?_
      obtain ⟨r8, e9, h⟩ := bi_el h
      refine R_aald (t0 := 3) e9 k3 (by decide) (by decide) rfl rfl (dd dt_7_dayHeard 23 rfl) ?_
      refine R_iload_n (dd dt_7_dayHeard 24 rfl) 2 rfl rfl ?_
      obtain ⟨x10, e11, h⟩ := bi_el h
      refine R_ild e11 (tl_23 e9 k3) (dd dt_7_dayHeard 25 rfl) ?_
      refine R_iadd (dd dt_7_dayHeard 26 rfl) ?_
      obtain rfl := Option.some.inj h
      exact R_iret rfl (dd dt_7_dayHeard 27 rfl) hQ
    · rw [if_neg hc] at h
      refine R_iconst (v := 1) (dd dt_7_dayHeard 16 rfl) ic_1 ?_
      refine R_goto (dd dt_7_dayHeard 17 rfl) (tgt := 42) rfl ?_
      refine R_iadd (dd dt_7_dayHeard 26 rfl) ?_
      obtain rfl := Option.some.inj h
      exact R_iret rfl (dd dt_7_dayHeard 27 rfl) hQ
  clear h
  have h := hz3
  clear hz3
  refine R_cmpne (dd dt_7_dayHeard 5 rfl) (tgt := 14) rfl (fun hc => ?_) (fun hc => ?_)
  · rw [if_neg hc] at h
    refine R_iconst (v := 0) (dd dt_7_dayHeard 8 rfl) ic_0 ?_
    obtain rfl := Option.some.inj h
    exact R_mask [true, true, true, true, false] rfl K3
  · rw [if_pos hc] at h
    refine R_iconst (v := 1) (dd dt_7_dayHeard 6 rfl) ic_1 ?_
    refine R_goto (dd dt_7_dayHeard 7 rfl) (tgt := 15) rfl ?_
    obtain rfl := Option.some.inj h
    exact R_mask [true, true, true, true, false] rfl K3
/-! LongStrike$Talk.weightHeard(LLongStrike$Household;I[[I)I -/
def tab_7_weightHeard : List (Nat × Instr × Nat) := [(0, .aload_n 1, 1), (1, .getfield 50, 3), (4, .ifCond .eq 5, 3), (7, .iconst 0, 1), (8, .ireturn, 1), (9, .iconst 0, 1), (10, .istore 4, 2), (12, .iconst 0, 1), (13, .istore 5, 2), (15, .iload 5, 2), (17, .aload_n 0, 1), (18, .getfield 9, 3), (21, .if_icmp .ge 36, 3), (24, .aload_n 0, 1), (25, .iload 5, 2), (27, .aload_n 1, 1), (28, .getfield 56, 3), (31, .aload_n 3, 1), (32, .invokevirtual 59, 3), (35, .iload_n 2, 1), (36, .if_icmp .ne 15, 3), (39, .iload 4, 2), (41, .aload_n 0, 1), (42, .getfield 19, 3), (45, .iload 5, 2), (47, .iaload, 1), (48, .iadd, 1), (49, .istore 4, 2), (51, .iinc 5 1, 3), (54, .goto (-39), 3), (57, .iload 4, 2), (59, .ireturn, 1)]
set_option maxRecDepth 100000 in
theorem dt_7_weightHeard : ∀ q ∈ tab_7_weightHeard, decode m_7_weightHeard.2.1 q.1 = .ok q.2 := by decide +kernel
def f_7_weightHeard_l15 (a0 : Nat) (a1 : Nat) (a2 : Int32) (a3 : Nat) (μ : mm) : Nat → Int32 → Int32 → Option (Int32)
  | 0, _, _ => none
  | n + 1, v4, v5 => if (μ a0 0) ≤ v5 then
      some v4
    else
      (f_7_dayHeard a0 v5 (μ a1 0) a3 μ).bind fun x2 =>
      if x2 = a2 then
        (ld μ (rf a0 2) v5).bind fun x3 =>
        f_7_weightHeard_l15 a0 a1 a2 a3 μ n (v4 + x3) (v5 + 1)
      else
        f_7_weightHeard_l15 a0 a1 a2 a3 μ n v4 (v5 + 1)
set_option maxRecDepth 100000 in
theorem ok_7_weightHeard_l15 {l : Launch} {E : ce} {d : Nat} {Q : Option Value → mm → Prop} (a0 : Nat) (a1 : Nat) (a2 : Int32) (a3 : Nat) (μ : mm) (k0 : kd a0 = 7) (k1 : kd a1 = 1) (k3 : kd a3 = 23) : ∀ (n : Nat) (v4 : Int32) (v5 : Int32) (z : Int32), f_7_weightHeard_l15 a0 a1 a2 a3 μ n v4 v5 = some z → Rj l E (d + 1) m_7_weightHeard 57 [none, none, none, none, some (.int z), none] [] μ Q → Rj l E (d + 1) m_7_weightHeard 15 [some (.ref a0), some (.ref a1), some (.int a2), some (.ref a3), some (.int v4), some (.int v5)] [] μ Q
  | 0, _, _, z, h, _ => by
    rw [f_7_weightHeard_l15] at h
    cases h
  | n + 1, v4, v5, z, h, KX => by
    rw [f_7_weightHeard_l15] at h
    refine R_iload (dd dt_7_weightHeard 9 rfl) rfl ?_
    refine R_aload_n (dd dt_7_weightHeard 10 rfl) 0 rfl rfl ?_
    refine g_7_9 rfl k0 (dd dt_7_weightHeard 11 rfl) ?_
    refine R_cmpge (dd dt_7_weightHeard 12 rfl) (tgt := 57) rfl (fun hc => ?_) (fun hc => ?_)
    · rw [if_pos hc] at h
      obtain rfl := Option.some.inj h
      exact R_mask [false, false, false, false, true, false] rfl KX
    · rw [if_neg hc] at h
      refine R_aload_n (dd dt_7_weightHeard 13 rfl) 0 rfl rfl ?_
      refine R_iload (dd dt_7_weightHeard 14 rfl) rfl ?_
      refine R_aload_n (dd dt_7_weightHeard 15 rfl) 1 rfl rfl ?_
      refine g_7_56 rfl k1 (dd dt_7_weightHeard 16 rfl) ?_
      refine R_aload_n (dd dt_7_weightHeard 17 rfl) 3 rfl rfl ?_
      obtain ⟨x2, e1, h⟩ := bi_el h
      refine c_7_59 (As := [.int v5, .int (μ a1 0), .ref a3]) (st1 := [.int x2]) rfl (fun Q1 hq => ok_7_dayHeard e1 k0 k3 hq) k0 rfl rfl (Nat.le_of_ble_eq_true rfl) (dd dt_7_weightHeard 18 rfl) rfl ?_
      refine R_iload_n (dd dt_7_weightHeard 19 rfl) 2 rfl rfl ?_
      refine R_cmpne (dd dt_7_weightHeard 20 rfl) (tgt := 51) rfl (fun hc => ?_) (fun hc => ?_)
      · rw [if_neg hc] at h
        refine R_iinc (v := 1) (lv' := [some (.ref a0), some (.ref a1), some (.int a2), some (.ref a3), some (.int v4), some (.int (v5 + 1))]) (dd dt_7_weightHeard 28 rfl) (by decide) rfl rfl ic_1 rfl ?_
        refine R_goto (dd dt_7_weightHeard 29 rfl) (tgt := 15) rfl ?_
        exact R_mask [true, true, true, true, true, true] rfl (ok_7_weightHeard_l15 a0 a1 a2 a3 μ k0 k1 k3 n v4 (v5 + 1) _ h KX)
      · rw [if_pos hc] at h
        refine R_iload (dd dt_7_weightHeard 21 rfl) rfl ?_
        refine R_aload_n (dd dt_7_weightHeard 22 rfl) 0 rfl rfl ?_
        refine g_7_19 rfl k0 (dd dt_7_weightHeard 23 rfl) ?_
        refine R_iload (dd dt_7_weightHeard 24 rfl) rfl ?_
        obtain ⟨x3, e4, h⟩ := bi_el h
        refine R_ild e4 (ty_7_2 k0) (dd dt_7_weightHeard 25 rfl) ?_
        refine R_iadd (dd dt_7_weightHeard 26 rfl) ?_
        refine R_istore (lv' := [some (.ref a0), some (.ref a1), some (.int a2), some (.ref a3), some (.int (v4 + x3)), some (.int v5)]) (dd dt_7_weightHeard 27 rfl) (by decide) rfl rfl ?_
        refine R_iinc (v := 1) (lv' := [some (.ref a0), some (.ref a1), some (.int a2), some (.ref a3), some (.int (v4 + x3)), some (.int (v5 + 1))]) (dd dt_7_weightHeard 28 rfl) (by decide) rfl rfl ic_1 rfl ?_
        refine R_goto (dd dt_7_weightHeard 29 rfl) (tgt := 15) rfl ?_
        exact R_mask [true, true, true, true, true, true] rfl (ok_7_weightHeard_l15 a0 a1 a2 a3 μ k0 k1 k3 n (v4 + x3) (v5 + 1) _ h KX)
def f_7_weightHeard (a0 : Nat) (a1 : Nat) (a2 : Int32) (a3 : Nat) (μ : mm) : Option (Int32) :=
  if (μ a1 11) = 0 then
    (f_7_weightHeard_l15 a0 a1 a2 a3 μ FU 0 0).bind fun z1 =>
    some z1
  else
    some 0
set_option maxRecDepth 100000 in
set_option maxHeartbeats 4000000 in
theorem ok_7_weightHeard {l : Launch} {E : ce} {d : Nat}  {a0 : Nat} {a1 : Nat} {a2 : Int32} {a3 : Nat} {μ : mm} {r : Int32} {Q : Option Value → mm → Prop} (h : f_7_weightHeard a0 a1 a2 a3 μ = some r) (k0 : kd a0 = 7) (k1 : kd a1 = 1) (k3 : kd a3 = 23) (hQ : Q (some (.int r)) μ) : Ct l E (d + 1) yX7_weightHeard m_7_weightHeard [.ref a0, .ref a1, .int a2, .ref a3] μ Q := by
  refine Ct_of (lv := [some (.ref a0), some (.ref a1), some (.int a2), some (.ref a3), none, none]) (by decide) rfl (Nat.le_of_ble_eq_true rfl) rfl ?_
  unfold f_7_weightHeard at h
  refine R_aload_n (dd dt_7_weightHeard 0 rfl) 1 rfl rfl ?_
  refine g_7_50 rfl k1 (dd dt_7_weightHeard 1 rfl) ?_
  refine R_ifeq (dd dt_7_weightHeard 2 rfl) (tgt := 9) rfl (fun hc => ?_) (fun hc => ?_)
  · rw [if_pos hc] at h
    refine R_iconst (v := 0) (dd dt_7_weightHeard 5 rfl) ic_0 ?_
    refine R_istore (lv' := [some (.ref a0), some (.ref a1), some (.int a2), some (.ref a3), some (.int 0), none]) (dd dt_7_weightHeard 6 rfl) (by decide) rfl rfl ?_
    refine R_iconst (v := 0) (dd dt_7_weightHeard 7 rfl) ic_0 ?_
    refine R_istore (lv' := [some (.ref a0), some (.ref a1), some (.int a2), some (.ref a3), some (.int 0), some (.int 0)]) (dd dt_7_weightHeard 8 rfl) (by decide) rfl rfl ?_
    obtain ⟨z1, e2, h⟩ := bi_el h
    refine R_mask [true, true, true, true, true, true] rfl (ok_7_weightHeard_l15 a0 a1 a2 a3 μ k0 k1 k3 FU 0 0 _ e2 ?_)
    refine R_iload (dd dt_7_weightHeard 30 rfl) rfl ?_
    obtain rfl := Option.some.inj h
    exact R_iret rfl (dd dt_7_weightHeard 31 rfl) hQ
  · rw [if_neg hc] at h
    refine R_iconst (v := 0) (dd dt_7_weightHeard 3 rfl) ic_0 ?_
    obtain rfl := Option.some.inj h
    exact R_iret rfl (dd dt_7_weightHeard 4 rfl) hQ
/-! LongStrike$Household.eatOwn()I -/
def tab_1_eatOwn : List (Nat × Instr × Nat) := [(0, .iconst 0, 1), (1, .aload_n 0, 1), (2, .getfield 16, 3), (5, .aload_n 0, 1), (6, .getfield 19, 3), (9, .isub, 1), (10, .invokestatic 47, 3), (13, .istore_n 1, 1), (14, .iload_n 1, 1), (15, .aload_n 0, 1), (16, .getfield 28, 3), (19, .invokestatic 53, 3), (22, .istore_n 2, 1), (23, .aload_n 0, 1), (24, .dup, 1), (25, .getfield 28, 3), (28, .iload_n 2, 1), (29, .isub, 1), (30, .putfield 28, 3), (33, .iload_n 1, 1), (34, .iload_n 2, 1), (35, .isub, 1), (36, .ireturn, 1)]
set_option maxRecDepth 100000 in
theorem dt_1_eatOwn : ∀ q ∈ tab_1_eatOwn, decode m_1_eatOwn.2.1 q.1 = .ok q.2 := by decide +kernel
def f_1_eatOwn (a0 : Nat) (μ : mm) : Option (Int32 × mm) :=
  (pf μ a0 6 ((μ a0 6) - (mn (mx 0 ((μ a0 2) - (μ a0 3))) (μ a0 6)))).bind fun μ1 =>
  some (((mx 0 ((μ a0 2) - (μ a0 3))) - (mn (mx 0 ((μ a0 2) - (μ a0 3))) (μ a0 6))), μ1)
set_option maxRecDepth 100000 in
set_option maxHeartbeats 4000000 in
theorem ok_1_eatOwn {l : Launch} {E : ce} {d : Nat}  {a0 : Nat} {μ : mm} {r : Int32 × mm} {Q : Option Value → mm → Prop} (h : f_1_eatOwn a0 μ = some r) (k0 : kd a0 = 1) (hQ : Q (some (.int r.1)) r.2) : Ct l E d yX1_eatOwn m_1_eatOwn [.ref a0] μ Q := by
  refine Ct_of (lv := [some (.ref a0), none, none]) (by decide) rfl (Nat.le_of_ble_eq_true rfl) rfl ?_
  unfold f_1_eatOwn at h
  refine R_iconst (v := 0) (dd dt_1_eatOwn 0 rfl) ic_0 ?_
  refine R_aload_n (dd dt_1_eatOwn 1 rfl) 0 rfl rfl ?_
  refine g_1_16 rfl k0 (dd dt_1_eatOwn 2 rfl) ?_
  refine R_aload_n (dd dt_1_eatOwn 3 rfl) 0 rfl rfl ?_
  refine g_1_19 rfl k0 (dd dt_1_eatOwn 4 rfl) ?_
  refine R_isub (dd dt_1_eatOwn 5 rfl) ?_
  refine R_mmax ml_1_47 (Nat.le_of_ble_eq_true rfl) (dd dt_1_eatOwn 6 rfl) ?_
  refine R_istore_n (lv' := [some (.ref a0), some (.int (mx 0 ((μ a0 2) - (μ a0 3)))), none]) (dd dt_1_eatOwn 7 rfl) 1 rfl (by decide) rfl rfl ?_
  refine R_iload_n (dd dt_1_eatOwn 8 rfl) 1 rfl rfl ?_
  refine R_aload_n (dd dt_1_eatOwn 9 rfl) 0 rfl rfl ?_
  refine g_1_28 rfl k0 (dd dt_1_eatOwn 10 rfl) ?_
  refine R_mmin ml_1_53 (Nat.le_of_ble_eq_true rfl) (dd dt_1_eatOwn 11 rfl) ?_
  refine R_istore_n (lv' := [some (.ref a0), some (.int (mx 0 ((μ a0 2) - (μ a0 3)))), some (.int (mn (mx 0 ((μ a0 2) - (μ a0 3))) (μ a0 6)))]) (dd dt_1_eatOwn 12 rfl) 2 rfl (by decide) rfl rfl ?_
  refine R_aload_n (dd dt_1_eatOwn 13 rfl) 0 rfl rfl ?_
  refine R_dup (dd dt_1_eatOwn 14 rfl) rfl ?_
  refine g_1_28 rfl k0 (dd dt_1_eatOwn 15 rfl) ?_
  refine R_iload_n (dd dt_1_eatOwn 16 rfl) 2 rfl rfl ?_
  refine R_isub (dd dt_1_eatOwn 17 rfl) ?_
  obtain ⟨μ1, e2, h⟩ := bi_el h
  refine p_1_28 rfl k0 (dd dt_1_eatOwn 18 rfl) e2 ?_
  refine R_iload_n (dd dt_1_eatOwn 19 rfl) 1 rfl rfl ?_
  refine R_iload_n (dd dt_1_eatOwn 20 rfl) 2 rfl rfl ?_
  refine R_isub (dd dt_1_eatOwn 21 rfl) ?_
  obtain rfl := Option.some.inj h
  exact R_iret rfl (dd dt_1_eatOwn 22 rfl) hQ
/-! LongStrike$Household.endDay(ZZI)V -/
def tab_1_endDay : List (Nat × Instr × Nat) := [(0, .aload_n 0, 1), (1, .getfield 22, 3), (4, .ifCond .ne 11, 3), (7, .iload_n 2, 1), (8, .ifCond .eq 7, 3), (11, .iconst 1, 1), (12, .goto 4, 3), (15, .iconst 0, 1), (16, .istore 4, 2), (18, .aload_n 0, 1), (19, .iconst 0, 1), (20, .aload_n 0, 1), (21, .getfield 22, 3), (24, .iconst 1, 1), (25, .isub, 1), (26, .invokestatic 47, 3), (29, .putfield 22, 3), (32, .iload_n 3, 1), (33, .istore 5, 2), (35, .iload_n 1, 1), (36, .ifCond .eq 16, 3), (39, .aload_n 0, 1), (40, .dup, 1), (41, .getfield 34, 3), (44, .iconst 1, 1), (45, .iadd, 1), (46, .putfield 34, 3), (49, .iinc 5 (-2), 3), (52, .iload 4, 2), (54, .ifCond .eq 16, 3), (57, .aload_n 0, 1), (58, .dup, 1), (59, .getfield 37, 3), (62, .iconst 1, 1), (63, .iadd, 1), (64, .putfield 37, 3), (67, .iinc 5 (-1), 3), (70, .iload_n 1, 1), (71, .ifCond .ne 11, 3), (74, .iload 4, 2), (76, .ifCond .ne 6, 3), (79, .iinc 5 1, 3), (82, .aload_n 0, 1), (83, .iconst 0, 1), (84, .bipush 99, 2), (86, .aload_n 0, 1), (87, .getfield 25, 3), (90, .iload 5, 2), (92, .iadd, 1), (93, .invokestatic 53, 3), (96, .invokestatic 47, 3), (99, .putfield 25, 3), (102, .aload_n 0, 1), (103, .aload_n 0, 1), (104, .getfield 25, 3), (107, .ifCond .ne 7, 3), (110, .iconst 1, 1), (111, .goto 4, 3), (114, .iconst 0, 1), (115, .putfield 40, 3), (118, .return_, 1)]
set_option maxRecDepth 100000 in
theorem dt_1_endDay : ∀ q ∈ tab_1_endDay, decode m_1_endDay.2.1 q.1 = .ok q.2 := by decide +kernel
def f_1_endDay (a0 : Nat) (a1 : Int32) (a2 : Int32) (a3 : Int32) (μ : mm) : Option (mm) :=
  (if (μ a0 4) = 0 then
      if a2 = 0 then
        some 0
      else
        some 1
    else
      some 0).bind fun (z1 : Int32) =>
  (pf μ a0 4 (mx 0 ((μ a0 4) - 1))).bind fun μ2 =>
  (if a1 = 0 then
      some (a3, μ2)
    else
      (pf μ2 a0 8 ((μ2 a0 8) + 1)).bind fun μ4 =>
      some ((a3 + (-2)), μ4)).bind fun (z6 : Int32 × mm) =>
  (if z1 = 0 then
      some (z6.1, z6.2)
    else
      (pf z6.2 a0 9 ((z6.2 a0 9) + 1)).bind fun μ7 =>
      some ((z6.1 + (-1)), μ7)).bind fun (z9 : Int32 × mm) =>
  (if a1 = 0 then
      if z1 = 0 then
        some (z9.1 + 1)
      else
        some z9.1
    else
      some z9.1).bind fun (z10 : Int32) =>
  (pf z9.2 a0 5 (mx 0 (mn 99 ((z9.2 a0 5) + z10)))).bind fun μ11 =>
  (if (μ11 a0 5) = 0 then
      some 1
    else
      some 0).bind fun (z13 : Int32) =>
  (gb z13).bind fun _ =>
  (pf μ11 a0 10 z13).bind fun μ14 =>
  some μ14
set_option maxRecDepth 100000 in
set_option maxHeartbeats 4000000 in
theorem ok_1_endDay {l : Launch} {E : ce} {d : Nat}  {a0 : Nat} {a1 : Int32} {a2 : Int32} {a3 : Int32} {μ : mm} {r : mm} {Q : Option Value → mm → Prop} (h : f_1_endDay a0 a1 a2 a3 μ = some r) (k0 : kd a0 = 1) (hQ : Q none r) : Ct l E d yX1_endDay m_1_endDay [.ref a0, .int a1, .int a2, .int a3] μ Q := by
  refine Ct_of (lv := [some (.ref a0), some (.int a1), some (.int a2), some (.int a3), none, none]) (by decide) rfl (Nat.le_of_ble_eq_true rfl) rfl ?_
  unfold f_1_endDay at h
  refine R_aload_n (dd dt_1_endDay 0 rfl) 0 rfl rfl ?_
  refine g_1_22 rfl k0 (dd dt_1_endDay 1 rfl) ?_
  obtain ⟨z1, hz1, h⟩ := bi_el h
  have K1 : Rj l E d m_1_endDay 16 [some (.ref a0), some (.int a1), none, some (.int a3), none, none] [.int z1] μ Q := by
    clear hz1
    refine R_istore (lv' := [some (.ref a0), some (.int a1), none, some (.int a3), some (.int z1), none]) (dd dt_1_endDay 8 rfl) (by decide) rfl rfl ?_
    refine R_aload_n (dd dt_1_endDay 9 rfl) 0 rfl rfl ?_
    refine R_iconst (v := 0) (dd dt_1_endDay 10 rfl) ic_0 ?_
    refine R_aload_n (dd dt_1_endDay 11 rfl) 0 rfl rfl ?_
    refine g_1_22 rfl k0 (dd dt_1_endDay 12 rfl) ?_
    refine R_iconst (v := 1) (dd dt_1_endDay 13 rfl) ic_1 ?_
    refine R_isub (dd dt_1_endDay 14 rfl) ?_
    refine R_mmax ml_1_47 (Nat.le_of_ble_eq_true rfl) (dd dt_1_endDay 15 rfl) ?_
    obtain ⟨μ2, e3, h⟩ := bi_el h
    refine p_1_22 rfl k0 (dd dt_1_endDay 16 rfl) e3 ?_
    refine R_iload_n (dd dt_1_endDay 17 rfl) 3 rfl rfl ?_
    refine R_istore (lv' := [some (.ref a0), some (.int a1), none, some (.int a3), some (.int z1), some (.int a3)]) (dd dt_1_endDay 18 rfl) (by decide) rfl rfl ?_
    refine R_iload_n (dd dt_1_endDay 19 rfl) 1 rfl rfl ?_
    obtain ⟨z6, hz6, h⟩ := bi_el h
    have K6 : Rj l E d m_1_endDay 52 [some (.ref a0), some (.int a1), none, none, some (.int z1), some (.int z6.1)] [] z6.2 Q := by
      clear hz6
      refine R_iload (dd dt_1_endDay 28 rfl) rfl ?_
      obtain ⟨z9, hz9, h⟩ := bi_el h
      have K9 : Rj l E d m_1_endDay 70 [some (.ref a0), some (.int a1), none, none, some (.int z1), some (.int z9.1)] [] z9.2 Q := by
        clear hz9
        refine R_iload_n (dd dt_1_endDay 37 rfl) 1 rfl rfl ?_
        obtain ⟨z10, hz10, h⟩ := bi_el h
        have K10 : Rj l E d m_1_endDay 82 [some (.ref a0), none, none, none, none, some (.int z10)] [] z9.2 Q := by
          clear hz10
          refine R_aload_n (dd dt_1_endDay 42 rfl) 0 rfl rfl ?_
          refine R_iconst (v := 0) (dd dt_1_endDay 43 rfl) ic_0 ?_
          refine R_bipush (v := 99) (dd dt_1_endDay 44 rfl) bp_99 ?_
          refine R_aload_n (dd dt_1_endDay 45 rfl) 0 rfl rfl ?_
          refine g_1_25 rfl k0 (dd dt_1_endDay 46 rfl) ?_
          refine R_iload (dd dt_1_endDay 47 rfl) rfl ?_
          refine R_iadd (dd dt_1_endDay 48 rfl) ?_
          refine R_mmin ml_1_53 (Nat.le_of_ble_eq_true rfl) (dd dt_1_endDay 49 rfl) ?_
          refine R_mmax ml_1_47 (Nat.le_of_ble_eq_true rfl) (dd dt_1_endDay 50 rfl) ?_
          obtain ⟨μ11, e12, h⟩ := bi_el h
          refine p_1_25 rfl k0 (dd dt_1_endDay 51 rfl) e12 ?_
          refine R_aload_n (dd dt_1_endDay 52 rfl) 0 rfl rfl ?_
          refine R_aload_n (dd dt_1_endDay 53 rfl) 0 rfl rfl ?_
          refine g_1_25 rfl k0 (dd dt_1_endDay 54 rfl) ?_
          obtain ⟨z13, hz13, h⟩ := bi_el h
          have K13 : Rj l E d m_1_endDay 115 [none, none, none, none, none, none] [.int z13, .ref a0] μ11 Q := by
            clear hz13
            obtain ⟨_, q16, h⟩ := bi_el h
            obtain ⟨μ14, e15, h⟩ := bi_el h
            refine p_1_40 rfl k0 (gb_el q16).1 (dd dt_1_endDay 59 rfl) e15 ?_
            obtain rfl := Option.some.inj h
            exact R_vret rfl (dd dt_1_endDay 60 rfl) hQ
          clear h
          have h := hz13
          clear hz13
          refine R_ifne (dd dt_1_endDay 55 rfl) (tgt := 114) rfl (fun hc => ?_) (fun hc => ?_)
          · rw [if_neg hc] at h
            refine R_iconst (v := 0) (dd dt_1_endDay 58 rfl) ic_0 ?_
            obtain rfl := Option.some.inj h
            exact R_mask [false, false, false, false, false, false] rfl K13
          · rw [if_pos hc] at h
            refine R_iconst (v := 1) (dd dt_1_endDay 56 rfl) ic_1 ?_
            refine R_goto (dd dt_1_endDay 57 rfl) (tgt := 115) rfl ?_
            obtain rfl := Option.some.inj h
            exact R_mask [false, false, false, false, false, false] rfl K13
        clear h
        have h := hz10
        clear hz10
        refine R_ifne (dd dt_1_endDay 38 rfl) (tgt := 82) rfl (fun hc => ?_) (fun hc => ?_)
        · rw [if_neg hc] at h
          obtain rfl := Option.some.inj h
          exact R_mask [true, false, false, false, false, true] rfl K10
        · rw [if_pos hc] at h
          refine R_iload (dd dt_1_endDay 39 rfl) rfl ?_
          refine R_ifne (dd dt_1_endDay 40 rfl) (tgt := 82) rfl (fun hc => ?_) (fun hc => ?_)
          · rw [if_neg hc] at h
            obtain rfl := Option.some.inj h
            exact R_mask [true, false, false, false, false, true] rfl K10
          · rw [if_pos hc] at h
            refine R_iinc (v := 1) (lv' := [some (.ref a0), some (.int a1), none, none, some (.int z1), some (.int (z9.1 + 1))]) (dd dt_1_endDay 41 rfl) (by decide) rfl rfl ic_1 rfl ?_
            obtain rfl := Option.some.inj h
            exact R_mask [true, false, false, false, false, true] rfl K10
      clear h
      have h := hz9
      clear hz9
      refine R_ifeq (dd dt_1_endDay 29 rfl) (tgt := 70) rfl (fun hc => ?_) (fun hc => ?_)
      · rw [if_pos hc] at h
        obtain rfl := Option.some.inj h
        exact R_mask [true, true, false, false, true, true] rfl K9
      · rw [if_neg hc] at h
        refine R_aload_n (dd dt_1_endDay 30 rfl) 0 rfl rfl ?_
        refine R_dup (dd dt_1_endDay 31 rfl) rfl ?_
        refine g_1_37 rfl k0 (dd dt_1_endDay 32 rfl) ?_
        refine R_iconst (v := 1) (dd dt_1_endDay 33 rfl) ic_1 ?_
        refine R_iadd (dd dt_1_endDay 34 rfl) ?_
        obtain ⟨μ7, e8, h⟩ := bi_el h
        refine p_1_37 rfl k0 (dd dt_1_endDay 35 rfl) e8 ?_
        refine R_iinc (v := (-1)) (lv' := [some (.ref a0), some (.int a1), none, none, some (.int z1), some (.int (z6.1 + (-1)))]) (dd dt_1_endDay 36 rfl) (by decide) rfl rfl ic_m1 rfl ?_
        obtain rfl := Option.some.inj h
        exact R_mask [true, true, false, false, true, true] rfl K9
    clear h
    have h := hz6
    clear hz6
    refine R_ifeq (dd dt_1_endDay 20 rfl) (tgt := 52) rfl (fun hc => ?_) (fun hc => ?_)
    · rw [if_pos hc] at h
      obtain rfl := Option.some.inj h
      exact R_mask [true, true, false, false, true, true] rfl K6
    · rw [if_neg hc] at h
      refine R_aload_n (dd dt_1_endDay 21 rfl) 0 rfl rfl ?_
      refine R_dup (dd dt_1_endDay 22 rfl) rfl ?_
      refine g_1_34 rfl k0 (dd dt_1_endDay 23 rfl) ?_
      refine R_iconst (v := 1) (dd dt_1_endDay 24 rfl) ic_1 ?_
      refine R_iadd (dd dt_1_endDay 25 rfl) ?_
      obtain ⟨μ4, e5, h⟩ := bi_el h
      refine p_1_34 rfl k0 (dd dt_1_endDay 26 rfl) e5 ?_
      refine R_iinc (v := (-2)) (lv' := [some (.ref a0), some (.int a1), none, some (.int a3), some (.int z1), some (.int (a3 + (-2)))]) (dd dt_1_endDay 27 rfl) (by decide) rfl rfl ic_m2 rfl ?_
      obtain rfl := Option.some.inj h
      exact R_mask [true, true, false, false, true, true] rfl K6
  clear h
  have h := hz1
  clear hz1
  refine R_ifne (dd dt_1_endDay 2 rfl) (tgt := 15) rfl (fun hc => ?_) (fun hc => ?_)
  · rw [if_neg hc] at h
    refine R_iconst (v := 0) (dd dt_1_endDay 7 rfl) ic_0 ?_
    obtain rfl := Option.some.inj h
    exact R_mask [true, true, false, true, false, false] rfl K1
  · rw [if_pos hc] at h
    refine R_iload_n (dd dt_1_endDay 3 rfl) 2 rfl rfl ?_
    refine R_ifeq (dd dt_1_endDay 4 rfl) (tgt := 15) rfl (fun hc => ?_) (fun hc => ?_)
    · rw [if_pos hc] at h
      refine R_iconst (v := 0) (dd dt_1_endDay 7 rfl) ic_0 ?_
      obtain rfl := Option.some.inj h
      exact R_mask [true, true, false, true, false, false] rfl K1
    · rw [if_neg hc] at h
      refine R_iconst (v := 1) (dd dt_1_endDay 5 rfl) ic_1 ?_
      refine R_goto (dd dt_1_endDay 6 rfl) (tgt := 16) rfl ?_
      obtain rfl := Option.some.inj h
      exact R_mask [true, true, false, true, false, false] rfl K1
/-! LongStrike$Shop.lend(I)I -/
def tab_6_lend : List (Nat × Instr × Nat) := [(0, .iload_n 1, 1), (1, .aload_n 0, 1), (2, .getfield 13, 3), (5, .aload_n 0, 1), (6, .getfield 16, 3), (9, .isub, 1), (10, .invokestatic 19, 3), (13, .istore_n 2, 1), (14, .aload_n 0, 1), (15, .dup, 1), (16, .getfield 16, 3), (19, .iload_n 2, 1), (20, .iadd, 1), (21, .putfield 16, 3), (24, .iload_n 2, 1), (25, .ireturn, 1)]
set_option maxRecDepth 100000 in
theorem dt_6_lend : ∀ q ∈ tab_6_lend, decode m_6_lend.2.1 q.1 = .ok q.2 := by decide +kernel
def f_6_lend (a0 : Nat) (a1 : Int32) (μ : mm) : Option (Int32 × mm) :=
  (pf μ a0 2 ((μ a0 2) + (mn a1 ((μ a0 1) - (μ a0 2))))).bind fun μ1 =>
  some ((mn a1 ((μ a0 1) - (μ a0 2))), μ1)
set_option maxRecDepth 100000 in
set_option maxHeartbeats 4000000 in
theorem ok_6_lend {l : Launch} {E : ce} {d : Nat}  {a0 : Nat} {a1 : Int32} {μ : mm} {r : Int32 × mm} {Q : Option Value → mm → Prop} (h : f_6_lend a0 a1 μ = some r) (k0 : kd a0 = 6) (hQ : Q (some (.int r.1)) r.2) : Ct l E d yX6_lend m_6_lend [.ref a0, .int a1] μ Q := by
  refine Ct_of (lv := [some (.ref a0), some (.int a1), none]) (by decide) rfl (Nat.le_of_ble_eq_true rfl) rfl ?_
  unfold f_6_lend at h
  refine R_iload_n (dd dt_6_lend 0 rfl) 1 rfl rfl ?_
  refine R_aload_n (dd dt_6_lend 1 rfl) 0 rfl rfl ?_
  refine g_6_13 rfl k0 (dd dt_6_lend 2 rfl) ?_
  refine R_aload_n (dd dt_6_lend 3 rfl) 0 rfl rfl ?_
  refine g_6_16 rfl k0 (dd dt_6_lend 4 rfl) ?_
  refine R_isub (dd dt_6_lend 5 rfl) ?_
  refine R_mmin ml_6_19 (Nat.le_of_ble_eq_true rfl) (dd dt_6_lend 6 rfl) ?_
  refine R_istore_n (lv' := [some (.ref a0), some (.int a1), some (.int (mn a1 ((μ a0 1) - (μ a0 2))))]) (dd dt_6_lend 7 rfl) 2 rfl (by decide) rfl rfl ?_
  refine R_aload_n (dd dt_6_lend 8 rfl) 0 rfl rfl ?_
  refine R_dup (dd dt_6_lend 9 rfl) rfl ?_
  refine g_6_16 rfl k0 (dd dt_6_lend 10 rfl) ?_
  refine R_iload_n (dd dt_6_lend 11 rfl) 2 rfl rfl ?_
  refine R_iadd (dd dt_6_lend 12 rfl) ?_
  obtain ⟨μ1, e2, h⟩ := bi_el h
  refine p_6_16 rfl k0 (dd dt_6_lend 13 rfl) e2 ?_
  refine R_iload_n (dd dt_6_lend 14 rfl) 2 rfl rfl ?_
  obtain rfl := Option.some.inj h
  exact R_iret rfl (dd dt_6_lend 15 rfl) hQ
/-! LongStrike$Valley.liveOn(LLongStrike$Household;I)V -/
def tab_9_liveOn : List (Nat × Instr × Nat) := [(0, .aload_n 1, 1), (1, .getfield 167, 3), (4, .ifCond .eq 4, 3), (7, .return_, 1), (8, .aload_n 1, 1), (9, .invokevirtual 217, 3), (12, .istore_n 3, 1), (13, .iconst 0, 1), (14, .istore 4, 2), (16, .iload 4, 2), (18, .aload_n 0, 1), (19, .getfield 21, 3), (22, .if_icmp .ge 59, 3), (25, .iload_n 3, 1), (26, .ifCond .le 55, 3), (29, .aload_n 0, 1), (30, .getfield 47, 3), (33, .iload 4, 2), (35, .aaload, 1), (36, .getfield 220, 3), (39, .aload_n 1, 1), (40, .getfield 223, 3), (43, .if_icmp .ne 32, 3), (46, .aload_n 0, 1), (47, .getfield 47, 3), (50, .iload 4, 2), (52, .aaload, 1), (53, .iload_n 3, 1), (54, .invokevirtual 224, 3), (57, .istore 5, 2), (59, .aload_n 1, 1), (60, .dup, 1), (61, .getfield 227, 3), (64, .iload 5, 2), (66, .iadd, 1), (67, .putfield 227, 3), (70, .iload_n 3, 1), (71, .iload 5, 2), (73, .isub, 1), (74, .istore_n 3, 1), (75, .iinc 4 1, 3), (78, .goto (-62), 3), (81, .aload_n 1, 1), (82, .iload_n 3, 1), (83, .ifCond .le 7, 3), (86, .iconst 1, 1), (87, .goto 4, 3), (90, .iconst 0, 1), (91, .aload_n 0, 1), (92, .getfield 30, 3), (95, .iload_n 2, 1), (96, .invokevirtual 230, 3), (99, .return_, 1)]
set_option maxRecDepth 100000 in
theorem dt_9_liveOn : ∀ q ∈ tab_9_liveOn, decode m_9_liveOn.2.1 q.1 = .ok q.2 := by decide +kernel
def f_9_liveOn_l16 (a0 : Nat) (a1 : Nat) (a2 : Int32) : Nat → Int32 → Int32 → mm → Option (Int32 × mm)
  | 0, _, _, _ => none
  | n + 1, v3, v4, μ => if (μ a0 3) ≤ v4 then
      some (v3, μ)
    else
      if v3 ≤ 0 then
        some (v3, μ)
      else
        (lda (rf a0 9) v4).bind fun r1 =>
        if (μ r1 0) = (μ a1 0) then
          (lda (rf a0 9) v4).bind fun r3 =>
          (f_6_lend r3 v3 μ).bind fun z6 =>
          (pf z6.2 a1 7 ((z6.2 a1 7) + z6.1)).bind fun μ7 =>
          f_9_liveOn_l16 a0 a1 a2 n (v3 - z6.1) (v4 + 1) μ7
        else
          f_9_liveOn_l16 a0 a1 a2 n v3 (v4 + 1) μ
set_option maxRecDepth 100000 in
theorem ok_9_liveOn_l16 {l : Launch} {E : ce} {d : Nat} {Q : Option Value → mm → Prop} (a0 : Nat) (a1 : Nat) (a2 : Int32) (k0 : kd a0 = 9) (k1 : kd a1 = 1) : ∀ (n : Nat) (v3 : Int32) (v4 : Int32) (μ : mm) (z : Int32 × mm), f_9_liveOn_l16 a0 a1 a2 n v3 v4 μ = some z → Rj l E (d + 1) m_9_liveOn 81 [some (.ref a0), some (.ref a1), some (.int a2), some (.int z.1), none, none] [] z.2 Q → Rj l E (d + 1) m_9_liveOn 16 [some (.ref a0), some (.ref a1), some (.int a2), some (.int v3), some (.int v4), none] [] μ Q
  | 0, _, _, _, z, h, _ => by
    rw [f_9_liveOn_l16] at h
    cases h
  | n + 1, v3, v4, μ, z, h, KX => by
    rw [f_9_liveOn_l16] at h
    refine R_iload (dd dt_9_liveOn 9 rfl) rfl ?_
    refine R_aload_n (dd dt_9_liveOn 10 rfl) 0 rfl rfl ?_
    refine g_9_21 rfl k0 (dd dt_9_liveOn 11 rfl) ?_
    refine R_cmpge (dd dt_9_liveOn 12 rfl) (tgt := 81) rfl (fun hc => ?_) (fun hc => ?_)
    · rw [if_pos hc] at h
      obtain rfl := Option.some.inj h
      exact R_mask [true, true, true, true, false, false] rfl KX
    · rw [if_neg hc] at h
      refine R_iload_n (dd dt_9_liveOn 13 rfl) 3 rfl rfl ?_
      refine R_ifle (dd dt_9_liveOn 14 rfl) (tgt := 81) rfl (fun hc => ?_) (fun hc => ?_)
      · rw [if_pos hc] at h
        obtain rfl := Option.some.inj h
        exact R_mask [true, true, true, true, false, false] rfl KX
      · rw [if_neg hc] at h
        refine R_aload_n (dd dt_9_liveOn 15 rfl) 0 rfl rfl ?_
        refine g_9_47 rfl k0 (dd dt_9_liveOn 16 rfl) ?_
        refine R_iload (dd dt_9_liveOn 17 rfl) rfl ?_
        obtain ⟨r1, e2, h⟩ := bi_el h
        refine R_aald (t0 := 5) e2 (ty_9_9 k0) (by decide) (by decide) rfl rfl (dd dt_9_liveOn 18 rfl) ?_
        refine g_9_220 rfl (tl_25 e2 (ty_9_9 k0)) (dd dt_9_liveOn 19 rfl) ?_
        refine R_aload_n (dd dt_9_liveOn 20 rfl) 1 rfl rfl ?_
        refine g_9_223 rfl k1 (dd dt_9_liveOn 21 rfl) ?_
        refine R_cmpne (dd dt_9_liveOn 22 rfl) (tgt := 75) rfl (fun hc => ?_) (fun hc => ?_)
        · rw [if_neg hc] at h
          refine R_iinc (v := 1) (lv' := [some (.ref a0), some (.ref a1), some (.int a2), some (.int v3), some (.int (v4 + 1)), none]) (dd dt_9_liveOn 40 rfl) (by decide) rfl rfl ic_1 rfl ?_
          refine R_goto (dd dt_9_liveOn 41 rfl) (tgt := 16) rfl ?_
          exact R_mask [true, true, true, true, true, false] rfl (ok_9_liveOn_l16 a0 a1 a2 k0 k1 n v3 (v4 + 1) μ _ h KX)
        · rw [if_pos hc] at h
          refine R_aload_n (dd dt_9_liveOn 23 rfl) 0 rfl rfl ?_
          refine g_9_47 rfl k0 (dd dt_9_liveOn 24 rfl) ?_
          refine R_iload (dd dt_9_liveOn 25 rfl) rfl ?_
          obtain ⟨r3, e4, h⟩ := bi_el h
          refine R_aald (t0 := 5) e4 (ty_9_9 k0) (by decide) (by decide) rfl rfl (dd dt_9_liveOn 26 rfl) ?_
          refine R_iload_n (dd dt_9_liveOn 27 rfl) 3 rfl rfl ?_
          obtain ⟨z6, e5, h⟩ := bi_el h
          refine c_9_224 (As := [.int v3]) (st1 := [.int z6.1]) rfl (fun Q1 hq => ok_6_lend e5 (tl_25 e4 (ty_9_9 k0)) hq) (tl_25 e4 (ty_9_9 k0)) rfl rfl (Nat.le_of_ble_eq_true rfl) (dd dt_9_liveOn 28 rfl) rfl ?_
          refine R_istore (lv' := [some (.ref a0), some (.ref a1), some (.int a2), some (.int v3), some (.int v4), some (.int z6.1)]) (dd dt_9_liveOn 29 rfl) (by decide) rfl rfl ?_
          refine R_aload_n (dd dt_9_liveOn 30 rfl) 1 rfl rfl ?_
          refine R_dup (dd dt_9_liveOn 31 rfl) rfl ?_
          refine g_9_227 rfl k1 (dd dt_9_liveOn 32 rfl) ?_
          refine R_iload (dd dt_9_liveOn 33 rfl) rfl ?_
          refine R_iadd (dd dt_9_liveOn 34 rfl) ?_
          obtain ⟨μ7, e8, h⟩ := bi_el h
          refine p_9_227 rfl k1 (dd dt_9_liveOn 35 rfl) e8 ?_
          refine R_iload_n (dd dt_9_liveOn 36 rfl) 3 rfl rfl ?_
          refine R_iload (dd dt_9_liveOn 37 rfl) rfl ?_
          refine R_isub (dd dt_9_liveOn 38 rfl) ?_
          refine R_istore_n (lv' := [some (.ref a0), some (.ref a1), some (.int a2), some (.int (v3 - z6.1)), some (.int v4), some (.int z6.1)]) (dd dt_9_liveOn 39 rfl) 3 rfl (by decide) rfl rfl ?_
          refine R_iinc (v := 1) (lv' := [some (.ref a0), some (.ref a1), some (.int a2), some (.int (v3 - z6.1)), some (.int (v4 + 1)), some (.int z6.1)]) (dd dt_9_liveOn 40 rfl) (by decide) rfl rfl ic_1 rfl ?_
          refine R_goto (dd dt_9_liveOn 41 rfl) (tgt := 16) rfl ?_
          exact R_mask [true, true, true, true, true, false] rfl (ok_9_liveOn_l16 a0 a1 a2 k0 k1 n (v3 - z6.1) (v4 + 1) μ7 _ h KX)
def f_9_liveOn (a0 : Nat) (a1 : Nat) (a2 : Int32) (μ : mm) : Option (mm) :=
  if (μ a1 10) = 0 then
    (f_1_eatOwn a1 μ).bind fun z2 =>
    (f_9_liveOn_l16 a0 a1 a2 FU z2.1 0 z2.2).bind fun z3 =>
    (if z3.1 ≤ 0 then
        some 0
      else
        some 1).bind fun (z5 : Int32) =>
    (f_1_endDay a1 z5 (z3.2 a0 6) a2 z3.2).bind fun μ7 =>
    some μ7
  else
    some μ
set_option maxRecDepth 100000 in
set_option maxHeartbeats 4000000 in
theorem ok_9_liveOn {l : Launch} {E : ce} {d : Nat}  {a0 : Nat} {a1 : Nat} {a2 : Int32} {μ : mm} {r : mm} {Q : Option Value → mm → Prop} (h : f_9_liveOn a0 a1 a2 μ = some r) (k0 : kd a0 = 9) (k1 : kd a1 = 1) (hQ : Q none r) : Ct l E (d + 1) yX9_liveOn m_9_liveOn [.ref a0, .ref a1, .int a2] μ Q := by
  refine Ct_of (lv := [some (.ref a0), some (.ref a1), some (.int a2), none, none, none]) (by decide) rfl (Nat.le_of_ble_eq_true rfl) rfl ?_
  unfold f_9_liveOn at h
  refine R_aload_n (dd dt_9_liveOn 0 rfl) 1 rfl rfl ?_
  refine g_9_167 rfl k1 (dd dt_9_liveOn 1 rfl) ?_
  refine R_ifeq (dd dt_9_liveOn 2 rfl) (tgt := 8) rfl (fun hc => ?_) (fun hc => ?_)
  · rw [if_pos hc] at h
    refine R_aload_n (dd dt_9_liveOn 4 rfl) 1 rfl rfl ?_
    obtain ⟨z2, e1, h⟩ := bi_el h
    refine c_9_217 (As := []) (st1 := [.int z2.1]) rfl (fun Q1 hq => ok_1_eatOwn e1 k1 hq) k1 rfl rfl (Nat.le_of_ble_eq_true rfl) (dd dt_9_liveOn 5 rfl) rfl ?_
    refine R_istore_n (lv' := [some (.ref a0), some (.ref a1), some (.int a2), some (.int z2.1), none, none]) (dd dt_9_liveOn 6 rfl) 3 rfl (by decide) rfl rfl ?_
    refine R_iconst (v := 0) (dd dt_9_liveOn 7 rfl) ic_0 ?_
    refine R_istore (lv' := [some (.ref a0), some (.ref a1), some (.int a2), some (.int z2.1), some (.int 0), none]) (dd dt_9_liveOn 8 rfl) (by decide) rfl rfl ?_
    obtain ⟨z3, e4, h⟩ := bi_el h
    refine R_mask [true, true, true, true, true, false] rfl (ok_9_liveOn_l16 a0 a1 a2 k0 k1 FU z2.1 0 z2.2 _ e4 ?_)
    refine R_aload_n (dd dt_9_liveOn 42 rfl) 1 rfl rfl ?_
    refine R_iload_n (dd dt_9_liveOn 43 rfl) 3 rfl rfl ?_
    obtain ⟨z5, hz5, h⟩ := bi_el h
    have K5 : Rj l E (d + 1) m_9_liveOn 91 [some (.ref a0), none, some (.int a2), none, none, none] [.int z5, .ref a1] z3.2 Q := by
      clear hz5
      refine R_aload_n (dd dt_9_liveOn 48 rfl) 0 rfl rfl ?_
      refine g_9_30 rfl k0 (dd dt_9_liveOn 49 rfl) ?_
      refine R_iload_n (dd dt_9_liveOn 50 rfl) 2 rfl rfl ?_
      obtain ⟨μ7, e6, h⟩ := bi_el h
      refine c_9_230 (As := [.int z5, .int (z3.2 a0 6), .int a2]) (st1 := []) rfl (fun Q1 hq => ok_1_endDay e6 k1 hq) k1 rfl rfl (Nat.le_of_ble_eq_true rfl) (dd dt_9_liveOn 51 rfl) rfl ?_
      obtain rfl := Option.some.inj h
      exact R_vret rfl (dd dt_9_liveOn 52 rfl) hQ
    clear h
    have h := hz5
    clear hz5
    refine R_ifle (dd dt_9_liveOn 44 rfl) (tgt := 90) rfl (fun hc => ?_) (fun hc => ?_)
    · rw [if_pos hc] at h
      refine R_iconst (v := 0) (dd dt_9_liveOn 47 rfl) ic_0 ?_
      obtain rfl := Option.some.inj h
      exact R_mask [true, false, true, false, false, false] rfl K5
    · rw [if_neg hc] at h
      refine R_iconst (v := 1) (dd dt_9_liveOn 45 rfl) ic_1 ?_
      refine R_goto (dd dt_9_liveOn 46 rfl) (tgt := 91) rfl ?_
      obtain rfl := Option.some.inj h
      exact R_mask [true, false, true, false, false, false] rfl K5
  · rw [if_neg hc] at h
    obtain rfl := Option.some.inj h
    exact R_vret rfl (dd dt_9_liveOn 3 rfl) hQ
/-! LongStrike$Rules.firstOf(I)I -/
def tab_5_firstOf : List (Nat × Instr × Nat) := [(0, .iconst 0, 1), (1, .istore_n 2, 1), (2, .iload_n 2, 1), (3, .aload_n 0, 1), (4, .getfield 7, 3), (7, .if_icmp .ge 21, 3), (10, .aload_n 0, 1), (11, .getfield 13, 3), (14, .iload_n 2, 1), (15, .iaload, 1), (16, .iload_n 1, 1), (17, .if_icmp .ne 5, 3), (20, .iload_n 2, 1), (21, .ireturn, 1), (22, .iinc 2 1, 3), (25, .goto (-23), 3), (28, .iconst (-1), 1), (29, .ireturn, 1)]
set_option maxRecDepth 100000 in
theorem dt_5_firstOf : ∀ q ∈ tab_5_firstOf, decode m_5_firstOf.2.1 q.1 = .ok q.2 := by decide +kernel
def f_5_firstOf_l2 (a0 : Nat) (a1 : Int32) (μ : mm) : Nat → Int32 → Option (Int32)
  | 0, _ => none
  | n + 1, v2 => if (μ a0 0) ≤ v2 then
      some (-1)
    else
      (ld μ (rf a0 1) v2).bind fun x1 =>
      if x1 = a1 then
        some v2
      else
        f_5_firstOf_l2 a0 a1 μ n (v2 + 1)
set_option maxRecDepth 100000 in
theorem ok_5_firstOf_l2 {l : Launch} {E : ce} {d : Nat} {Q : Option Value → mm → Prop} (a0 : Nat) (a1 : Int32) (μ : mm) (k0 : kd a0 = 5) : ∀ (n : Nat) (v2 : Int32) (r : Int32), f_5_firstOf_l2 a0 a1 μ n v2 = some r → Q (some (.int r)) μ → Rj l E d m_5_firstOf 2 [some (.ref a0), some (.int a1), some (.int v2)] [] μ Q
  | 0, _, z, h, _ => by
    rw [f_5_firstOf_l2] at h
    cases h
  | n + 1, v2, r, h, hQ => by
    rw [f_5_firstOf_l2] at h
    refine R_iload_n (dd dt_5_firstOf 2 rfl) 2 rfl rfl ?_
    refine R_aload_n (dd dt_5_firstOf 3 rfl) 0 rfl rfl ?_
    refine g_5_7 rfl k0 (dd dt_5_firstOf 4 rfl) ?_
    refine R_cmpge (dd dt_5_firstOf 5 rfl) (tgt := 28) rfl (fun hc => ?_) (fun hc => ?_)
    · rw [if_pos hc] at h
      refine R_iconst (v := (-1)) (dd dt_5_firstOf 16 rfl) ic_m1 ?_
      obtain rfl := Option.some.inj h
      exact R_iret rfl (dd dt_5_firstOf 17 rfl) hQ
    · rw [if_neg hc] at h
      refine R_aload_n (dd dt_5_firstOf 6 rfl) 0 rfl rfl ?_
      refine g_5_13 rfl k0 (dd dt_5_firstOf 7 rfl) ?_
      refine R_iload_n (dd dt_5_firstOf 8 rfl) 2 rfl rfl ?_
      obtain ⟨x1, e2, h⟩ := bi_el h
      refine R_ild e2 (ty_5_1 k0) (dd dt_5_firstOf 9 rfl) ?_
      refine R_iload_n (dd dt_5_firstOf 10 rfl) 1 rfl rfl ?_
      refine R_cmpne (dd dt_5_firstOf 11 rfl) (tgt := 22) rfl (fun hc => ?_) (fun hc => ?_)
      · rw [if_neg hc] at h
        refine R_iinc (v := 1) (lv' := [some (.ref a0), some (.int a1), some (.int (v2 + 1))]) (dd dt_5_firstOf 14 rfl) (by decide) rfl rfl ic_1 rfl ?_
        refine R_goto (dd dt_5_firstOf 15 rfl) (tgt := 2) rfl ?_
        exact R_mask [true, true, true] rfl (ok_5_firstOf_l2 a0 a1 μ k0 n (v2 + 1) _ h hQ)
      · rw [if_pos hc] at h
        refine R_iload_n (dd dt_5_firstOf 12 rfl) 2 rfl rfl ?_
        obtain rfl := Option.some.inj h
        exact R_iret rfl (dd dt_5_firstOf 13 rfl) hQ
def f_5_firstOf (a0 : Nat) (a1 : Int32) (μ : mm) : Option (Int32) :=
  f_5_firstOf_l2 a0 a1 μ FU 0
set_option maxRecDepth 100000 in
set_option maxHeartbeats 4000000 in
theorem ok_5_firstOf {l : Launch} {E : ce} {d : Nat}  {a0 : Nat} {a1 : Int32} {μ : mm} {r : Int32} {Q : Option Value → mm → Prop} (h : f_5_firstOf a0 a1 μ = some r) (k0 : kd a0 = 5) (hQ : Q (some (.int r)) μ) : Ct l E d yX5_firstOf m_5_firstOf [.ref a0, .int a1] μ Q := by
  refine Ct_of (lv := [some (.ref a0), some (.int a1), none]) (by decide) rfl (Nat.le_of_ble_eq_true rfl) rfl ?_
  unfold f_5_firstOf at h
  refine R_iconst (v := 0) (dd dt_5_firstOf 0 rfl) ic_0 ?_
  refine R_istore_n (lv' := [some (.ref a0), some (.int a1), some (.int 0)]) (dd dt_5_firstOf 1 rfl) 2 rfl (by decide) rfl rfl ?_
  exact R_mask [true, true, true] rfl (ok_5_firstOf_l2 a0 a1 μ k0 FU 0 _ h hQ)
/-! LongStrike$Rules.numberOf(II)I -/
def tab_5_numberOf : List (Nat × Instr × Nat) := [(0, .aload_n 0, 1), (1, .iload_n 1, 1), (2, .invokevirtual 44, 3), (5, .istore_n 3, 1), (6, .iload_n 3, 1), (7, .iconst (-1), 1), (8, .if_icmp .ne 7, 3), (11, .iload_n 2, 1), (12, .goto 9, 3), (15, .aload_n 0, 1), (16, .getfield 17, 3), (19, .iload_n 3, 1), (20, .iaload, 1), (21, .ireturn, 1)]
set_option maxRecDepth 100000 in
theorem dt_5_numberOf : ∀ q ∈ tab_5_numberOf, decode m_5_numberOf.2.1 q.1 = .ok q.2 := by decide +kernel
def f_5_numberOf (a0 : Nat) (a1 : Int32) (a2 : Int32) (μ : mm) : Option (Int32) :=
  (f_5_firstOf a0 a1 μ).bind fun x2 =>
  if x2 = (-1) then
    some a2
  else
    (ld μ (rf a0 2) x2).bind fun x3 =>
    some x3
set_option maxRecDepth 100000 in
set_option maxHeartbeats 4000000 in
theorem ok_5_numberOf {l : Launch} {E : ce} {d : Nat}  {a0 : Nat} {a1 : Int32} {a2 : Int32} {μ : mm} {r : Int32} {Q : Option Value → mm → Prop} (h : f_5_numberOf a0 a1 a2 μ = some r) (k0 : kd a0 = 5) (hQ : Q (some (.int r)) μ) : Ct l E (d + 1) yX5_numberOf m_5_numberOf [.ref a0, .int a1, .int a2] μ Q := by
  refine Ct_of (lv := [some (.ref a0), some (.int a1), some (.int a2), none]) (by decide) rfl (Nat.le_of_ble_eq_true rfl) rfl ?_
  unfold f_5_numberOf at h
  refine R_aload_n (dd dt_5_numberOf 0 rfl) 0 rfl rfl ?_
  refine R_iload_n (dd dt_5_numberOf 1 rfl) 1 rfl rfl ?_
  obtain ⟨x2, e1, h⟩ := bi_el h
  refine c_5_44 (As := [.int a1]) (st1 := [.int x2]) rfl (fun Q1 hq => ok_5_firstOf e1 k0 hq) k0 rfl rfl (Nat.le_of_ble_eq_true rfl) (dd dt_5_numberOf 2 rfl) rfl ?_
  refine R_istore_n (lv' := [some (.ref a0), some (.int a1), some (.int a2), some (.int x2)]) (dd dt_5_numberOf 3 rfl) 3 rfl (by decide) rfl rfl ?_
  refine R_iload_n (dd dt_5_numberOf 4 rfl) 3 rfl rfl ?_
  refine R_iconst (v := (-1)) (dd dt_5_numberOf 5 rfl) ic_m1 ?_
  refine R_cmpne (dd dt_5_numberOf 6 rfl) (tgt := 15) rfl (fun hc => ?_) (fun hc => ?_)
  · rw [if_neg hc] at h
    refine R_aload_n (dd dt_5_numberOf 9 rfl) 0 rfl rfl ?_
    refine g_5_17 rfl k0 (dd dt_5_numberOf 10 rfl) ?_
    refine R_iload_n (dd dt_5_numberOf 11 rfl) 3 rfl rfl ?_
    obtain ⟨x3, e4, h⟩ := bi_el h
    refine R_ild e4 (ty_5_2 k0) (dd dt_5_numberOf 12 rfl) ?_
    obtain rfl := Option.some.inj h
    exact R_iret rfl (dd dt_5_numberOf 13 rfl) hQ
  · rw [if_pos hc] at h
    refine R_iload_n (dd dt_5_numberOf 7 rfl) 2 rfl rfl ?_
    refine R_goto (dd dt_5_numberOf 8 rfl) (tgt := 21) rfl ?_
    obtain rfl := Option.some.inj h
    exact R_iret rfl (dd dt_5_numberOf 13 rfl) hQ
/-! LongStrike$Valley.safety()I -/
def tab_9_safety : List (Nat × Instr × Nat) := [(0, .aload_n 0, 1), (1, .getfield 59, 3), (4, .iconst 0, 1), (5, .aaload, 1), (6, .iconst 2, 1), (7, .iconst 0, 1), (8, .invokevirtual 158, 3), (11, .aload_n 0, 1), (12, .getfield 59, 3), (15, .iconst 2, 1), (16, .aaload, 1), (17, .iconst 2, 1), (18, .iconst 0, 1), (19, .invokevirtual 158, 3), (22, .invokestatic 162, 3), (25, .ireturn, 1)]
set_option maxRecDepth 100000 in
theorem dt_9_safety : ∀ q ∈ tab_9_safety, decode m_9_safety.2.1 q.1 = .ok q.2 := by decide +kernel
def f_9_safety (a0 : Nat) (μ : mm) : Option (Int32) :=
  (lda (rf a0 11) 0).bind fun r1 =>
  (f_5_numberOf r1 2 0 μ).bind fun x4 =>
  (lda (rf a0 11) 2).bind fun r5 =>
  (f_5_numberOf r5 2 0 μ).bind fun x8 =>
  some (mn x4 x8)
set_option maxRecDepth 100000 in
set_option maxHeartbeats 4000000 in
theorem ok_9_safety {l : Launch} {E : ce} {d : Nat}  {a0 : Nat} {μ : mm} {r : Int32} {Q : Option Value → mm → Prop} (h : f_9_safety a0 μ = some r) (k0 : kd a0 = 9) (hQ : Q (some (.int r)) μ) : Ct l E (d + 2) yX9_safety m_9_safety [.ref a0] μ Q := by
  refine Ct_of (lv := [some (.ref a0)]) (by decide) rfl (Nat.le_of_ble_eq_true rfl) rfl ?_
  unfold f_9_safety at h
  refine R_aload_n (dd dt_9_safety 0 rfl) 0 rfl rfl ?_
  refine g_9_59 rfl k0 (dd dt_9_safety 1 rfl) ?_
  refine R_iconst (v := 0) (dd dt_9_safety 2 rfl) ic_0 ?_
  obtain ⟨r1, e2, h⟩ := bi_el h
  refine R_aald (t0 := 7) e2 (ty_9_11 k0) (by decide) (by decide) rfl rfl (dd dt_9_safety 3 rfl) ?_
  refine R_iconst (v := 2) (dd dt_9_safety 4 rfl) ic_2 ?_
  refine R_iconst (v := 0) (dd dt_9_safety 5 rfl) ic_0 ?_
  obtain ⟨x4, e3, h⟩ := bi_el h
  refine c_9_158 (As := [.int 2, .int 0]) (st1 := [.int x4]) rfl (fun Q1 hq => ok_5_numberOf e3 (tl_27 e2 (ty_9_11 k0)) hq) (tl_27 e2 (ty_9_11 k0)) rfl rfl (Nat.le_of_ble_eq_true rfl) (dd dt_9_safety 6 rfl) rfl ?_
  refine R_aload_n (dd dt_9_safety 7 rfl) 0 rfl rfl ?_
  refine g_9_59 rfl k0 (dd dt_9_safety 8 rfl) ?_
  refine R_iconst (v := 2) (dd dt_9_safety 9 rfl) ic_2 ?_
  obtain ⟨r5, e6, h⟩ := bi_el h
  refine R_aald (t0 := 7) e6 (ty_9_11 k0) (by decide) (by decide) rfl rfl (dd dt_9_safety 10 rfl) ?_
  refine R_iconst (v := 2) (dd dt_9_safety 11 rfl) ic_2 ?_
  refine R_iconst (v := 0) (dd dt_9_safety 12 rfl) ic_0 ?_
  obtain ⟨x8, e7, h⟩ := bi_el h
  refine c_9_158 (As := [.int 2, .int 0]) (st1 := [.int x8, .int x4]) rfl (fun Q1 hq => ok_5_numberOf e7 (tl_27 e6 (ty_9_11 k0)) hq) (tl_27 e6 (ty_9_11 k0)) rfl rfl (Nat.le_of_ble_eq_true rfl) (dd dt_9_safety 13 rfl) rfl ?_
  refine R_mmin ml_9_162 (Nat.le_of_ble_eq_true rfl) (dd dt_9_safety 14 rfl) ?_
  obtain rfl := Option.some.inj h
  exact R_iret rfl (dd dt_9_safety 15 rfl) hQ
/-! LongStrike.asBit(Z)I -/
def tab_11_asBit : List (Nat × Instr × Nat) := [(0, .iload_n 0, 1), (1, .ifCond .eq 7, 3), (4, .iconst 1, 1), (5, .goto 4, 3), (8, .iconst 0, 1), (9, .ireturn, 1)]
set_option maxRecDepth 100000 in
theorem dt_11_asBit : ∀ q ∈ tab_11_asBit, decode m_11_asBit.2.1 q.1 = .ok q.2 := by decide +kernel
def f_11_asBit (a0 : Int32) (μ : mm) : Option (Int32) :=
  if a0 = 0 then
    some 0
  else
    some 1
set_option maxRecDepth 100000 in
set_option maxHeartbeats 4000000 in
theorem ok_11_asBit {l : Launch} {E : ce} {d : Nat}  {a0 : Int32} {μ : mm} {r : Int32} {Q : Option Value → mm → Prop} (h : f_11_asBit a0 μ = some r)  (hQ : Q (some (.int r)) μ) : Ct l E d yX11_asBit m_11_asBit [.int a0] μ Q := by
  refine Ct_of (lv := [some (.int a0)]) (by decide) rfl (Nat.le_of_ble_eq_true rfl) rfl ?_
  unfold f_11_asBit at h
  refine R_iload_n (dd dt_11_asBit 0 rfl) 0 rfl rfl ?_
  refine R_ifeq (dd dt_11_asBit 1 rfl) (tgt := 8) rfl (fun hc => ?_) (fun hc => ?_)
  · rw [if_pos hc] at h
    refine R_iconst (v := 0) (dd dt_11_asBit 4 rfl) ic_0 ?_
    obtain rfl := Option.some.inj h
    exact R_iret rfl (dd dt_11_asBit 5 rfl) hQ
  · rw [if_neg hc] at h
    refine R_iconst (v := 1) (dd dt_11_asBit 2 rfl) ic_1 ?_
    refine R_goto (dd dt_11_asBit 3 rfl) (tgt := 9) rfl ?_
    obtain rfl := Option.some.inj h
    exact R_iret rfl (dd dt_11_asBit 5 rfl) hQ
/-! LongStrike$Household.fact(I)I -/
def tab_1_fact : List (Nat × Instr × Nat) := [(0, .iload_n 1, 1), (1, .tableswitch 69 0 5 #[39, 44, 49, 54, 59, 64], 39), (40, .aload_n 0, 1), (41, .getfield 16, 3), (44, .ireturn, 1), (45, .aload_n 0, 1), (46, .getfield 31, 3), (49, .ireturn, 1), (50, .aload_n 0, 1), (51, .getfield 25, 3), (54, .ireturn, 1), (55, .aload_n 0, 1), (56, .getfield 22, 3), (59, .ireturn, 1), (60, .aload_n 0, 1), (61, .getfield 34, 3), (64, .ireturn, 1), (65, .aload_n 0, 1), (66, .getfield 13, 3), (69, .ireturn, 1), (70, .aload_n 0, 1), (71, .getfield 7, 3), (74, .ireturn, 1)]
set_option maxRecDepth 100000 in
theorem dt_1_fact : ∀ q ∈ tab_1_fact, decode m_1_fact.2.1 q.1 = .ok q.2 := by decide +kernel
def f_1_fact (a0 : Nat) (a1 : Int32) (μ : mm) : Option (Int32) :=
  if a1 = 0 then
    some (μ a0 2)
  else if a1 = 1 then
    some (μ a0 7)
  else if a1 = 2 then
    some (μ a0 5)
  else if a1 = 3 then
    some (μ a0 4)
  else if a1 = 4 then
    some (μ a0 8)
  else if a1 = 5 then
    some (μ a0 1)
  else 
    some (μ a0 0)
set_option maxRecDepth 100000 in
set_option maxHeartbeats 4000000 in
theorem ok_1_fact {l : Launch} {E : ce} {d : Nat}  {a0 : Nat} {a1 : Int32} {μ : mm} {r : Int32} {Q : Option Value → mm → Prop} (h : f_1_fact a0 a1 μ = some r) (k0 : kd a0 = 1) (hQ : Q (some (.int r)) μ) : Ct l E d yX1_fact m_1_fact [.ref a0, .int a1] μ Q := by
  refine Ct_of (lv := [some (.ref a0), some (.int a1)]) (by decide) rfl (Nat.le_of_ble_eq_true rfl) rfl ?_
  unfold f_1_fact at h
  refine R_iload_n (dd dt_1_fact 0 rfl) 1 rfl rfl ?_
  by_cases hs0 : a1 = 0
  · refine R_tabIn (off := 39) (tgt := 40) (dd dt_1_fact 1 rfl) (by rw [hs0]; decide) (by rw [hs0]; decide) (by rw [hs0]; rfl) rfl ?_
    rw [if_pos hs0] at h
    refine R_aload_n (dd dt_1_fact 2 rfl) 0 rfl rfl ?_
    refine g_1_16 rfl k0 (dd dt_1_fact 3 rfl) ?_
    obtain rfl := Option.some.inj h
    exact R_iret rfl (dd dt_1_fact 4 rfl) hQ
  rw [if_neg hs0] at h
  by_cases hs1 : a1 = 1
  · refine R_tabIn (off := 44) (tgt := 45) (dd dt_1_fact 1 rfl) (by rw [hs1]; decide) (by rw [hs1]; decide) (by rw [hs1]; rfl) rfl ?_
    rw [if_pos hs1] at h
    refine R_aload_n (dd dt_1_fact 5 rfl) 0 rfl rfl ?_
    refine g_1_31 rfl k0 (dd dt_1_fact 6 rfl) ?_
    obtain rfl := Option.some.inj h
    exact R_iret rfl (dd dt_1_fact 7 rfl) hQ
  rw [if_neg hs1] at h
  by_cases hs2 : a1 = 2
  · refine R_tabIn (off := 49) (tgt := 50) (dd dt_1_fact 1 rfl) (by rw [hs2]; decide) (by rw [hs2]; decide) (by rw [hs2]; rfl) rfl ?_
    rw [if_pos hs2] at h
    refine R_aload_n (dd dt_1_fact 8 rfl) 0 rfl rfl ?_
    refine g_1_25 rfl k0 (dd dt_1_fact 9 rfl) ?_
    obtain rfl := Option.some.inj h
    exact R_iret rfl (dd dt_1_fact 10 rfl) hQ
  rw [if_neg hs2] at h
  by_cases hs3 : a1 = 3
  · refine R_tabIn (off := 54) (tgt := 55) (dd dt_1_fact 1 rfl) (by rw [hs3]; decide) (by rw [hs3]; decide) (by rw [hs3]; rfl) rfl ?_
    rw [if_pos hs3] at h
    refine R_aload_n (dd dt_1_fact 11 rfl) 0 rfl rfl ?_
    refine g_1_22 rfl k0 (dd dt_1_fact 12 rfl) ?_
    obtain rfl := Option.some.inj h
    exact R_iret rfl (dd dt_1_fact 13 rfl) hQ
  rw [if_neg hs3] at h
  by_cases hs4 : a1 = 4
  · refine R_tabIn (off := 59) (tgt := 60) (dd dt_1_fact 1 rfl) (by rw [hs4]; decide) (by rw [hs4]; decide) (by rw [hs4]; rfl) rfl ?_
    rw [if_pos hs4] at h
    refine R_aload_n (dd dt_1_fact 14 rfl) 0 rfl rfl ?_
    refine g_1_34 rfl k0 (dd dt_1_fact 15 rfl) ?_
    obtain rfl := Option.some.inj h
    exact R_iret rfl (dd dt_1_fact 16 rfl) hQ
  rw [if_neg hs4] at h
  by_cases hs5 : a1 = 5
  · refine R_tabIn (off := 64) (tgt := 65) (dd dt_1_fact 1 rfl) (by rw [hs5]; decide) (by rw [hs5]; decide) (by rw [hs5]; rfl) rfl ?_
    rw [if_pos hs5] at h
    refine R_aload_n (dd dt_1_fact 17 rfl) 0 rfl rfl ?_
    refine g_1_13 rfl k0 (dd dt_1_fact 18 rfl) ?_
    obtain rfl := Option.some.inj h
    exact R_iret rfl (dd dt_1_fact 19 rfl) hQ
  rw [if_neg hs5] at h
  refine R_tabOut (tgt := 70) (dd dt_1_fact 1 rfl) (by have hn0 := lv_neT hs0 (a := 0) (by decide); have hn1 := lv_neT hs1 (a := 1) (by decide); have hn2 := lv_neT hs2 (a := 2) (by decide); have hn3 := lv_neT hs3 (a := 3) (by decide); have hn4 := lv_neT hs4 (a := 4) (by decide); have hn5 := lv_neT hs5 (a := 5) (by decide); omega) rfl ?_
  refine R_aload_n (dd dt_1_fact 20 rfl) 0 rfl rfl ?_
  refine g_1_7 rfl k0 (dd dt_1_fact 21 rfl) ?_
  obtain rfl := Option.some.inj h
  exact R_iret rfl (dd dt_1_fact 22 rfl) hQ
/-! LongStrike$Rules.hasCond(I)Z -/
def tab_5_hasCond : List (Nat × Instr × Nat) := [(0, .aload_n 0, 1), (1, .getfield 20, 3), (4, .iload_n 1, 1), (5, .iaload, 1), (6, .aload_n 0, 1), (7, .getfield 23, 3), (10, .iload_n 1, 1), (11, .iaload, 1), (12, .if_icmp .ge 7, 3), (15, .iconst 1, 1), (16, .goto 4, 3), (19, .iconst 0, 1), (20, .ireturn, 1)]
set_option maxRecDepth 100000 in
theorem dt_5_hasCond : ∀ q ∈ tab_5_hasCond, decode m_5_hasCond.2.1 q.1 = .ok q.2 := by decide +kernel
def f_5_hasCond (a0 : Nat) (a1 : Int32) (μ : mm) : Option (Int32) :=
  (ld μ (rf a0 3) a1).bind fun x1 =>
  (ld μ (rf a0 4) a1).bind fun x3 =>
  if x3 ≤ x1 then
    some 0
  else
    some 1
set_option maxRecDepth 100000 in
set_option maxHeartbeats 4000000 in
theorem ok_5_hasCond {l : Launch} {E : ce} {d : Nat}  {a0 : Nat} {a1 : Int32} {μ : mm} {r : Int32} {Q : Option Value → mm → Prop} (h : f_5_hasCond a0 a1 μ = some r) (k0 : kd a0 = 5) (hQ : Q (some (.int r)) μ) : Ct l E d yX5_hasCond m_5_hasCond [.ref a0, .int a1] μ Q := by
  refine Ct_of (lv := [some (.ref a0), some (.int a1)]) (by decide) rfl (Nat.le_of_ble_eq_true rfl) rfl ?_
  unfold f_5_hasCond at h
  refine R_aload_n (dd dt_5_hasCond 0 rfl) 0 rfl rfl ?_
  refine g_5_20 rfl k0 (dd dt_5_hasCond 1 rfl) ?_
  refine R_iload_n (dd dt_5_hasCond 2 rfl) 1 rfl rfl ?_
  obtain ⟨x1, e2, h⟩ := bi_el h
  refine R_ild e2 (ty_5_3 k0) (dd dt_5_hasCond 3 rfl) ?_
  refine R_aload_n (dd dt_5_hasCond 4 rfl) 0 rfl rfl ?_
  refine g_5_23 rfl k0 (dd dt_5_hasCond 5 rfl) ?_
  refine R_iload_n (dd dt_5_hasCond 6 rfl) 1 rfl rfl ?_
  obtain ⟨x3, e4, h⟩ := bi_el h
  refine R_ild e4 (ty_5_4 k0) (dd dt_5_hasCond 7 rfl) ?_
  refine R_cmpge (dd dt_5_hasCond 8 rfl) (tgt := 19) rfl (fun hc => ?_) (fun hc => ?_)
  · rw [if_pos hc] at h
    refine R_iconst (v := 0) (dd dt_5_hasCond 11 rfl) ic_0 ?_
    obtain rfl := Option.some.inj h
    exact R_zret rfl (by decide) (dd dt_5_hasCond 12 rfl) hQ
  · rw [if_neg hc] at h
    refine R_iconst (v := 1) (dd dt_5_hasCond 9 rfl) ic_1 ?_
    refine R_goto (dd dt_5_hasCond 10 rfl) (tgt := 20) rfl ?_
    obtain rfl := Option.some.inj h
    exact R_zret rfl (by decide) (dd dt_5_hasCond 12 rfl) hQ
/-! LongStrike$Rules.isTrue(II)Z -/
def tab_5_isTrue : List (Nat × Instr × Nat) := [(0, .iload_n 1, 1), (1, .sipush 1000, 3), (4, .irem, 1), (5, .istore_n 2, 1), (6, .iload_n 1, 1), (7, .sipush 1000, 3), (10, .idiv, 1), (11, .iconst 3, 1), (12, .irem, 1), (13, .lookupswitch 49 #[(0, 27), (1, 38)], 27), (40, .iload_n 0, 1), (41, .iload_n 2, 1), (42, .if_icmp .ge 7, 3), (45, .iconst 1, 1), (46, .goto 4, 3), (49, .iconst 0, 1), (50, .ireturn, 1), (51, .iload_n 0, 1), (52, .iload_n 2, 1), (53, .if_icmp .ne 7, 3), (56, .iconst 1, 1), (57, .goto 4, 3), (60, .iconst 0, 1), (61, .ireturn, 1), (62, .iload_n 0, 1), (63, .iload_n 2, 1), (64, .if_icmp .le 7, 3), (67, .iconst 1, 1), (68, .goto 4, 3), (71, .iconst 0, 1), (72, .ireturn, 1)]
set_option maxRecDepth 100000 in
theorem dt_5_isTrue : ∀ q ∈ tab_5_isTrue, decode m_5_isTrue.2.1 q.1 = .ok q.2 := by decide +kernel
def f_5_isTrue (a0 : Int32) (a1 : Int32) (μ : mm) : Option (Int32) :=
  if ((a1 / 1000) - (a1 / 1000) / 3 * 3) = 0 then
    if (a1 - a1 / 1000 * 1000) ≤ a0 then
      some 0
    else
      some 1
  else if ((a1 / 1000) - (a1 / 1000) / 3 * 3) = 1 then
    if a0 = (a1 - a1 / 1000 * 1000) then
      some 1
    else
      some 0
  else 
    if a0 ≤ (a1 - a1 / 1000 * 1000) then
      some 0
    else
      some 1
set_option maxRecDepth 100000 in
set_option maxHeartbeats 4000000 in
theorem ok_5_isTrue {l : Launch} {E : ce} {d : Nat}  {a0 : Int32} {a1 : Int32} {μ : mm} {r : Int32} {Q : Option Value → mm → Prop} (h : f_5_isTrue a0 a1 μ = some r)  (hQ : Q (some (.int r)) μ) : Ct l E d yX5_isTrue m_5_isTrue [.int a0, .int a1] μ Q := by
  refine Ct_of (lv := [some (.int a0), some (.int a1), none]) (by decide) rfl (Nat.le_of_ble_eq_true rfl) rfl ?_
  unfold f_5_isTrue at h
  refine R_iload_n (dd dt_5_isTrue 0 rfl) 1 rfl rfl ?_
  refine R_sipush (v := 1000) (dd dt_5_isTrue 1 rfl) sp_1000 ?_
  refine R_irem (dd dt_5_isTrue 2 rfl) (by decide) ?_
  refine R_istore_n (lv' := [some (.int a0), some (.int a1), some (.int (a1 - a1 / 1000 * 1000))]) (dd dt_5_isTrue 3 rfl) 2 rfl (by decide) rfl rfl ?_
  refine R_iload_n (dd dt_5_isTrue 4 rfl) 1 rfl rfl ?_
  refine R_sipush (v := 1000) (dd dt_5_isTrue 5 rfl) sp_1000 ?_
  refine R_idiv (dd dt_5_isTrue 6 rfl) (by decide) ?_
  refine R_iconst (v := 3) (dd dt_5_isTrue 7 rfl) ic_3 ?_
  refine R_irem (dd dt_5_isTrue 8 rfl) (by decide) ?_
  by_cases hs0 : ((a1 / 1000) - (a1 / 1000) / 3 * 3) = 0
  · refine R_lookup (off := 27) (tgt := 40) (dd dt_5_isTrue 9 rfl) (by decide) (by rw [hs0]; rfl) rfl ?_
    rw [if_pos hs0] at h
    refine R_iload_n (dd dt_5_isTrue 10 rfl) 0 rfl rfl ?_
    refine R_iload_n (dd dt_5_isTrue 11 rfl) 2 rfl rfl ?_
    refine R_cmpge (dd dt_5_isTrue 12 rfl) (tgt := 49) rfl (fun hc => ?_) (fun hc => ?_)
    · rw [if_pos hc] at h
      refine R_iconst (v := 0) (dd dt_5_isTrue 15 rfl) ic_0 ?_
      obtain rfl := Option.some.inj h
      exact R_zret rfl (by decide) (dd dt_5_isTrue 16 rfl) hQ
    · rw [if_neg hc] at h
      refine R_iconst (v := 1) (dd dt_5_isTrue 13 rfl) ic_1 ?_
      refine R_goto (dd dt_5_isTrue 14 rfl) (tgt := 50) rfl ?_
      obtain rfl := Option.some.inj h
      exact R_zret rfl (by decide) (dd dt_5_isTrue 16 rfl) hQ
  rw [if_neg hs0] at h
  by_cases hs1 : ((a1 / 1000) - (a1 / 1000) / 3 * 3) = 1
  · refine R_lookup (off := 38) (tgt := 51) (dd dt_5_isTrue 9 rfl) (by decide) (by rw [hs1]; rfl) rfl ?_
    rw [if_pos hs1] at h
    refine R_iload_n (dd dt_5_isTrue 17 rfl) 0 rfl rfl ?_
    refine R_iload_n (dd dt_5_isTrue 18 rfl) 2 rfl rfl ?_
    refine R_cmpne (dd dt_5_isTrue 19 rfl) (tgt := 60) rfl (fun hc => ?_) (fun hc => ?_)
    · rw [if_neg hc] at h
      refine R_iconst (v := 0) (dd dt_5_isTrue 22 rfl) ic_0 ?_
      obtain rfl := Option.some.inj h
      exact R_zret rfl (by decide) (dd dt_5_isTrue 23 rfl) hQ
    · rw [if_pos hc] at h
      refine R_iconst (v := 1) (dd dt_5_isTrue 20 rfl) ic_1 ?_
      refine R_goto (dd dt_5_isTrue 21 rfl) (tgt := 61) rfl ?_
      obtain rfl := Option.some.inj h
      exact R_zret rfl (by decide) (dd dt_5_isTrue 23 rfl) hQ
  rw [if_neg hs1] at h
  refine R_lookup (off := 49) (tgt := 62) (dd dt_5_isTrue 9 rfl) (by decide) ((lv_osw hs0 (by decide)).trans ((lv_osw hs1 (by decide)).trans (rfl))) rfl ?_
  refine R_iload_n (dd dt_5_isTrue 24 rfl) 0 rfl rfl ?_
  refine R_iload_n (dd dt_5_isTrue 25 rfl) 2 rfl rfl ?_
  refine R_cmple (dd dt_5_isTrue 26 rfl) (tgt := 71) rfl (fun hc => ?_) (fun hc => ?_)
  · rw [if_pos hc] at h
    refine R_iconst (v := 0) (dd dt_5_isTrue 29 rfl) ic_0 ?_
    obtain rfl := Option.some.inj h
    exact R_zret rfl (by decide) (dd dt_5_isTrue 30 rfl) hQ
  · rw [if_neg hc] at h
    refine R_iconst (v := 1) (dd dt_5_isTrue 27 rfl) ic_1 ?_
    refine R_goto (dd dt_5_isTrue 28 rfl) (tgt := 72) rfl ?_
    obtain rfl := Option.some.inj h
    exact R_zret rfl (by decide) (dd dt_5_isTrue 30 rfl) hQ
/-! LongStrike$Rules.holds(ILLongStrike$Household;)Z -/
def tab_5_holds : List (Nat × Instr × Nat) := [(0, .aload_n 0, 1), (1, .iload_n 1, 1), (2, .invokevirtual 52, 3), (5, .ifCond .ne 5, 3), (8, .iconst 1, 1), (9, .ireturn, 1), (10, .iconst 0, 1), (11, .istore_n 3, 1), (12, .aload_n 0, 1), (13, .getfield 20, 3), (16, .iload_n 1, 1), (17, .iaload, 1), (18, .istore 4, 2), (20, .iload 4, 2), (22, .aload_n 0, 1), (23, .getfield 23, 3), (26, .iload_n 1, 1), (27, .iaload, 1), (28, .if_icmp .ge 124, 3), (31, .iload_n 3, 1), (32, .iconst 1, 1), (33, .iand, 1), (34, .istore 5, 2), (36, .aload_n 0, 1), (37, .getfield 31, 3), (40, .iload 4, 2), (42, .iaload, 1), (43, .tableswitch 64 (-3) (-1) #[57, 47, 25], 25), (68, .iload 5, 2), (70, .iconst 1, 1), (71, .if_icmp .ne 9, 3), (74, .iload_n 3, 1), (75, .iconst 1, 1), (76, .iushr, 1), (77, .goto 9, 3), (80, .iload_n 3, 1), (81, .iconst 1, 1), (82, .iushr, 1), (83, .bipush (-2), 2), (85, .iand, 1), (86, .istore_n 3, 1), (87, .goto 59, 3), (90, .iload_n 3, 1), (91, .iconst 1, 1), (92, .iushr, 1), (93, .iload 5, 2), (95, .ior, 1), (96, .istore_n 3, 1), (97, .goto 49, 3), (100, .iload_n 3, 1), (101, .iconst 1, 1), (102, .ixor, 1), (103, .istore_n 3, 1), (104, .goto 42, 3), (107, .aload_n 2, 1), (108, .aload_n 0, 1), (109, .getfield 31, 3), (112, .iload 4, 2), (114, .iaload, 1), (115, .sipush 1000, 3), (118, .idiv, 1), (119, .iconst 3, 1), (120, .idiv, 1), (121, .invokevirtual 56, 3), (124, .istore 6, 2), (126, .iload_n 3, 1), (127, .iconst 1, 1), (128, .ishl, 1), (129, .iload 6, 2), (131, .aload_n 0, 1), (132, .getfield 31, 3), (135, .iload 4, 2), (137, .iaload, 1), (138, .invokestatic 61, 3), (141, .invokestatic 65, 3), (144, .ior, 1), (145, .istore_n 3, 1), (146, .iinc 4 1, 3), (149, .goto (-129), 3), (152, .iload_n 3, 1), (153, .iconst 1, 1), (154, .iand, 1), (155, .iconst 1, 1), (156, .if_icmp .ne 7, 3), (159, .iconst 1, 1), (160, .goto 4, 3), (163, .iconst 0, 1), (164, .ireturn, 1)]
set_option maxRecDepth 100000 in
theorem dt_5_holds : ∀ q ∈ tab_5_holds, decode m_5_holds.2.1 q.1 = .ok q.2 := by decide +kernel
def f_5_holds_l20 (a0 : Nat) (a1 : Int32) (a2 : Nat) (μ : mm) : Nat → Int32 → Int32 → Option (Int32)
  | 0, _, _ => none
  | n + 1, v3, v4 => (ld μ (rf a0 4) a1).bind fun x1 =>
    if x1 ≤ v4 then
      some v3
    else
      (ld μ (rf a0 6) v4).bind fun x3 =>
      if x3 = (-3) then
        f_5_holds_l20 a0 a1 a2 μ n (v3 ^^^ 1) (v4 + 1)
      else if x3 = (-2) then
        f_5_holds_l20 a0 a1 a2 μ n ((v3.toUInt32 >>> ((1 : Int32).toUInt32 &&& Int32.toUInt32 31)).toInt32 ||| (v3 &&& 1)) (v4 + 1)
      else if x3 = (-1) then
        if (v3 &&& 1) = 1 then
          f_5_holds_l20 a0 a1 a2 μ n ((v3.toUInt32 >>> ((1 : Int32).toUInt32 &&& Int32.toUInt32 31)).toInt32) (v4 + 1)
        else
          f_5_holds_l20 a0 a1 a2 μ n ((v3.toUInt32 >>> ((1 : Int32).toUInt32 &&& Int32.toUInt32 31)).toInt32 &&& (-2)) (v4 + 1)
      else 
        (ld μ (rf a0 6) v4).bind fun x5 =>
        (f_1_fact a2 ((x5 / 1000) / 3) μ).bind fun x8 =>
        (ld μ (rf a0 6) v4).bind fun x9 =>
        (f_5_isTrue x8 x9 μ).bind fun x12 =>
        (f_11_asBit x12 μ).bind fun x14 =>
        f_5_holds_l20 a0 a1 a2 μ n ((v3 <<< (1 &&& 31)) ||| x14) (v4 + 1)
set_option maxRecDepth 100000 in
theorem ok_5_holds_l20 {l : Launch} {E : ce} {d : Nat} {Q : Option Value → mm → Prop} (a0 : Nat) (a1 : Int32) (a2 : Nat) (μ : mm) (k0 : kd a0 = 5) (k2 : kd a2 = 1) : ∀ (n : Nat) (v3 : Int32) (v4 : Int32) (z : Int32), f_5_holds_l20 a0 a1 a2 μ n v3 v4 = some z → Rj l E (d + 1) m_5_holds 152 [none, none, none, some (.int z), none, none, none] [] μ Q → Rj l E (d + 1) m_5_holds 20 [some (.ref a0), some (.int a1), some (.ref a2), some (.int v3), some (.int v4), none, none] [] μ Q
  | 0, _, _, z, h, _ => by
    rw [f_5_holds_l20] at h
    cases h
  | n + 1, v3, v4, z, h, KX => by
    rw [f_5_holds_l20] at h
    refine R_iload (dd dt_5_holds 13 rfl) rfl ?_
    refine R_aload_n (dd dt_5_holds 14 rfl) 0 rfl rfl ?_
    refine g_5_23 rfl k0 (dd dt_5_holds 15 rfl) ?_
    refine R_iload_n (dd dt_5_holds 16 rfl) 1 rfl rfl ?_
    obtain ⟨x1, e2, h⟩ := bi_el h
    refine R_ild e2 (ty_5_4 k0) (dd dt_5_holds 17 rfl) ?_
    refine R_cmpge (dd dt_5_holds 18 rfl) (tgt := 152) rfl (fun hc => ?_) (fun hc => ?_)
    · rw [if_pos hc] at h
      obtain rfl := Option.some.inj h
      exact R_mask [false, false, false, true, false, false, false] rfl KX
    · rw [if_neg hc] at h
      refine R_iload_n (dd dt_5_holds 19 rfl) 3 rfl rfl ?_
      refine R_iconst (v := 1) (dd dt_5_holds 20 rfl) ic_1 ?_
      refine R_iand (dd dt_5_holds 21 rfl) ?_
      refine R_istore (lv' := [some (.ref a0), some (.int a1), some (.ref a2), some (.int v3), some (.int v4), some (.int (v3 &&& 1)), none]) (dd dt_5_holds 22 rfl) (by decide) rfl rfl ?_
      refine R_aload_n (dd dt_5_holds 23 rfl) 0 rfl rfl ?_
      refine g_5_31 rfl k0 (dd dt_5_holds 24 rfl) ?_
      refine R_iload (dd dt_5_holds 25 rfl) rfl ?_
      obtain ⟨x3, e4, h⟩ := bi_el h
      refine R_ild e4 (ty_5_6 k0) (dd dt_5_holds 26 rfl) ?_
      by_cases hsm3 : x3 = (-3)
      · refine R_tabIn (off := 57) (tgt := 100) (dd dt_5_holds 27 rfl) (by rw [hsm3]; decide) (by rw [hsm3]; decide) (by rw [hsm3]; rfl) rfl ?_
        rw [if_pos hsm3] at h
        refine R_iload_n (dd dt_5_holds 49 rfl) 3 rfl rfl ?_
        refine R_iconst (v := 1) (dd dt_5_holds 50 rfl) ic_1 ?_
        refine R_ixor (dd dt_5_holds 51 rfl) ?_
        refine R_istore_n (lv' := [some (.ref a0), some (.int a1), some (.ref a2), some (.int (v3 ^^^ 1)), some (.int v4), some (.int (v3 &&& 1)), none]) (dd dt_5_holds 52 rfl) 3 rfl (by decide) rfl rfl ?_
        refine R_goto (dd dt_5_holds 53 rfl) (tgt := 146) rfl ?_
        refine R_iinc (v := 1) (lv' := [some (.ref a0), some (.int a1), some (.ref a2), some (.int (v3 ^^^ 1)), some (.int (v4 + 1)), some (.int (v3 &&& 1)), none]) (dd dt_5_holds 77 rfl) (by decide) rfl rfl ic_1 rfl ?_
        refine R_goto (dd dt_5_holds 78 rfl) (tgt := 20) rfl ?_
        exact R_mask [true, true, true, true, true, false, false] rfl (ok_5_holds_l20 a0 a1 a2 μ k0 k2 n (v3 ^^^ 1) (v4 + 1) _ h KX)
      rw [if_neg hsm3] at h
      by_cases hsm2 : x3 = (-2)
      · refine R_tabIn (off := 47) (tgt := 90) (dd dt_5_holds 27 rfl) (by rw [hsm2]; decide) (by rw [hsm2]; decide) (by rw [hsm2]; rfl) rfl ?_
        rw [if_pos hsm2] at h
        refine R_iload_n (dd dt_5_holds 42 rfl) 3 rfl rfl ?_
        refine R_iconst (v := 1) (dd dt_5_holds 43 rfl) ic_1 ?_
        refine R_iushr (dd dt_5_holds 44 rfl) ?_
        refine R_iload (dd dt_5_holds 45 rfl) rfl ?_
        refine R_ior (dd dt_5_holds 46 rfl) ?_
        refine R_istore_n (lv' := [some (.ref a0), some (.int a1), some (.ref a2), some (.int ((v3.toUInt32 >>> ((1 : Int32).toUInt32 &&& Int32.toUInt32 31)).toInt32 ||| (v3 &&& 1))), some (.int v4), some (.int (v3 &&& 1)), none]) (dd dt_5_holds 47 rfl) 3 rfl (by decide) rfl rfl ?_
        refine R_goto (dd dt_5_holds 48 rfl) (tgt := 146) rfl ?_
        refine R_iinc (v := 1) (lv' := [some (.ref a0), some (.int a1), some (.ref a2), some (.int ((v3.toUInt32 >>> ((1 : Int32).toUInt32 &&& Int32.toUInt32 31)).toInt32 ||| (v3 &&& 1))), some (.int (v4 + 1)), some (.int (v3 &&& 1)), none]) (dd dt_5_holds 77 rfl) (by decide) rfl rfl ic_1 rfl ?_
        refine R_goto (dd dt_5_holds 78 rfl) (tgt := 20) rfl ?_
        exact R_mask [true, true, true, true, true, false, false] rfl (ok_5_holds_l20 a0 a1 a2 μ k0 k2 n ((v3.toUInt32 >>> ((1 : Int32).toUInt32 &&& Int32.toUInt32 31)).toInt32 ||| (v3 &&& 1)) (v4 + 1) _ h KX)
      rw [if_neg hsm2] at h
      by_cases hsm1 : x3 = (-1)
      · refine R_tabIn (off := 25) (tgt := 68) (dd dt_5_holds 27 rfl) (by rw [hsm1]; decide) (by rw [hsm1]; decide) (by rw [hsm1]; rfl) rfl ?_
        rw [if_pos hsm1] at h
        refine R_iload (dd dt_5_holds 28 rfl) rfl ?_
        refine R_iconst (v := 1) (dd dt_5_holds 29 rfl) ic_1 ?_
        refine R_cmpne (dd dt_5_holds 30 rfl) (tgt := 80) rfl (fun hc => ?_) (fun hc => ?_)
        · rw [if_neg hc] at h
          refine R_iload_n (dd dt_5_holds 35 rfl) 3 rfl rfl ?_
          refine R_iconst (v := 1) (dd dt_5_holds 36 rfl) ic_1 ?_
          refine R_iushr (dd dt_5_holds 37 rfl) ?_
          refine R_bipush (v := (-2)) (dd dt_5_holds 38 rfl) bp_m2 ?_
          refine R_iand (dd dt_5_holds 39 rfl) ?_
          refine R_istore_n (lv' := [some (.ref a0), some (.int a1), some (.ref a2), some (.int ((v3.toUInt32 >>> ((1 : Int32).toUInt32 &&& Int32.toUInt32 31)).toInt32 &&& (-2))), some (.int v4), some (.int (v3 &&& 1)), none]) (dd dt_5_holds 40 rfl) 3 rfl (by decide) rfl rfl ?_
          refine R_goto (dd dt_5_holds 41 rfl) (tgt := 146) rfl ?_
          refine R_iinc (v := 1) (lv' := [some (.ref a0), some (.int a1), some (.ref a2), some (.int ((v3.toUInt32 >>> ((1 : Int32).toUInt32 &&& Int32.toUInt32 31)).toInt32 &&& (-2))), some (.int (v4 + 1)), some (.int (v3 &&& 1)), none]) (dd dt_5_holds 77 rfl) (by decide) rfl rfl ic_1 rfl ?_
          refine R_goto (dd dt_5_holds 78 rfl) (tgt := 20) rfl ?_
          exact R_mask [true, true, true, true, true, false, false] rfl (ok_5_holds_l20 a0 a1 a2 μ k0 k2 n ((v3.toUInt32 >>> ((1 : Int32).toUInt32 &&& Int32.toUInt32 31)).toInt32 &&& (-2)) (v4 + 1) _ h KX)
        · rw [if_pos hc] at h
          refine R_iload_n (dd dt_5_holds 31 rfl) 3 rfl rfl ?_
          refine R_iconst (v := 1) (dd dt_5_holds 32 rfl) ic_1 ?_
          refine R_iushr (dd dt_5_holds 33 rfl) ?_
          refine R_goto (dd dt_5_holds 34 rfl) (tgt := 86) rfl ?_
          refine R_istore_n (lv' := [some (.ref a0), some (.int a1), some (.ref a2), some (.int ((v3.toUInt32 >>> ((1 : Int32).toUInt32 &&& Int32.toUInt32 31)).toInt32)), some (.int v4), some (.int (v3 &&& 1)), none]) (dd dt_5_holds 40 rfl) 3 rfl (by decide) rfl rfl ?_
          refine R_goto (dd dt_5_holds 41 rfl) (tgt := 146) rfl ?_
          refine R_iinc (v := 1) (lv' := [some (.ref a0), some (.int a1), some (.ref a2), some (.int ((v3.toUInt32 >>> ((1 : Int32).toUInt32 &&& Int32.toUInt32 31)).toInt32)), some (.int (v4 + 1)), some (.int (v3 &&& 1)), none]) (dd dt_5_holds 77 rfl) (by decide) rfl rfl ic_1 rfl ?_
          refine R_goto (dd dt_5_holds 78 rfl) (tgt := 20) rfl ?_
          exact R_mask [true, true, true, true, true, false, false] rfl (ok_5_holds_l20 a0 a1 a2 μ k0 k2 n ((v3.toUInt32 >>> ((1 : Int32).toUInt32 &&& Int32.toUInt32 31)).toInt32) (v4 + 1) _ h KX)
      rw [if_neg hsm1] at h
      refine R_tabOut (tgt := 107) (dd dt_5_holds 27 rfl) (by have hnm3 := lv_neT hsm3 (a := (-3)) (by decide); have hnm2 := lv_neT hsm2 (a := (-2)) (by decide); have hnm1 := lv_neT hsm1 (a := (-1)) (by decide); omega) rfl ?_
      refine R_aload_n (dd dt_5_holds 54 rfl) 2 rfl rfl ?_
      refine R_aload_n (dd dt_5_holds 55 rfl) 0 rfl rfl ?_
      refine g_5_31 rfl k0 (dd dt_5_holds 56 rfl) ?_
      refine R_iload (dd dt_5_holds 57 rfl) rfl ?_
      obtain ⟨x5, e6, h⟩ := bi_el h
      refine R_ild e6 (ty_5_6 k0) (dd dt_5_holds 58 rfl) ?_
      refine R_sipush (v := 1000) (dd dt_5_holds 59 rfl) sp_1000 ?_
      refine R_idiv (dd dt_5_holds 60 rfl) (by decide) ?_
      refine R_iconst (v := 3) (dd dt_5_holds 61 rfl) ic_3 ?_
      refine R_idiv (dd dt_5_holds 62 rfl) (by decide) ?_
      obtain ⟨x8, e7, h⟩ := bi_el h
      refine c_5_56 (As := [.int ((x5 / 1000) / 3)]) (st1 := [.int x8]) rfl (fun Q1 hq => ok_1_fact e7 k2 hq) k2 rfl rfl (Nat.le_of_ble_eq_true rfl) (dd dt_5_holds 63 rfl) rfl ?_
      refine R_istore (lv' := [some (.ref a0), some (.int a1), some (.ref a2), some (.int v3), some (.int v4), some (.int (v3 &&& 1)), some (.int x8)]) (dd dt_5_holds 64 rfl) (by decide) rfl rfl ?_
      refine R_iload_n (dd dt_5_holds 65 rfl) 3 rfl rfl ?_
      refine R_iconst (v := 1) (dd dt_5_holds 66 rfl) ic_1 ?_
      refine R_ishl (dd dt_5_holds 67 rfl) ?_
      refine R_iload (dd dt_5_holds 68 rfl) rfl ?_
      refine R_aload_n (dd dt_5_holds 69 rfl) 0 rfl rfl ?_
      refine g_5_31 rfl k0 (dd dt_5_holds 70 rfl) ?_
      refine R_iload (dd dt_5_holds 71 rfl) rfl ?_
      obtain ⟨x9, e10, h⟩ := bi_el h
      refine R_ild e10 (ty_5_6 k0) (dd dt_5_holds 72 rfl) ?_
      obtain ⟨x12, e11, h⟩ := bi_el h
      refine c_5_61 (As := [.int x8, .int x9]) (st1 := [.int x12, .int (v3 <<< (1 &&& 31))]) rfl (fun Q1 hq => ok_5_isTrue e11 hq) rfl rfl (Nat.le_of_ble_eq_true rfl) (dd dt_5_holds 73 rfl) rfl ?_
      obtain ⟨x14, e13, h⟩ := bi_el h
      refine c_5_65 (As := [.int x12]) (st1 := [.int x14, .int (v3 <<< (1 &&& 31))]) rfl (fun Q1 hq => ok_11_asBit e13 hq) rfl rfl (Nat.le_of_ble_eq_true rfl) (dd dt_5_holds 74 rfl) rfl ?_
      refine R_ior (dd dt_5_holds 75 rfl) ?_
      refine R_istore_n (lv' := [some (.ref a0), some (.int a1), some (.ref a2), some (.int ((v3 <<< (1 &&& 31)) ||| x14)), some (.int v4), some (.int (v3 &&& 1)), some (.int x8)]) (dd dt_5_holds 76 rfl) 3 rfl (by decide) rfl rfl ?_
      refine R_iinc (v := 1) (lv' := [some (.ref a0), some (.int a1), some (.ref a2), some (.int ((v3 <<< (1 &&& 31)) ||| x14)), some (.int (v4 + 1)), some (.int (v3 &&& 1)), some (.int x8)]) (dd dt_5_holds 77 rfl) (by decide) rfl rfl ic_1 rfl ?_
      refine R_goto (dd dt_5_holds 78 rfl) (tgt := 20) rfl ?_
      exact R_mask [true, true, true, true, true, false, false] rfl (ok_5_holds_l20 a0 a1 a2 μ k0 k2 n ((v3 <<< (1 &&& 31)) ||| x14) (v4 + 1) _ h KX)
def f_5_holds (a0 : Nat) (a1 : Int32) (a2 : Nat) (μ : mm) : Option (Int32) :=
  (f_5_hasCond a0 a1 μ).bind fun x2 =>
  if x2 = 0 then
    some 1
  else
    (ld μ (rf a0 3) a1).bind fun x3 =>
    (f_5_holds_l20 a0 a1 a2 μ FU 0 x3).bind fun z5 =>
    if (z5 &&& 1) = 1 then
      some 1
    else
      some 0
set_option maxRecDepth 100000 in
set_option maxHeartbeats 4000000 in
theorem ok_5_holds {l : Launch} {E : ce} {d : Nat}  {a0 : Nat} {a1 : Int32} {a2 : Nat} {μ : mm} {r : Int32} {Q : Option Value → mm → Prop} (h : f_5_holds a0 a1 a2 μ = some r) (k0 : kd a0 = 5) (k2 : kd a2 = 1) (hQ : Q (some (.int r)) μ) : Ct l E (d + 1) yX5_holds m_5_holds [.ref a0, .int a1, .ref a2] μ Q := by
  refine Ct_of (lv := [some (.ref a0), some (.int a1), some (.ref a2), none, none, none, none]) (by decide) rfl (Nat.le_of_ble_eq_true rfl) rfl ?_
  unfold f_5_holds at h
  refine R_aload_n (dd dt_5_holds 0 rfl) 0 rfl rfl ?_
  refine R_iload_n (dd dt_5_holds 1 rfl) 1 rfl rfl ?_
  obtain ⟨x2, e1, h⟩ := bi_el h
  refine c_5_52 (As := [.int a1]) (st1 := [.int x2]) rfl (fun Q1 hq => ok_5_hasCond e1 k0 hq) k0 rfl rfl (Nat.le_of_ble_eq_true rfl) (dd dt_5_holds 2 rfl) rfl ?_
  refine R_ifne (dd dt_5_holds 3 rfl) (tgt := 10) rfl (fun hc => ?_) (fun hc => ?_)
  · rw [if_neg hc] at h
    refine R_iconst (v := 0) (dd dt_5_holds 6 rfl) ic_0 ?_
    refine R_istore_n (lv' := [some (.ref a0), some (.int a1), some (.ref a2), some (.int 0), none, none, none]) (dd dt_5_holds 7 rfl) 3 rfl (by decide) rfl rfl ?_
    refine R_aload_n (dd dt_5_holds 8 rfl) 0 rfl rfl ?_
    refine g_5_20 rfl k0 (dd dt_5_holds 9 rfl) ?_
    refine R_iload_n (dd dt_5_holds 10 rfl) 1 rfl rfl ?_
    obtain ⟨x3, e4, h⟩ := bi_el h
    refine R_ild e4 (ty_5_3 k0) (dd dt_5_holds 11 rfl) ?_
    refine R_istore (lv' := [some (.ref a0), some (.int a1), some (.ref a2), some (.int 0), some (.int x3), none, none]) (dd dt_5_holds 12 rfl) (by decide) rfl rfl ?_
    obtain ⟨z5, e6, h⟩ := bi_el h
    refine R_mask [true, true, true, true, true, false, false] rfl (ok_5_holds_l20 a0 a1 a2 μ k0 k2 FU 0 x3 _ e6 ?_)
    refine R_iload_n (dd dt_5_holds 79 rfl) 3 rfl rfl ?_
    refine R_iconst (v := 1) (dd dt_5_holds 80 rfl) ic_1 ?_
    refine R_iand (dd dt_5_holds 81 rfl) ?_
    refine R_iconst (v := 1) (dd dt_5_holds 82 rfl) ic_1 ?_
    refine R_cmpne (dd dt_5_holds 83 rfl) (tgt := 163) rfl (fun hc => ?_) (fun hc => ?_)
    · rw [if_neg hc] at h
      refine R_iconst (v := 0) (dd dt_5_holds 86 rfl) ic_0 ?_
      obtain rfl := Option.some.inj h
      exact R_zret rfl (by decide) (dd dt_5_holds 87 rfl) hQ
    · rw [if_pos hc] at h
      refine R_iconst (v := 1) (dd dt_5_holds 84 rfl) ic_1 ?_
      refine R_goto (dd dt_5_holds 85 rfl) (tgt := 164) rfl ?_
      obtain rfl := Option.some.inj h
      exact R_zret rfl (by decide) (dd dt_5_holds 87 rfl) hQ
  · rw [if_pos hc] at h
    refine R_iconst (v := 1) (dd dt_5_holds 4 rfl) ic_1 ?_
    obtain rfl := Option.some.inj h
    exact R_zret rfl (by decide) (dd dt_5_holds 5 rfl) hQ
/-! LongStrike$Rules.firstHolding(ILLongStrike$Household;)I -/
def tab_5_firstHolding : List (Nat × Instr × Nat) := [(0, .iconst 0, 1), (1, .istore_n 3, 1), (2, .iload_n 3, 1), (3, .aload_n 0, 1), (4, .getfield 7, 3), (7, .if_icmp .ge 30, 3), (10, .aload_n 0, 1), (11, .getfield 13, 3), (14, .iload_n 3, 1), (15, .iaload, 1), (16, .iload_n 1, 1), (17, .if_icmp .ne 14, 3), (20, .aload_n 0, 1), (21, .iload_n 3, 1), (22, .aload_n 2, 1), (23, .invokevirtual 40, 3), (26, .ifCond .eq 5, 3), (29, .iload_n 3, 1), (30, .ireturn, 1), (31, .iinc 3 1, 3), (34, .goto (-32), 3), (37, .iconst (-1), 1), (38, .ireturn, 1)]
set_option maxRecDepth 100000 in
theorem dt_5_firstHolding : ∀ q ∈ tab_5_firstHolding, decode m_5_firstHolding.2.1 q.1 = .ok q.2 := by decide +kernel
def f_5_firstHolding_l2 (a0 : Nat) (a1 : Int32) (a2 : Nat) (μ : mm) : Nat → Int32 → Option (Int32)
  | 0, _ => none
  | n + 1, v3 => if (μ a0 0) ≤ v3 then
      some (-1)
    else
      (ld μ (rf a0 1) v3).bind fun x1 =>
      if x1 = a1 then
        (f_5_holds a0 v3 a2 μ).bind fun x4 =>
        if x4 = 0 then
          f_5_firstHolding_l2 a0 a1 a2 μ n (v3 + 1)
        else
          some v3
      else
        f_5_firstHolding_l2 a0 a1 a2 μ n (v3 + 1)
set_option maxRecDepth 100000 in
theorem ok_5_firstHolding_l2 {l : Launch} {E : ce} {d : Nat} {Q : Option Value → mm → Prop} (a0 : Nat) (a1 : Int32) (a2 : Nat) (μ : mm) (k0 : kd a0 = 5) (k2 : kd a2 = 1) : ∀ (n : Nat) (v3 : Int32) (r : Int32), f_5_firstHolding_l2 a0 a1 a2 μ n v3 = some r → Q (some (.int r)) μ → Rj l E (d + 2) m_5_firstHolding 2 [some (.ref a0), some (.int a1), some (.ref a2), some (.int v3)] [] μ Q
  | 0, _, z, h, _ => by
    rw [f_5_firstHolding_l2] at h
    cases h
  | n + 1, v3, r, h, hQ => by
    rw [f_5_firstHolding_l2] at h
    refine R_iload_n (dd dt_5_firstHolding 2 rfl) 3 rfl rfl ?_
    refine R_aload_n (dd dt_5_firstHolding 3 rfl) 0 rfl rfl ?_
    refine g_5_7 rfl k0 (dd dt_5_firstHolding 4 rfl) ?_
    refine R_cmpge (dd dt_5_firstHolding 5 rfl) (tgt := 37) rfl (fun hc => ?_) (fun hc => ?_)
    · rw [if_pos hc] at h
      refine R_iconst (v := (-1)) (dd dt_5_firstHolding 21 rfl) ic_m1 ?_
      obtain rfl := Option.some.inj h
      exact R_iret rfl (dd dt_5_firstHolding 22 rfl) hQ
    · rw [if_neg hc] at h
      refine R_aload_n (dd dt_5_firstHolding 6 rfl) 0 rfl rfl ?_
      refine g_5_13 rfl k0 (dd dt_5_firstHolding 7 rfl) ?_
      refine R_iload_n (dd dt_5_firstHolding 8 rfl) 3 rfl rfl ?_
      obtain ⟨x1, e2, h⟩ := bi_el h
      refine R_ild e2 (ty_5_1 k0) (dd dt_5_firstHolding 9 rfl) ?_
      refine R_iload_n (dd dt_5_firstHolding 10 rfl) 1 rfl rfl ?_
      refine R_cmpne (dd dt_5_firstHolding 11 rfl) (tgt := 31) rfl (fun hc => ?_) (fun hc => ?_)
      · rw [if_neg hc] at h
        refine R_iinc (v := 1) (lv' := [some (.ref a0), some (.int a1), some (.ref a2), some (.int (v3 + 1))]) (dd dt_5_firstHolding 19 rfl) (by decide) rfl rfl ic_1 rfl ?_
        refine R_goto (dd dt_5_firstHolding 20 rfl) (tgt := 2) rfl ?_
        exact R_mask [true, true, true, true] rfl (ok_5_firstHolding_l2 a0 a1 a2 μ k0 k2 n (v3 + 1) _ h hQ)
      · rw [if_pos hc] at h
        refine R_aload_n (dd dt_5_firstHolding 12 rfl) 0 rfl rfl ?_
        refine R_iload_n (dd dt_5_firstHolding 13 rfl) 3 rfl rfl ?_
        refine R_aload_n (dd dt_5_firstHolding 14 rfl) 2 rfl rfl ?_
        obtain ⟨x4, e3, h⟩ := bi_el h
        refine c_5_40 (As := [.int v3, .ref a2]) (st1 := [.int x4]) rfl (fun Q1 hq => ok_5_holds e3 k0 k2 hq) k0 rfl rfl (Nat.le_of_ble_eq_true rfl) (dd dt_5_firstHolding 15 rfl) rfl ?_
        refine R_ifeq (dd dt_5_firstHolding 16 rfl) (tgt := 31) rfl (fun hc => ?_) (fun hc => ?_)
        · rw [if_pos hc] at h
          refine R_iinc (v := 1) (lv' := [some (.ref a0), some (.int a1), some (.ref a2), some (.int (v3 + 1))]) (dd dt_5_firstHolding 19 rfl) (by decide) rfl rfl ic_1 rfl ?_
          refine R_goto (dd dt_5_firstHolding 20 rfl) (tgt := 2) rfl ?_
          exact R_mask [true, true, true, true] rfl (ok_5_firstHolding_l2 a0 a1 a2 μ k0 k2 n (v3 + 1) _ h hQ)
        · rw [if_neg hc] at h
          refine R_iload_n (dd dt_5_firstHolding 17 rfl) 3 rfl rfl ?_
          obtain rfl := Option.some.inj h
          exact R_iret rfl (dd dt_5_firstHolding 18 rfl) hQ
def f_5_firstHolding (a0 : Nat) (a1 : Int32) (a2 : Nat) (μ : mm) : Option (Int32) :=
  f_5_firstHolding_l2 a0 a1 a2 μ FU 0
set_option maxRecDepth 100000 in
set_option maxHeartbeats 4000000 in
theorem ok_5_firstHolding {l : Launch} {E : ce} {d : Nat}  {a0 : Nat} {a1 : Int32} {a2 : Nat} {μ : mm} {r : Int32} {Q : Option Value → mm → Prop} (h : f_5_firstHolding a0 a1 a2 μ = some r) (k0 : kd a0 = 5) (k2 : kd a2 = 1) (hQ : Q (some (.int r)) μ) : Ct l E (d + 2) yX5_firstHolding m_5_firstHolding [.ref a0, .int a1, .ref a2] μ Q := by
  refine Ct_of (lv := [some (.ref a0), some (.int a1), some (.ref a2), none]) (by decide) rfl (Nat.le_of_ble_eq_true rfl) rfl ?_
  unfold f_5_firstHolding at h
  refine R_iconst (v := 0) (dd dt_5_firstHolding 0 rfl) ic_0 ?_
  refine R_istore_n (lv' := [some (.ref a0), some (.int a1), some (.ref a2), some (.int 0)]) (dd dt_5_firstHolding 1 rfl) 3 rfl (by decide) rfl rfl ?_
  exact R_mask [true, true, true, true] rfl (ok_5_firstHolding_l2 a0 a1 a2 μ k0 k2 FU 0 _ h hQ)
/-! LongStrike$Rules.numberFor(ILLongStrike$Household;I)I -/
def tab_5_numberFor : List (Nat × Instr × Nat) := [(0, .aload_n 0, 1), (1, .iload_n 1, 1), (2, .aload_n 2, 1), (3, .invokevirtual 48, 3), (6, .istore 4, 2), (8, .iload 4, 2), (10, .iconst (-1), 1), (11, .if_icmp .ne 7, 3), (14, .iload_n 3, 1), (15, .goto 10, 3), (18, .aload_n 0, 1), (19, .getfield 17, 3), (22, .iload 4, 2), (24, .iaload, 1), (25, .ireturn, 1)]
set_option maxRecDepth 100000 in
theorem dt_5_numberFor : ∀ q ∈ tab_5_numberFor, decode m_5_numberFor.2.1 q.1 = .ok q.2 := by decide +kernel
def f_5_numberFor (a0 : Nat) (a1 : Int32) (a2 : Nat) (a3 : Int32) (μ : mm) : Option (Int32) :=
  (f_5_firstHolding a0 a1 a2 μ).bind fun x2 =>
  if x2 = (-1) then
    some a3
  else
    (ld μ (rf a0 2) x2).bind fun x3 =>
    some x3
set_option maxRecDepth 100000 in
set_option maxHeartbeats 4000000 in
theorem ok_5_numberFor {l : Launch} {E : ce} {d : Nat}  {a0 : Nat} {a1 : Int32} {a2 : Nat} {a3 : Int32} {μ : mm} {r : Int32} {Q : Option Value → mm → Prop} (h : f_5_numberFor a0 a1 a2 a3 μ = some r) (k0 : kd a0 = 5) (k2 : kd a2 = 1) (hQ : Q (some (.int r)) μ) : Ct l E (d + 3) yX5_numberFor m_5_numberFor [.ref a0, .int a1, .ref a2, .int a3] μ Q := by
  refine Ct_of (lv := [some (.ref a0), some (.int a1), some (.ref a2), some (.int a3), none]) (by decide) rfl (Nat.le_of_ble_eq_true rfl) rfl ?_
  unfold f_5_numberFor at h
  refine R_aload_n (dd dt_5_numberFor 0 rfl) 0 rfl rfl ?_
  refine R_iload_n (dd dt_5_numberFor 1 rfl) 1 rfl rfl ?_
  refine R_aload_n (dd dt_5_numberFor 2 rfl) 2 rfl rfl ?_
  obtain ⟨x2, e1, h⟩ := bi_el h
  refine c_5_48 (As := [.int a1, .ref a2]) (st1 := [.int x2]) rfl (fun Q1 hq => ok_5_firstHolding e1 k0 k2 hq) k0 rfl rfl (Nat.le_of_ble_eq_true rfl) (dd dt_5_numberFor 3 rfl) rfl ?_
  refine R_istore (lv' := [some (.ref a0), some (.int a1), some (.ref a2), some (.int a3), some (.int x2)]) (dd dt_5_numberFor 4 rfl) (by decide) rfl rfl ?_
  refine R_iload (dd dt_5_numberFor 5 rfl) rfl ?_
  refine R_iconst (v := (-1)) (dd dt_5_numberFor 6 rfl) ic_m1 ?_
  refine R_cmpne (dd dt_5_numberFor 7 rfl) (tgt := 18) rfl (fun hc => ?_) (fun hc => ?_)
  · rw [if_neg hc] at h
    refine R_aload_n (dd dt_5_numberFor 10 rfl) 0 rfl rfl ?_
    refine g_5_17 rfl k0 (dd dt_5_numberFor 11 rfl) ?_
    refine R_iload (dd dt_5_numberFor 12 rfl) rfl ?_
    obtain ⟨x3, e4, h⟩ := bi_el h
    refine R_ild e4 (ty_5_2 k0) (dd dt_5_numberFor 13 rfl) ?_
    obtain rfl := Option.some.inj h
    exact R_iret rfl (dd dt_5_numberFor 14 rfl) hQ
  · rw [if_pos hc] at h
    refine R_iload_n (dd dt_5_numberFor 8 rfl) 3 rfl rfl ?_
    refine R_goto (dd dt_5_numberFor 9 rfl) (tgt := 25) rfl ?_
    obtain rfl := Option.some.inj h
    exact R_iret rfl (dd dt_5_numberFor 14 rfl) hQ
/-! LongStrike$Valley.drawByRank(II)I -/
def tab_9_drawByRank : List (Nat × Instr × Nat) := [(0, .iconst 0, 1), (1, .istore_n 3, 1), (2, .iconst 0, 1), (3, .istore 4, 2), (5, .iload 4, 2), (7, .aload_n 0, 1), (8, .getfield 24, 3), (11, .if_icmp .ge 30, 3), (14, .aload_n 0, 1), (15, .getfield 98, 3), (18, .iload 4, 2), (20, .iaload, 1), (21, .iload_n 1, 1), (22, .if_icmp .ne 13, 3), (25, .iload_n 3, 1), (26, .aload_n 0, 1), (27, .getfield 95, 3), (30, .iload 4, 2), (32, .iaload, 1), (33, .iadd, 1), (34, .istore_n 3, 1), (35, .iinc 4 1, 3), (38, .goto (-33), 3), (41, .iload_n 3, 1), (42, .ifCond .ne 5, 3), (45, .iconst 0, 1), (46, .ireturn, 1), (47, .iload_n 3, 1), (48, .iload_n 2, 1), (49, .invokestatic 162, 3), (52, .istore 4, 2), (54, .iload 4, 2), (56, .istore 5, 2), (58, .iconst 0, 1), (59, .istore 6, 2), (61, .iload 6, 2), (63, .aload_n 0, 1), (64, .getfield 24, 3), (67, .if_icmp .ge 51, 3), (70, .aload_n 0, 1), (71, .getfield 98, 3), (74, .iload 6, 2), (76, .iaload, 1), (77, .iload_n 1, 1), (78, .if_icmp .ne 34, 3), (81, .aload_n 0, 1), (82, .getfield 91, 3), (85, .iload 6, 2), (87, .iload 4, 2), (89, .aload_n 0, 1), (90, .getfield 95, 3), (93, .iload 6, 2), (95, .iaload, 1), (96, .imul, 1), (97, .iload_n 3, 1), (98, .idiv, 1), (99, .iastore, 1), (100, .iload 5, 2), (102, .aload_n 0, 1), (103, .getfield 91, 3), (106, .iload 6, 2), (108, .iaload, 1), (109, .isub, 1), (110, .istore 5, 2), (112, .iinc 6 1, 3), (115, .goto (-54), 3), (118, .iconst 0, 1), (119, .istore 6, 2), (121, .iload 6, 2), (123, .aload_n 0, 1), (124, .getfield 24, 3), (127, .if_icmp .ge 56, 3), (130, .iload 5, 2), (132, .ifCond .le 51, 3), (135, .aload_n 0, 1), (136, .getfield 98, 3), (139, .iload 6, 2), (141, .iaload, 1), (142, .iload_n 1, 1), (143, .if_icmp .ne 34, 3), (146, .aload_n 0, 1), (147, .getfield 91, 3), (150, .iload 6, 2), (152, .iaload, 1), (153, .aload_n 0, 1), (154, .getfield 95, 3), (157, .iload 6, 2), (159, .iaload, 1), (160, .if_icmp .ge 17, 3), (163, .aload_n 0, 1), (164, .getfield 91, 3), (167, .iload 6, 2), (169, .dup2, 1), (170, .iaload, 1), (171, .iconst 1, 1), (172, .iadd, 1), (173, .iastore, 1), (174, .iinc 5 (-1), 3), (177, .iinc 6 1, 3), (180, .goto (-59), 3), (183, .iload 4, 2), (185, .ireturn, 1)]
set_option maxRecDepth 100000 in
theorem dt_9_drawByRank : ∀ q ∈ tab_9_drawByRank, decode m_9_drawByRank.2.1 q.1 = .ok q.2 := by decide +kernel
def f_9_drawByRank_l5 (a0 : Nat) (a1 : Int32) (a2 : Int32) (μ : mm) : Nat → Int32 → Int32 → Option (Int32)
  | 0, _, _ => none
  | n + 1, v3, v4 => if (μ a0 4) ≤ v4 then
      some v3
    else
      (ld μ (rf a0 18) v4).bind fun x1 =>
      if x1 = a1 then
        (ld μ (rf a0 17) v4).bind fun x3 =>
        f_9_drawByRank_l5 a0 a1 a2 μ n (v3 + x3) (v4 + 1)
      else
        f_9_drawByRank_l5 a0 a1 a2 μ n v3 (v4 + 1)
set_option maxRecDepth 100000 in
theorem ok_9_drawByRank_l5 {l : Launch} {E : ce} {d : Nat} {Q : Option Value → mm → Prop} (a0 : Nat) (a1 : Int32) (a2 : Int32) (μ : mm) (k0 : kd a0 = 9) : ∀ (n : Nat) (v3 : Int32) (v4 : Int32) (z : Int32), f_9_drawByRank_l5 a0 a1 a2 μ n v3 v4 = some z → Rj l E d m_9_drawByRank 41 [some (.ref a0), some (.int a1), some (.int a2), some (.int z), none, none, none] [] μ Q → Rj l E d m_9_drawByRank 5 [some (.ref a0), some (.int a1), some (.int a2), some (.int v3), some (.int v4), none, none] [] μ Q
  | 0, _, _, z, h, _ => by
    rw [f_9_drawByRank_l5] at h
    cases h
  | n + 1, v3, v4, z, h, KX => by
    rw [f_9_drawByRank_l5] at h
    refine R_iload (dd dt_9_drawByRank 4 rfl) rfl ?_
    refine R_aload_n (dd dt_9_drawByRank 5 rfl) 0 rfl rfl ?_
    refine g_9_24 rfl k0 (dd dt_9_drawByRank 6 rfl) ?_
    refine R_cmpge (dd dt_9_drawByRank 7 rfl) (tgt := 41) rfl (fun hc => ?_) (fun hc => ?_)
    · rw [if_pos hc] at h
      obtain rfl := Option.some.inj h
      exact R_mask [true, true, true, true, false, false, false] rfl KX
    · rw [if_neg hc] at h
      refine R_aload_n (dd dt_9_drawByRank 8 rfl) 0 rfl rfl ?_
      refine g_9_98 rfl k0 (dd dt_9_drawByRank 9 rfl) ?_
      refine R_iload (dd dt_9_drawByRank 10 rfl) rfl ?_
      obtain ⟨x1, e2, h⟩ := bi_el h
      refine R_ild e2 (ty_9_18 k0) (dd dt_9_drawByRank 11 rfl) ?_
      refine R_iload_n (dd dt_9_drawByRank 12 rfl) 1 rfl rfl ?_
      refine R_cmpne (dd dt_9_drawByRank 13 rfl) (tgt := 35) rfl (fun hc => ?_) (fun hc => ?_)
      · rw [if_neg hc] at h
        refine R_iinc (v := 1) (lv' := [some (.ref a0), some (.int a1), some (.int a2), some (.int v3), some (.int (v4 + 1)), none, none]) (dd dt_9_drawByRank 21 rfl) (by decide) rfl rfl ic_1 rfl ?_
        refine R_goto (dd dt_9_drawByRank 22 rfl) (tgt := 5) rfl ?_
        exact R_mask [true, true, true, true, true, false, false] rfl (ok_9_drawByRank_l5 a0 a1 a2 μ k0 n v3 (v4 + 1) _ h KX)
      · rw [if_pos hc] at h
        refine R_iload_n (dd dt_9_drawByRank 14 rfl) 3 rfl rfl ?_
        refine R_aload_n (dd dt_9_drawByRank 15 rfl) 0 rfl rfl ?_
        refine g_9_95 rfl k0 (dd dt_9_drawByRank 16 rfl) ?_
        refine R_iload (dd dt_9_drawByRank 17 rfl) rfl ?_
        obtain ⟨x3, e4, h⟩ := bi_el h
        refine R_ild e4 (ty_9_17 k0) (dd dt_9_drawByRank 18 rfl) ?_
        refine R_iadd (dd dt_9_drawByRank 19 rfl) ?_
        refine R_istore_n (lv' := [some (.ref a0), some (.int a1), some (.int a2), some (.int (v3 + x3)), some (.int v4), none, none]) (dd dt_9_drawByRank 20 rfl) 3 rfl (by decide) rfl rfl ?_
        refine R_iinc (v := 1) (lv' := [some (.ref a0), some (.int a1), some (.int a2), some (.int (v3 + x3)), some (.int (v4 + 1)), none, none]) (dd dt_9_drawByRank 21 rfl) (by decide) rfl rfl ic_1 rfl ?_
        refine R_goto (dd dt_9_drawByRank 22 rfl) (tgt := 5) rfl ?_
        exact R_mask [true, true, true, true, true, false, false] rfl (ok_9_drawByRank_l5 a0 a1 a2 μ k0 n (v3 + x3) (v4 + 1) _ h KX)
def f_9_drawByRank_l61 (a0 : Nat) (a1 : Int32) (a3 : Int32) (a4 : Int32) : Nat → Int32 → Int32 → mm → Option (Int32 × mm)
  | 0, _, _, _ => none
  | n + 1, v5, v6, μ => if (μ a0 4) ≤ v6 then
      some (v5, μ)
    else
      (ld μ (rf a0 18) v6).bind fun x1 =>
      if x1 = a1 then
        (ld μ (rf a0 17) v6).bind fun x3 =>
        (gd a3).bind fun _ =>
        (sto μ (rf a0 16) v6 ((a4 * x3) / a3)).bind fun μ6 =>
        (ld μ6 (rf a0 16) v6).bind fun x8 =>
        f_9_drawByRank_l61 a0 a1 a3 a4 n (v5 - x8) (v6 + 1) μ6
      else
        f_9_drawByRank_l61 a0 a1 a3 a4 n v5 (v6 + 1) μ
set_option maxRecDepth 100000 in
theorem ok_9_drawByRank_l61 {l : Launch} {E : ce} {d : Nat} {Q : Option Value → mm → Prop} (a0 : Nat) (a1 : Int32) (a3 : Int32) (a4 : Int32) (k0 : kd a0 = 9) : ∀ (n : Nat) (v5 : Int32) (v6 : Int32) (μ : mm) (z : Int32 × mm), f_9_drawByRank_l61 a0 a1 a3 a4 n v5 v6 μ = some z → Rj l E d m_9_drawByRank 118 [some (.ref a0), some (.int a1), none, none, some (.int a4), some (.int z.1), none] [] z.2 Q → Rj l E d m_9_drawByRank 61 [some (.ref a0), some (.int a1), none, some (.int a3), some (.int a4), some (.int v5), some (.int v6)] [] μ Q
  | 0, _, _, _, z, h, _ => by
    rw [f_9_drawByRank_l61] at h
    cases h
  | n + 1, v5, v6, μ, z, h, KX => by
    rw [f_9_drawByRank_l61] at h
    refine R_iload (dd dt_9_drawByRank 35 rfl) rfl ?_
    refine R_aload_n (dd dt_9_drawByRank 36 rfl) 0 rfl rfl ?_
    refine g_9_24 rfl k0 (dd dt_9_drawByRank 37 rfl) ?_
    refine R_cmpge (dd dt_9_drawByRank 38 rfl) (tgt := 118) rfl (fun hc => ?_) (fun hc => ?_)
    · rw [if_pos hc] at h
      obtain rfl := Option.some.inj h
      exact R_mask [true, true, false, false, true, true, false] rfl KX
    · rw [if_neg hc] at h
      refine R_aload_n (dd dt_9_drawByRank 39 rfl) 0 rfl rfl ?_
      refine g_9_98 rfl k0 (dd dt_9_drawByRank 40 rfl) ?_
      refine R_iload (dd dt_9_drawByRank 41 rfl) rfl ?_
      obtain ⟨x1, e2, h⟩ := bi_el h
      refine R_ild e2 (ty_9_18 k0) (dd dt_9_drawByRank 42 rfl) ?_
      refine R_iload_n (dd dt_9_drawByRank 43 rfl) 1 rfl rfl ?_
      refine R_cmpne (dd dt_9_drawByRank 44 rfl) (tgt := 112) rfl (fun hc => ?_) (fun hc => ?_)
      · rw [if_neg hc] at h
        refine R_iinc (v := 1) (lv' := [some (.ref a0), some (.int a1), none, some (.int a3), some (.int a4), some (.int v5), some (.int (v6 + 1))]) (dd dt_9_drawByRank 64 rfl) (by decide) rfl rfl ic_1 rfl ?_
        refine R_goto (dd dt_9_drawByRank 65 rfl) (tgt := 61) rfl ?_
        exact R_mask [true, true, false, true, true, true, true] rfl (ok_9_drawByRank_l61 a0 a1 a3 a4 k0 n v5 (v6 + 1) μ _ h KX)
      · rw [if_pos hc] at h
        refine R_aload_n (dd dt_9_drawByRank 45 rfl) 0 rfl rfl ?_
        refine g_9_91 rfl k0 (dd dt_9_drawByRank 46 rfl) ?_
        refine R_iload (dd dt_9_drawByRank 47 rfl) rfl ?_
        refine R_iload (dd dt_9_drawByRank 48 rfl) rfl ?_
        refine R_aload_n (dd dt_9_drawByRank 49 rfl) 0 rfl rfl ?_
        refine g_9_95 rfl k0 (dd dt_9_drawByRank 50 rfl) ?_
        refine R_iload (dd dt_9_drawByRank 51 rfl) rfl ?_
        obtain ⟨x3, e4, h⟩ := bi_el h
        refine R_ild e4 (ty_9_17 k0) (dd dt_9_drawByRank 52 rfl) ?_
        refine R_imul (dd dt_9_drawByRank 53 rfl) ?_
        refine R_iload_n (dd dt_9_drawByRank 54 rfl) 3 rfl rfl ?_
        obtain ⟨_, q5, h⟩ := bi_el h
        refine R_idiv (dd dt_9_drawByRank 55 rfl) (gd_el q5).1 ?_
        obtain ⟨μ6, e7, h⟩ := bi_el h
        refine R_isto e7 (ty_9_16 k0) (dd dt_9_drawByRank 56 rfl) ?_
        refine R_iload (dd dt_9_drawByRank 57 rfl) rfl ?_
        refine R_aload_n (dd dt_9_drawByRank 58 rfl) 0 rfl rfl ?_
        refine g_9_91 rfl k0 (dd dt_9_drawByRank 59 rfl) ?_
        refine R_iload (dd dt_9_drawByRank 60 rfl) rfl ?_
        obtain ⟨x8, e9, h⟩ := bi_el h
        refine R_ild e9 (ty_9_16 k0) (dd dt_9_drawByRank 61 rfl) ?_
        refine R_isub (dd dt_9_drawByRank 62 rfl) ?_
        refine R_istore (lv' := [some (.ref a0), some (.int a1), none, some (.int a3), some (.int a4), some (.int (v5 - x8)), some (.int v6)]) (dd dt_9_drawByRank 63 rfl) (by decide) rfl rfl ?_
        refine R_iinc (v := 1) (lv' := [some (.ref a0), some (.int a1), none, some (.int a3), some (.int a4), some (.int (v5 - x8)), some (.int (v6 + 1))]) (dd dt_9_drawByRank 64 rfl) (by decide) rfl rfl ic_1 rfl ?_
        refine R_goto (dd dt_9_drawByRank 65 rfl) (tgt := 61) rfl ?_
        exact R_mask [true, true, false, true, true, true, true] rfl (ok_9_drawByRank_l61 a0 a1 a3 a4 k0 n (v5 - x8) (v6 + 1) μ6 _ h KX)
def f_9_drawByRank_l121 (a0 : Nat) (a1 : Int32) (a4 : Int32) : Nat → Int32 → Int32 → mm → Option (mm)
  | 0, _, _, _ => none
  | n + 1, v5, v6, μ => if (μ a0 4) ≤ v6 then
      some μ
    else
      if v5 ≤ 0 then
        some μ
      else
        (ld μ (rf a0 18) v6).bind fun x1 =>
        if x1 = a1 then
          (ld μ (rf a0 16) v6).bind fun x3 =>
          (ld μ (rf a0 17) v6).bind fun x5 =>
          if x5 ≤ x3 then
            f_9_drawByRank_l121 a0 a1 a4 n v5 (v6 + 1) μ
          else
            (ld μ (rf a0 16) v6).bind fun x7 =>
            (sto μ (rf a0 16) v6 (x7 + 1)).bind fun μ9 =>
            f_9_drawByRank_l121 a0 a1 a4 n (v5 + (-1)) (v6 + 1) μ9
        else
          f_9_drawByRank_l121 a0 a1 a4 n v5 (v6 + 1) μ
set_option maxRecDepth 100000 in
theorem ok_9_drawByRank_l121 {l : Launch} {E : ce} {d : Nat} {Q : Option Value → mm → Prop} (a0 : Nat) (a1 : Int32) (a4 : Int32) (k0 : kd a0 = 9) : ∀ (n : Nat) (v5 : Int32) (v6 : Int32) (μ : mm) (z : mm), f_9_drawByRank_l121 a0 a1 a4 n v5 v6 μ = some z → Rj l E d m_9_drawByRank 183 [none, none, none, none, some (.int a4), none, none] [] z Q → Rj l E d m_9_drawByRank 121 [some (.ref a0), some (.int a1), none, none, some (.int a4), some (.int v5), some (.int v6)] [] μ Q
  | 0, _, _, _, z, h, _ => by
    rw [f_9_drawByRank_l121] at h
    cases h
  | n + 1, v5, v6, μ, z, h, KX => by
    rw [f_9_drawByRank_l121] at h
    refine R_iload (dd dt_9_drawByRank 68 rfl) rfl ?_
    refine R_aload_n (dd dt_9_drawByRank 69 rfl) 0 rfl rfl ?_
    refine g_9_24 rfl k0 (dd dt_9_drawByRank 70 rfl) ?_
    refine R_cmpge (dd dt_9_drawByRank 71 rfl) (tgt := 183) rfl (fun hc => ?_) (fun hc => ?_)
    · rw [if_pos hc] at h
      obtain rfl := Option.some.inj h
      exact R_mask [false, false, false, false, true, false, false] rfl KX
    · rw [if_neg hc] at h
      refine R_iload (dd dt_9_drawByRank 72 rfl) rfl ?_
      refine R_ifle (dd dt_9_drawByRank 73 rfl) (tgt := 183) rfl (fun hc => ?_) (fun hc => ?_)
      · rw [if_pos hc] at h
        obtain rfl := Option.some.inj h
        exact R_mask [false, false, false, false, true, false, false] rfl KX
      · rw [if_neg hc] at h
        refine R_aload_n (dd dt_9_drawByRank 74 rfl) 0 rfl rfl ?_
        refine g_9_98 rfl k0 (dd dt_9_drawByRank 75 rfl) ?_
        refine R_iload (dd dt_9_drawByRank 76 rfl) rfl ?_
        obtain ⟨x1, e2, h⟩ := bi_el h
        refine R_ild e2 (ty_9_18 k0) (dd dt_9_drawByRank 77 rfl) ?_
        refine R_iload_n (dd dt_9_drawByRank 78 rfl) 1 rfl rfl ?_
        refine R_cmpne (dd dt_9_drawByRank 79 rfl) (tgt := 177) rfl (fun hc => ?_) (fun hc => ?_)
        · rw [if_neg hc] at h
          refine R_iinc (v := 1) (lv' := [some (.ref a0), some (.int a1), none, none, some (.int a4), some (.int v5), some (.int (v6 + 1))]) (dd dt_9_drawByRank 98 rfl) (by decide) rfl rfl ic_1 rfl ?_
          refine R_goto (dd dt_9_drawByRank 99 rfl) (tgt := 121) rfl ?_
          exact R_mask [true, true, false, false, true, true, true] rfl (ok_9_drawByRank_l121 a0 a1 a4 k0 n v5 (v6 + 1) μ _ h KX)
        · rw [if_pos hc] at h
          refine R_aload_n (dd dt_9_drawByRank 80 rfl) 0 rfl rfl ?_
          refine g_9_91 rfl k0 (dd dt_9_drawByRank 81 rfl) ?_
          refine R_iload (dd dt_9_drawByRank 82 rfl) rfl ?_
          obtain ⟨x3, e4, h⟩ := bi_el h
          refine R_ild e4 (ty_9_16 k0) (dd dt_9_drawByRank 83 rfl) ?_
          refine R_aload_n (dd dt_9_drawByRank 84 rfl) 0 rfl rfl ?_
          refine g_9_95 rfl k0 (dd dt_9_drawByRank 85 rfl) ?_
          refine R_iload (dd dt_9_drawByRank 86 rfl) rfl ?_
          obtain ⟨x5, e6, h⟩ := bi_el h
          refine R_ild e6 (ty_9_17 k0) (dd dt_9_drawByRank 87 rfl) ?_
          refine R_cmpge (dd dt_9_drawByRank 88 rfl) (tgt := 177) rfl (fun hc => ?_) (fun hc => ?_)
          · rw [if_pos hc] at h
            refine R_iinc (v := 1) (lv' := [some (.ref a0), some (.int a1), none, none, some (.int a4), some (.int v5), some (.int (v6 + 1))]) (dd dt_9_drawByRank 98 rfl) (by decide) rfl rfl ic_1 rfl ?_
            refine R_goto (dd dt_9_drawByRank 99 rfl) (tgt := 121) rfl ?_
            exact R_mask [true, true, false, false, true, true, true] rfl (ok_9_drawByRank_l121 a0 a1 a4 k0 n v5 (v6 + 1) μ _ h KX)
          · rw [if_neg hc] at h
            refine R_aload_n (dd dt_9_drawByRank 89 rfl) 0 rfl rfl ?_
            refine g_9_91 rfl k0 (dd dt_9_drawByRank 90 rfl) ?_
            refine R_iload (dd dt_9_drawByRank 91 rfl) rfl ?_
            refine R_dup2 (dd dt_9_drawByRank 92 rfl) rfl rfl ?_
            obtain ⟨x7, e8, h⟩ := bi_el h
            refine R_ild e8 (ty_9_16 k0) (dd dt_9_drawByRank 93 rfl) ?_
            refine R_iconst (v := 1) (dd dt_9_drawByRank 94 rfl) ic_1 ?_
            refine R_iadd (dd dt_9_drawByRank 95 rfl) ?_
            obtain ⟨μ9, e10, h⟩ := bi_el h
            refine R_isto e10 (ty_9_16 k0) (dd dt_9_drawByRank 96 rfl) ?_
            refine R_iinc (v := (-1)) (lv' := [some (.ref a0), some (.int a1), none, none, some (.int a4), some (.int (v5 + (-1))), some (.int v6)]) (dd dt_9_drawByRank 97 rfl) (by decide) rfl rfl ic_m1 rfl ?_
            refine R_iinc (v := 1) (lv' := [some (.ref a0), some (.int a1), none, none, some (.int a4), some (.int (v5 + (-1))), some (.int (v6 + 1))]) (dd dt_9_drawByRank 98 rfl) (by decide) rfl rfl ic_1 rfl ?_
            refine R_goto (dd dt_9_drawByRank 99 rfl) (tgt := 121) rfl ?_
            exact R_mask [true, true, false, false, true, true, true] rfl (ok_9_drawByRank_l121 a0 a1 a4 k0 n (v5 + (-1)) (v6 + 1) μ9 _ h KX)
def f_9_drawByRank (a0 : Nat) (a1 : Int32) (a2 : Int32) (μ : mm) : Option (Int32 × mm) :=
  (f_9_drawByRank_l5 a0 a1 a2 μ FU 0 0).bind fun z1 =>
  if z1 = 0 then
    some (0, μ)
  else
    (f_9_drawByRank_l61 a0 a1 z1 (mn z1 a2) FU (mn z1 a2) 0 μ).bind fun z3 =>
    (f_9_drawByRank_l121 a0 a1 (mn z1 a2) FU z3.1 0 z3.2).bind fun z5 =>
    some ((mn z1 a2), z5)
set_option maxRecDepth 100000 in
set_option maxHeartbeats 4000000 in
theorem ok_9_drawByRank {l : Launch} {E : ce} {d : Nat}  {a0 : Nat} {a1 : Int32} {a2 : Int32} {μ : mm} {r : Int32 × mm} {Q : Option Value → mm → Prop} (h : f_9_drawByRank a0 a1 a2 μ = some r) (k0 : kd a0 = 9) (hQ : Q (some (.int r.1)) r.2) : Ct l E d yX9_drawByRank m_9_drawByRank [.ref a0, .int a1, .int a2] μ Q := by
  refine Ct_of (lv := [some (.ref a0), some (.int a1), some (.int a2), none, none, none, none]) (by decide) rfl (Nat.le_of_ble_eq_true rfl) rfl ?_
  unfold f_9_drawByRank at h
  refine R_iconst (v := 0) (dd dt_9_drawByRank 0 rfl) ic_0 ?_
  refine R_istore_n (lv' := [some (.ref a0), some (.int a1), some (.int a2), some (.int 0), none, none, none]) (dd dt_9_drawByRank 1 rfl) 3 rfl (by decide) rfl rfl ?_
  refine R_iconst (v := 0) (dd dt_9_drawByRank 2 rfl) ic_0 ?_
  refine R_istore (lv' := [some (.ref a0), some (.int a1), some (.int a2), some (.int 0), some (.int 0), none, none]) (dd dt_9_drawByRank 3 rfl) (by decide) rfl rfl ?_
  obtain ⟨z1, e2, h⟩ := bi_el h
  refine R_mask [true, true, true, true, true, false, false] rfl (ok_9_drawByRank_l5 a0 a1 a2 μ k0 FU 0 0 _ e2 ?_)
  refine R_iload_n (dd dt_9_drawByRank 23 rfl) 3 rfl rfl ?_
  refine R_ifne (dd dt_9_drawByRank 24 rfl) (tgt := 47) rfl (fun hc => ?_) (fun hc => ?_)
  · rw [if_neg hc] at h
    refine R_iload_n (dd dt_9_drawByRank 27 rfl) 3 rfl rfl ?_
    refine R_iload_n (dd dt_9_drawByRank 28 rfl) 2 rfl rfl ?_
    refine R_mmin ml_9_162 (Nat.le_of_ble_eq_true rfl) (dd dt_9_drawByRank 29 rfl) ?_
    refine R_istore (lv' := [some (.ref a0), some (.int a1), some (.int a2), some (.int z1), some (.int (mn z1 a2)), none, none]) (dd dt_9_drawByRank 30 rfl) (by decide) rfl rfl ?_
    refine R_iload (dd dt_9_drawByRank 31 rfl) rfl ?_
    refine R_istore (lv' := [some (.ref a0), some (.int a1), some (.int a2), some (.int z1), some (.int (mn z1 a2)), some (.int (mn z1 a2)), none]) (dd dt_9_drawByRank 32 rfl) (by decide) rfl rfl ?_
    refine R_iconst (v := 0) (dd dt_9_drawByRank 33 rfl) ic_0 ?_
    refine R_istore (lv' := [some (.ref a0), some (.int a1), some (.int a2), some (.int z1), some (.int (mn z1 a2)), some (.int (mn z1 a2)), some (.int 0)]) (dd dt_9_drawByRank 34 rfl) (by decide) rfl rfl ?_
    obtain ⟨z3, e4, h⟩ := bi_el h
    refine R_mask [true, true, false, true, true, true, true] rfl (ok_9_drawByRank_l61 a0 a1 z1 (mn z1 a2) k0 FU (mn z1 a2) 0 μ _ e4 ?_)
    refine R_iconst (v := 0) (dd dt_9_drawByRank 66 rfl) ic_0 ?_
    refine R_istore (lv' := [some (.ref a0), some (.int a1), none, none, some (.int (mn z1 a2)), some (.int z3.1), some (.int 0)]) (dd dt_9_drawByRank 67 rfl) (by decide) rfl rfl ?_
    obtain ⟨z5, e6, h⟩ := bi_el h
    refine R_mask [true, true, false, false, true, true, true] rfl (ok_9_drawByRank_l121 a0 a1 (mn z1 a2) k0 FU z3.1 0 z3.2 _ e6 ?_)
    refine R_iload (dd dt_9_drawByRank 100 rfl) rfl ?_
    obtain rfl := Option.some.inj h
    exact R_iret rfl (dd dt_9_drawByRank 101 rfl) hQ
  · rw [if_pos hc] at h
    refine R_iconst (v := 0) (dd dt_9_drawByRank 25 rfl) ic_0 ?_
    obtain rfl := Option.some.inj h
    exact R_iret rfl (dd dt_9_drawByRank 26 rfl) hQ
