/-! the class and the model -/
def zm : mm := fun _ _ => 0
def lsm : mm := fl (fl (up (vm (vm (vm zm 49) 143) 237) 24 7 (-1)) 39 (-1)) 46 4
set_option maxHeartbeats 16000000 in
set_option maxRecDepth 100000 in
theorem c_11 {l : Launch} {E : ce} {d : Nat} : Cn l E (d + 2) yX11_init m_11_init [.ref 23] 1 [23] zm 307 7051 308 [23] lsm := by
  refine Cn_of (by decide) rfl (fun _ _ => rfl) (by decide) (Nat.le_of_ble_eq_true rfl) rfl ?_
  refine N_aload_n (dd dt_11_init 0 rfl) 0 rfl rfl ?_
  refine N_oinit (by decide) mi_11_1 oi_in oi_cd (dd dt_11_init 1 rfl) ?_
  refine N_aload_n (dd dt_11_init 2 rfl) 0 rfl rfl ?_
  refine N_new (ci := 9) (a := 49) (C1 := RX9) (T := TX9) (N := 19) (rc := 306) (rs := 7032) (by decide) tyX9 tyX9_ok rfl (by decide) iw_9 rfl (by decide) ci_11_7 ist_9 izt_9 rfl rfl (dd dt_11_init 3 rfl) ?_
  refine N_dup (dd dt_11_init 4 rfl) rfl ?_
  refine N_call (mc := 93) (ms := 1733) (rc := 213) (rs := 5299) (c_9_49 (fun b g1 g2 k => by rfl)) cal_9_init rfl rfl in_9_init mi_11_9 (by decide) rfl (by decide) (dd dt_11_init 5 rfl) ?_
  refine N_putR (C0 := RX11) (T := TX11) (N := 17) (k := 0) tyX11 tyX11_ok nmX11 rfl (by decide) iw_11 (by decide) rfl rfl rfl rfl rfl (fun _ => rfl) (fun _ => rfl) (by decide) (by decide) fl_11_10 rfl (by decide) rfl (dd dt_11_init 6 rfl) ?_
  refine N_aload_n (dd dt_11_init 7 rfl) 0 rfl rfl ?_
  refine N_new (ci := 9) (a := 143) (C1 := RX9) (T := TX9) (N := 19) (rc := 212) (rs := 5280) (by decide) tyX9 tyX9_ok rfl (by decide) iw_9 rfl (by decide) ci_11_7 ist_9 izt_9 rfl rfl (dd dt_11_init 8 rfl) ?_
  refine N_dup (dd dt_11_init 9 rfl) rfl ?_
  refine N_call (mc := 93) (ms := 1733) (rc := 119) (rs := 3547) (c_9_143 (fun b g1 g2 k => by rw [vm_ne (by omega) (by omega)]; rfl)) cal_9_init rfl rfl in_9_init mi_11_9 (by decide) rfl (by decide) (dd dt_11_init 10 rfl) ?_
  refine N_putR (C0 := RX11) (T := TX11) (N := 17) (k := 1) tyX11 tyX11_ok nmX11 rfl (by decide) iw_11 (by decide) rfl rfl rfl rfl rfl (fun _ => rfl) (fun _ => rfl) (by decide) (by decide) fl_11_16 rfl (by decide) rfl (dd dt_11_init 11 rfl) ?_
  refine N_aload_n (dd dt_11_init 12 rfl) 0 rfl rfl ?_
  refine N_new (ci := 9) (a := 237) (C1 := RX9) (T := TX9) (N := 19) (rc := 118) (rs := 3528) (by decide) tyX9 tyX9_ok rfl (by decide) iw_9 rfl (by decide) ci_11_7 ist_9 izt_9 rfl rfl (dd dt_11_init 13 rfl) ?_
  refine N_dup (dd dt_11_init 14 rfl) rfl ?_
  refine N_call (mc := 93) (ms := 1733) (rc := 25) (rs := 1795) (c_9_237 (fun b g1 g2 k => by rw [vm_ne (by omega) (by omega), vm_ne (by omega) (by omega)]; rfl)) cal_9_init rfl rfl in_9_init mi_11_9 (by decide) rfl (by decide) (dd dt_11_init 15 rfl) ?_
  refine N_putR (C0 := RX11) (T := TX11) (N := 17) (k := 2) tyX11 tyX11_ok nmX11 rfl (by decide) iw_11 (by decide) rfl rfl rfl rfl rfl (fun _ => rfl) (fun _ => rfl) (by decide) (by decide) fl_11_19 rfl (by decide) rfl (dd dt_11_init 16 rfl) ?_
  refine N_aload_n (dd dt_11_init 17 rfl) 0 rfl rfl ?_
  refine N_iconst (v := 0) (dd dt_11_init 18 rfl) (by decide) ?_
  refine N_put (C0 := RX11) (T := TX11) (N := 17) (k := 3) tyX11 tyX11_ok nmX11 rfl (by decide) iw_11 (by decide) rfl rfl rfl rfl rfl rfl fl_11_22 rfl (by decide) (up_id (by rw [vm_ne (by decide) (by decide), vm_ne (by decide) (by decide), vm_ne (by decide) (by decide)]; rfl)) (dd dt_11_init 19 rfl) ?_
  refine N_aload_n (dd dt_11_init 20 rfl) 0 rfl rfl ?_
  refine N_new (ci := 8) (a := 24) (C1 := RX8) (T := TX8) (N := 8) (rc := 24) (rs := 1787) (by decide) tyX8 tyX8_ok rfl (by decide) iw_8 rfl (by decide) ci_11_26 ist_8 izt_8 rfl rfl (dd dt_11_init 21 rfl) ?_
  refine N_dup (dd dt_11_init 22 rfl) rfl ?_
  refine N_callN (mc := 10) (ms := 1550) (rc := 14) (rs := 237) (c_8 (fun k => by rw [vm_ne (by decide) (by decide), vm_ne (by decide) (by decide), vm_ne (by decide) (by decide)]; rfl) (fun k => by rw [vm_ne (by decide) (by decide), vm_ne (by decide) (by decide), vm_ne (by decide) (by decide)]; rfl) (by decide)) cal_8_init rfl rfl in_8_init mi_11_28 (by decide) rfl (by decide) (dd dt_11_init 23 rfl) ?_
  refine N_putR (C0 := RX11) (T := TX11) (N := 17) (k := 4) tyX11 tyX11_ok nmX11 rfl (by decide) iw_11 (by decide) rfl rfl rfl rfl rfl (fun _ => rfl) (fun _ => rfl) (by decide) (by decide) fl_11_29 rfl (by decide) rfl (dd dt_11_init 24 rfl) ?_
  refine N_aload_n (dd dt_11_init 25 rfl) 0 rfl rfl ?_
  refine N_new (ci := 0) (a := 35) (C1 := RX0) (T := TX0) (N := 7) (rc := 13) (rs := 230) (by decide) tyX0 tyX0_ok rfl (by decide) iw_0 rfl (by decide) ci_11_33 ist_0 izt_0 rfl rfl (dd dt_11_init 26 rfl) ?_
  refine N_dup (dd dt_11_init 27 rfl) rfl ?_
  refine N_callN (mc := 1) (ms := 30) (rc := 12) (rs := 200) (c_0 (fun k => by rw [up_ne (by decide), vm_ne (by decide) (by decide), vm_ne (by decide) (by decide), vm_ne (by decide) (by decide)]; rfl) (by decide)) cal_0_init rfl rfl in_0_init mi_11_35 (by decide) rfl (by decide) (dd dt_11_init 28 rfl) ?_
  refine N_putR (C0 := RX11) (T := TX11) (N := 17) (k := 5) tyX11 tyX11_ok nmX11 rfl (by decide) iw_11 (by decide) rfl rfl rfl rfl rfl (fun _ => rfl) (fun _ => rfl) (by decide) (by decide) fl_11_36 rfl (by decide) rfl (dd dt_11_init 29 rfl) ?_
  refine N_aload_n (dd dt_11_init 30 rfl) 0 rfl rfl ?_
  refine N_bipush (v := 8) (dd dt_11_init 31 rfl) (by decide) ?_
  refine N_newa_int (a := 37) (N := 8) (rc := 11) (rs := 192) (by decide) aw_int rfl rfl rfl (by decide) (by decide) (by decide) (dd dt_11_init 32 rfl) ?_
  refine N_putR (C0 := RX11) (T := TX11) (N := 17) (k := 6) tyX11 tyX11_ok nmX11 rfl (by decide) iw_11 (by decide) rfl rfl rfl rfl rfl (fun _ => rfl) (fun _ => rfl) (by decide) (by decide) fl_11_40 rfl (by decide) rfl (dd dt_11_init 33 rfl) ?_
  refine N_aload_n (dd dt_11_init 34 rfl) 0 rfl rfl ?_
  refine N_bipush (v := 8) (dd dt_11_init 35 rfl) (by decide) ?_
  refine N_newa_int (a := 38) (N := 8) (rc := 10) (rs := 184) (by decide) aw_int rfl rfl rfl (by decide) (by decide) (by decide) (dd dt_11_init 36 rfl) ?_
  refine N_putR (C0 := RX11) (T := TX11) (N := 17) (k := 7) tyX11 tyX11_ok nmX11 rfl (by decide) iw_11 (by decide) rfl rfl rfl rfl rfl (fun _ => rfl) (fun _ => rfl) (by decide) (by decide) fl_11_44 rfl (by decide) rfl (dd dt_11_init 37 rfl) ?_
  refine N_aload_n (dd dt_11_init 38 rfl) 0 rfl rfl ?_
  refine N_iconst (v := 0) (dd dt_11_init 39 rfl) (by decide) ?_
  refine N_put (C0 := RX11) (T := TX11) (N := 17) (k := 8) tyX11 tyX11_ok nmX11 rfl (by decide) iw_11 (by decide) rfl rfl rfl rfl rfl rfl fl_11_47 rfl (by decide) (up_id (by rw [up_ne (by decide), vm_ne (by decide) (by decide), vm_ne (by decide) (by decide), vm_ne (by decide) (by decide)]; rfl)) (dd dt_11_init 40 rfl) ?_
  refine N_aload_n (dd dt_11_init 41 rfl) 0 rfl rfl ?_
  refine N_iconst (v := 0) (dd dt_11_init 42 rfl) (by decide) ?_
  refine N_put (C0 := RX11) (T := TX11) (N := 17) (k := 9) tyX11 tyX11_ok nmX11 rfl (by decide) iw_11 (by decide) rfl rfl rfl rfl rfl rfl fl_11_51 rfl (by decide) (up_id (by rw [up_ne (by decide), vm_ne (by decide) (by decide), vm_ne (by decide) (by decide), vm_ne (by decide) (by decide)]; rfl)) (dd dt_11_init 43 rfl) ?_
  refine N_aload_n (dd dt_11_init 44 rfl) 0 rfl rfl ?_
  refine N_iconst (v := 0) (dd dt_11_init 45 rfl) (by decide) ?_
  refine N_put (C0 := RX11) (T := TX11) (N := 17) (k := 10) tyX11 tyX11_ok nmX11 rfl (by decide) iw_11 (by decide) rfl rfl rfl rfl rfl rfl fl_11_54 rfl (by decide) (up_id (by rw [up_ne (by decide), vm_ne (by decide) (by decide), vm_ne (by decide) (by decide), vm_ne (by decide) (by decide)]; rfl)) (dd dt_11_init 46 rfl) ?_
  refine N_aload_n (dd dt_11_init 47 rfl) 0 rfl rfl ?_
  refine N_iconst (v := 4) (dd dt_11_init 48 rfl) (by decide) ?_
  refine N_newa_int (a := 39) (N := 4) (rc := 9) (rs := 180) (by decide) aw_int rfl rfl rfl (by decide) (by decide) (by decide) (dd dt_11_init 49 rfl) ?_
  refine N_putR (C0 := RX11) (T := TX11) (N := 17) (k := 11) tyX11 tyX11_ok nmX11 rfl (by decide) iw_11 (by decide) rfl rfl rfl rfl rfl (fun _ => rfl) (fun _ => rfl) (by decide) (by decide) fl_11_57 rfl (by decide) rfl (dd dt_11_init 50 rfl) ?_
  refine N_aload_n (dd dt_11_init 51 rfl) 0 rfl rfl ?_
  refine N_iconst (v := 4) (dd dt_11_init 52 rfl) (by decide) ?_
  refine N_newa_int (a := 40) (N := 4) (rc := 8) (rs := 176) (by decide) aw_int rfl rfl rfl (by decide) (by decide) (by decide) (dd dt_11_init 53 rfl) ?_
  refine N_putR (C0 := RX11) (T := TX11) (N := 17) (k := 12) tyX11 tyX11_ok nmX11 rfl (by decide) iw_11 (by decide) rfl rfl rfl rfl rfl (fun _ => rfl) (fun _ => rfl) (by decide) (by decide) fl_11_60 rfl (by decide) rfl (dd dt_11_init 54 rfl) ?_
  refine N_aload_n (dd dt_11_init 55 rfl) 0 rfl rfl ?_
  refine N_iconst (v := 4) (dd dt_11_init 56 rfl) (by decide) ?_
  refine N_bipush (v := 40) (dd dt_11_init 57 rfl) (by decide) ?_
  refine N_multi (a := 41) (N := 4) (L := 40) (rc := 3) (rs := 12) (by decide) (by decide) ci_11_63 aw_int rfl rfl rfl (by decide) (by decide) (by decide) (by decide) (by decide) (by decide) (dd dt_11_init 58 rfl) ?_
  refine N_putR (C0 := RX11) (T := TX11) (N := 17) (k := 13) tyX11 tyX11_ok nmX11 rfl (by decide) iw_11 (by decide) rfl rfl rfl rfl rfl (fun _ => rfl) (fun _ => rfl) (by decide) (by decide) fl_11_65 rfl (by decide) rfl (dd dt_11_init 59 rfl) ?_
  refine N_aload_n (dd dt_11_init 60 rfl) 0 rfl rfl ?_
  refine N_iconst (v := 4) (dd dt_11_init 61 rfl) (by decide) ?_
  refine N_newa_int (a := 46) (N := 4) (rc := 2) (rs := 8) (by decide) aw_int rfl rfl rfl (by decide) (by decide) (by decide) (dd dt_11_init 62 rfl) ?_
  refine N_putR (C0 := RX11) (T := TX11) (N := 17) (k := 14) tyX11 tyX11_ok nmX11 rfl (by decide) iw_11 (by decide) rfl rfl rfl rfl rfl (fun _ => rfl) (fun _ => rfl) (by decide) (by decide) fl_11_68 rfl (by decide) rfl (dd dt_11_init 63 rfl) ?_
  refine N_aload_n (dd dt_11_init 64 rfl) 0 rfl rfl ?_
  refine N_iconst (v := 4) (dd dt_11_init 65 rfl) (by decide) ?_
  refine N_newa_int (a := 47) (N := 4) (rc := 1) (rs := 4) (by decide) aw_int rfl rfl rfl (by decide) (by decide) (by decide) (dd dt_11_init 66 rfl) ?_
  refine N_putR (C0 := RX11) (T := TX11) (N := 17) (k := 15) tyX11 tyX11_ok nmX11 rfl (by decide) iw_11 (by decide) rfl rfl rfl rfl rfl (fun _ => rfl) (fun _ => rfl) (by decide) (by decide) fl_11_71 rfl (by decide) rfl (dd dt_11_init 67 rfl) ?_
  refine N_aload_n (dd dt_11_init 68 rfl) 0 rfl rfl ?_
  refine N_iconst (v := 4) (dd dt_11_init 69 rfl) (by decide) ?_
  refine N_newa_int (a := 48) (N := 4) (rc := 0) (rs := 0) (by decide) aw_int rfl rfl rfl (by decide) (by decide) (by decide) (dd dt_11_init 70 rfl) ?_
  refine N_putR (C0 := RX11) (T := TX11) (N := 17) (k := 16) tyX11 tyX11_ok nmX11 rfl (by decide) iw_11 (by decide) rfl rfl rfl rfl rfl (fun _ => rfl) (fun _ => rfl) (by decide) (by decide) fl_11_74 rfl (by decide) rfl (dd dt_11_init 71 rfl) ?_
  refine N_aload_n (dd dt_11_init 72 rfl) 0 rfl rfl ?_
  refine N_getR (C0 := RX11) (T := TX11) (N := 17) (k := 11) (b := 39) rfl (by decide) iw_11 (by decide) rfl rfl fl_11_57 rfl (by decide) rfl (by decide) (dd dt_11_init 73 rfl) ?_
  refine N_iconst (v := (-1)) (dd dt_11_init 74 rfl) (by decide) ?_
  refine N_callS (c_fill rfl (by decide) (by decide) (by decide)) cal_J7_fill rfl sc_J7_fill ml_11_77 (by decide) (by decide) (dd dt_11_init 75 rfl) ?_
  refine N_aload_n (dd dt_11_init 76 rfl) 0 rfl rfl ?_
  refine N_getR (C0 := RX11) (T := TX11) (N := 17) (k := 14) (b := 46) rfl (by decide) iw_11 (by decide) rfl rfl fl_11_68 rfl (by decide) rfl (by decide) (dd dt_11_init 77 rfl) ?_
  refine N_iconst (v := 4) (dd dt_11_init 78 rfl) (by decide) ?_
  refine N_callS (c_fill rfl (by decide) (by decide) (by decide)) cal_J7_fill rfl sc_J7_fill ml_11_77 (by decide) (by decide) (dd dt_11_init 79 rfl) ?_
  exact N_vret rfl rfl rfl rfl (by decide) (dd dt_11_init 80 rfl)
def nowk (m : mm) : Nat → mm
  | 0 => m
  | i + 1 => up (nowk m i) 1 (20 + i) (if i % 7 = 0 then 0 else 1)
def sor (m : mm) : mm := up (up (up (up m 16 0 (-1)) 16 1 (-1)) 16 2 (-1)) 16 3 (-1)
def mdm (m : mm) : mm := sor (nowk (up (up m 0 9 (-1)) 1 5 9) 36)
theorem mod7 : ∀ i, i < 36 → ((nI i - nI i / 7 * 7 = 0) ↔ i % 7 = 0) := by decide +kernel
theorem ix20 : ∀ i, i < 36 → ¬ ((20 + nI i : Int32) < 0 ∨ 912 ≤ (20 + nI i).toNatClampNeg) ∧ (20 + nI i).toNatClampNeg = 20 + i := by decide +kernel
set_option maxHeartbeats 4000000 in
set_option maxRecDepth 100000 in
theorem n_mod {l : Launch} {E : ce} {d : Nat} {m : mm} : ∀ (j i : Nat), i + j = 36 → Rn l E d m_12_init 196 [some (.ref 0), some (.int (nI i))] [] 331 [0, 23] (nowk m i) 0 0 (Qn E 331 [0, 23] (sor (nowk m 36))) := by
  intro j
  induction j with
  | zero =>
    intro i hi
    obtain rfl : i = 36 := by omega
    refine N_iload_n (dd dt_12_init 100 rfl) 1 rfl rfl ?_
    refine N_bipush (v := 36) (dd dt_12_init 101 rfl) (by decide) ?_
    refine N_cmpge (dd dt_12_init 102 rfl) (tgt := 229) rfl (fun _ => ?_) (fun q => absurd (by decide) q)
    refine N_iconst (v := 0) (dd dt_12_init 118 rfl) (by decide) ?_
    refine N_istore_n (lv' := [some (.ref 0), some (.int 0)]) (dd dt_12_init 119 rfl) 1 rfl (by decide) rfl rfl ?_
    refine N_iload_n (dd dt_12_init 120 rfl) 1 rfl rfl ?_
    refine N_iconst (v := 4) (dd dt_12_init 121 rfl) (by decide) ?_
    refine N_cmpge (dd dt_12_init 122 rfl) (tgt := 249) rfl (fun q => absurd q (by decide)) (fun _ => ?_)
    refine N_aload_n (dd dt_12_init 123 rfl) 0 rfl rfl ?_
    refine N_getR (C0 := RX12) (T := TX12) (N := 39) (k := 26) (b := 16) rfl (by decide) iw_12 (by decide) rfl rfl fl_12_59 rfl (by decide) rfl (by decide) (dd dt_12_init 124 rfl) ?_
    refine N_iload_n (dd dt_12_init 125 rfl) 1 rfl rfl ?_
    refine N_iconst (v := (-1)) (dd dt_12_init 126 rfl) (by decide) ?_
    refine N_isto (μ' := up _ 16 0 (-1)) (by decide) rfl (by decide) rfl (dd dt_12_init 127 rfl) ?_
    refine N_iinc (v := 1) (lv' := [some (.ref 0), some (.int 1)]) (dd dt_12_init 128 rfl) (by decide) rfl rfl ic_1 rfl ?_
    refine N_goto (dd dt_12_init 129 rfl) (tgt := 231) rfl ?_
    refine N_iload_n (dd dt_12_init 120 rfl) 1 rfl rfl ?_
    refine N_iconst (v := 4) (dd dt_12_init 121 rfl) (by decide) ?_
    refine N_cmpge (dd dt_12_init 122 rfl) (tgt := 249) rfl (fun q => absurd q (by decide)) (fun _ => ?_)
    refine N_aload_n (dd dt_12_init 123 rfl) 0 rfl rfl ?_
    refine N_getR (C0 := RX12) (T := TX12) (N := 39) (k := 26) (b := 16) rfl (by decide) iw_12 (by decide) rfl rfl fl_12_59 rfl (by decide) rfl (by decide) (dd dt_12_init 124 rfl) ?_
    refine N_iload_n (dd dt_12_init 125 rfl) 1 rfl rfl ?_
    refine N_iconst (v := (-1)) (dd dt_12_init 126 rfl) (by decide) ?_
    refine N_isto (μ' := up _ 16 1 (-1)) (by decide) rfl (by decide) rfl (dd dt_12_init 127 rfl) ?_
    refine N_iinc (v := 1) (lv' := [some (.ref 0), some (.int 2)]) (dd dt_12_init 128 rfl) (by decide) rfl rfl ic_1 rfl ?_
    refine N_goto (dd dt_12_init 129 rfl) (tgt := 231) rfl ?_
    refine N_iload_n (dd dt_12_init 120 rfl) 1 rfl rfl ?_
    refine N_iconst (v := 4) (dd dt_12_init 121 rfl) (by decide) ?_
    refine N_cmpge (dd dt_12_init 122 rfl) (tgt := 249) rfl (fun q => absurd q (by decide)) (fun _ => ?_)
    refine N_aload_n (dd dt_12_init 123 rfl) 0 rfl rfl ?_
    refine N_getR (C0 := RX12) (T := TX12) (N := 39) (k := 26) (b := 16) rfl (by decide) iw_12 (by decide) rfl rfl fl_12_59 rfl (by decide) rfl (by decide) (dd dt_12_init 124 rfl) ?_
    refine N_iload_n (dd dt_12_init 125 rfl) 1 rfl rfl ?_
    refine N_iconst (v := (-1)) (dd dt_12_init 126 rfl) (by decide) ?_
    refine N_isto (μ' := up _ 16 2 (-1)) (by decide) rfl (by decide) rfl (dd dt_12_init 127 rfl) ?_
    refine N_iinc (v := 1) (lv' := [some (.ref 0), some (.int 3)]) (dd dt_12_init 128 rfl) (by decide) rfl rfl ic_1 rfl ?_
    refine N_goto (dd dt_12_init 129 rfl) (tgt := 231) rfl ?_
    refine N_iload_n (dd dt_12_init 120 rfl) 1 rfl rfl ?_
    refine N_iconst (v := 4) (dd dt_12_init 121 rfl) (by decide) ?_
    refine N_cmpge (dd dt_12_init 122 rfl) (tgt := 249) rfl (fun q => absurd q (by decide)) (fun _ => ?_)
    refine N_aload_n (dd dt_12_init 123 rfl) 0 rfl rfl ?_
    refine N_getR (C0 := RX12) (T := TX12) (N := 39) (k := 26) (b := 16) rfl (by decide) iw_12 (by decide) rfl rfl fl_12_59 rfl (by decide) rfl (by decide) (dd dt_12_init 124 rfl) ?_
    refine N_iload_n (dd dt_12_init 125 rfl) 1 rfl rfl ?_
    refine N_iconst (v := (-1)) (dd dt_12_init 126 rfl) (by decide) ?_
    refine N_isto (μ' := up _ 16 3 (-1)) (by decide) rfl (by decide) rfl (dd dt_12_init 127 rfl) ?_
    refine N_iinc (v := 1) (lv' := [some (.ref 0), some (.int 4)]) (dd dt_12_init 128 rfl) (by decide) rfl rfl ic_1 rfl ?_
    refine N_goto (dd dt_12_init 129 rfl) (tgt := 231) rfl ?_
    refine N_iload_n (dd dt_12_init 120 rfl) 1 rfl rfl ?_
    refine N_iconst (v := 4) (dd dt_12_init 121 rfl) (by decide) ?_
    refine N_cmpge (dd dt_12_init 122 rfl) (tgt := 249) rfl (fun _ => ?_) (fun q => absurd (by decide) q)
    exact N_vret rfl rfl rfl rfl (by decide) (dd dt_12_init 130 rfl)
  | succ j ih =>
    intro i hi
    have hi36 : i < 36 := by omega
    refine N_iload_n (dd dt_12_init 100 rfl) 1 rfl rfl ?_
    refine N_bipush (v := 36) (dd dt_12_init 101 rfl) (by decide) ?_
    refine N_cmpge (dd dt_12_init 102 rfl) (tgt := 229) rfl (fun q => absurd q ?_) (fun _ => ?_)
    · show ¬ (nI 36 ≤ nI i)
      rw [Int32.le_iff_toInt_le, nI_toInt (by omega), nI_toInt (by omega)]
      omega
    · refine N_aload_n (dd dt_12_init 103 rfl) 0 rfl rfl ?_
      refine N_getR (C0 := RX12) (T := TX12) (N := 39) (k := 0) (b := 1) rfl (by decide) iw_12 (by decide) rfl rfl fl_12_9 rfl (by decide) rfl (by decide) (dd dt_12_init 104 rfl) ?_
      refine N_bipush (v := 20) (dd dt_12_init 105 rfl) (by decide) ?_
      refine N_iload_n (dd dt_12_init 106 rfl) 1 rfl rfl ?_
      refine N_iadd (dd dt_12_init 107 rfl) ?_
      refine N_iload_n (dd dt_12_init 108 rfl) 1 rfl rfl ?_
      refine N_bipush (v := 7) (dd dt_12_init 109 rfl) (by decide) ?_
      refine N_irem (dd dt_12_init 110 rfl) (by decide) ?_
      have tail : ∀ v : Int32, v = (if i % 7 = 0 then 0 else 1) → Rn l E d m_12_init 222 [some (.ref 0), some (.int (nI i))] [.int v, .int (20 + nI i), .ref 1] 331 [0, 23] (nowk m i) 0 0 (Qn E 331 [0, 23] (sor (nowk m 36))) := by
        intro v hv
        refine N_isto (μ' := nowk m (i + 1)) (ix20 i hi36).1 rfl (by decide) (by rw [(ix20 i hi36).2, hv]; rfl) (dd dt_12_init 115 rfl) ?_
        refine N_iinc (v := 1) (lv' := [some (.ref 0), some (.int (nI (i + 1)))]) (dd dt_12_init 116 rfl) (by decide) rfl rfl ic_1 (by rw [← nI_1 i]; rfl) ?_
        refine N_goto (dd dt_12_init 117 rfl) (tgt := 196) rfl ?_
        exact ih (i + 1) (by omega)
      refine N_ifne (dd dt_12_init 111 rfl) (tgt := 221) rfl (fun q => ?_) (fun q => ?_)
      · refine N_iconst (v := 1) (dd dt_12_init 114 rfl) (by decide) ?_
        exact tail 1 (by rw [if_neg (fun w => q ((mod7 i hi36).mpr w))])
      · refine N_iconst (v := 0) (dd dt_12_init 112 rfl) (by decide) ?_
        refine N_goto (dd dt_12_init 113 rfl) (tgt := 222) rfl ?_
        exact tail 0 (by rw [if_pos ((mod7 i hi36).mp q)])
set_option maxHeartbeats 16000000 in
set_option maxRecDepth 100000 in
theorem c_12 {l : Launch} {E : ce} {d : Nat} {m : mm} (hz : ∀ b, b < 23 → ∀ k, m b k = 0) : Cn l E d yX12_init m_12_init [.ref 0] 309 [0, 23] m 22 3758 331 [0, 23] (mdm m) := by
  refine Cn_of (by decide) rfl (fun _ _ => rfl) (by decide) (Nat.le_of_ble_eq_true rfl) rfl ?_
  refine N_aload_n (dd dt_12_init 0 rfl) 0 rfl rfl ?_
  refine N_oinit (by decide) mi_12_1 oi_in oi_cd (dd dt_12_init 1 rfl) ?_
  refine N_aload_n (dd dt_12_init 2 rfl) 0 rfl rfl ?_
  refine N_sipush (v := 912) (dd dt_12_init 3 rfl) (by decide) ?_
  refine N_newa_int (a := 1) (N := 912) (rc := 21) (rs := 2846) (by decide) aw_int rfl rfl rfl (by decide) (by decide) (by decide) (dd dt_12_init 4 rfl) ?_
  refine N_putR (C0 := RX12) (T := TX12) (N := 39) (k := 0) tyX12 tyX12_ok nmX12 rfl (by decide) iw_12 (by decide) rfl rfl rfl rfl rfl (fun _ => rfl) (fun _ => rfl) (by decide) (by decide) fl_12_9 rfl (by decide) rfl (dd dt_12_init 5 rfl) ?_
  refine N_aload_n (dd dt_12_init 6 rfl) 0 rfl rfl ?_
  refine N_sipush (v := 912) (dd dt_12_init 7 rfl) (by decide) ?_
  refine N_newa_int (a := 2) (N := 912) (rc := 20) (rs := 1934) (by decide) aw_int rfl rfl rfl (by decide) (by decide) (by decide) (dd dt_12_init 8 rfl) ?_
  refine N_putR (C0 := RX12) (T := TX12) (N := 39) (k := 1) tyX12 tyX12_ok nmX12 rfl (by decide) iw_12 (by decide) rfl rfl rfl rfl rfl (fun _ => rfl) (fun _ => rfl) (by decide) (by decide) fl_12_13 rfl (by decide) rfl (dd dt_12_init 9 rfl) ?_
  refine N_aload_n (dd dt_12_init 10 rfl) 0 rfl rfl ?_
  refine N_sipush (v := 912) (dd dt_12_init 11 rfl) (by decide) ?_
  refine N_newa_int (a := 3) (N := 912) (rc := 19) (rs := 1022) (by decide) aw_int rfl rfl rfl (by decide) (by decide) (by decide) (dd dt_12_init 12 rfl) ?_
  refine N_putR (C0 := RX12) (T := TX12) (N := 39) (k := 2) tyX12 tyX12_ok nmX12 rfl (by decide) iw_12 (by decide) rfl rfl rfl rfl rfl (fun _ => rfl) (fun _ => rfl) (by decide) (by decide) fl_12_16 rfl (by decide) rfl (dd dt_12_init 13 rfl) ?_
  refine N_aload_n (dd dt_12_init 14 rfl) 0 rfl rfl ?_
  refine N_sipush (v := 300) (dd dt_12_init 15 rfl) (by decide) ?_
  refine N_newa_int (a := 4) (N := 300) (rc := 18) (rs := 722) (by decide) aw_int rfl rfl rfl (by decide) (by decide) (by decide) (dd dt_12_init 16 rfl) ?_
  refine N_putR (C0 := RX12) (T := TX12) (N := 39) (k := 4) tyX12 tyX12_ok nmX12 rfl (by decide) iw_12 (by decide) rfl rfl rfl rfl rfl (fun _ => rfl) (fun _ => rfl) (by decide) (by decide) fl_12_19 rfl (by decide) rfl (dd dt_12_init 17 rfl) ?_
  refine N_aload_n (dd dt_12_init 18 rfl) 0 rfl rfl ?_
  refine N_bipush (v := 8) (dd dt_12_init 19 rfl) (by decide) ?_
  refine N_newa_int (a := 5) (N := 8) (rc := 17) (rs := 714) (by decide) aw_int rfl rfl rfl (by decide) (by decide) (by decide) (dd dt_12_init 20 rfl) ?_
  refine N_putR (C0 := RX12) (T := TX12) (N := 39) (k := 6) tyX12 tyX12_ok nmX12 rfl (by decide) iw_12 (by decide) rfl rfl rfl rfl rfl (fun _ => rfl) (fun _ => rfl) (by decide) (by decide) fl_12_22 rfl (by decide) rfl (dd dt_12_init 21 rfl) ?_
  refine N_aload_n (dd dt_12_init 22 rfl) 0 rfl rfl ?_
  refine N_bipush (v := 8) (dd dt_12_init 23 rfl) (by decide) ?_
  refine N_newa_int (a := 6) (N := 8) (rc := 16) (rs := 706) (by decide) aw_int rfl rfl rfl (by decide) (by decide) (by decide) (dd dt_12_init 24 rfl) ?_
  refine N_putR (C0 := RX12) (T := TX12) (N := 39) (k := 7) tyX12 tyX12_ok nmX12 rfl (by decide) iw_12 (by decide) rfl rfl rfl rfl rfl (fun _ => rfl) (fun _ => rfl) (by decide) (by decide) fl_12_25 rfl (by decide) rfl (dd dt_12_init 25 rfl) ?_
  refine N_aload_n (dd dt_12_init 26 rfl) 0 rfl rfl ?_
  refine N_iconst (v := (-1)) (dd dt_12_init 27 rfl) (by decide) ?_
  refine N_put (C0 := RX12) (T := TX12) (N := 39) (k := 9) tyX12 tyX12_ok nmX12 rfl (by decide) iw_12 (by decide) rfl rfl rfl rfl rfl rfl fl_12_28 rfl (by decide) (rfl) (dd dt_12_init 28 rfl) ?_
  refine N_aload_n (dd dt_12_init 29 rfl) 0 rfl rfl ?_
  refine N_bipush (v := 40) (dd dt_12_init 30 rfl) (by decide) ?_
  refine N_newa_int (a := 7) (N := 40) (rc := 15) (rs := 666) (by decide) aw_int rfl rfl rfl (by decide) (by decide) (by decide) (dd dt_12_init 31 rfl) ?_
  refine N_putR (C0 := RX12) (T := TX12) (N := 39) (k := 17) tyX12 tyX12_ok nmX12 rfl (by decide) iw_12 (by decide) rfl rfl rfl rfl rfl (fun _ => rfl) (fun _ => rfl) (by decide) (by decide) fl_12_32 rfl (by decide) rfl (dd dt_12_init 32 rfl) ?_
  refine N_aload_n (dd dt_12_init 33 rfl) 0 rfl rfl ?_
  refine N_bipush (v := 120) (dd dt_12_init 34 rfl) (by decide) ?_
  refine N_newa_int (a := 8) (N := 120) (rc := 14) (rs := 546) (by decide) aw_int rfl rfl rfl (by decide) (by decide) (by decide) (dd dt_12_init 35 rfl) ?_
  refine N_putR (C0 := RX12) (T := TX12) (N := 39) (k := 18) tyX12 tyX12_ok nmX12 rfl (by decide) iw_12 (by decide) rfl rfl rfl rfl rfl (fun _ => rfl) (fun _ => rfl) (by decide) (by decide) fl_12_35 rfl (by decide) rfl (dd dt_12_init 36 rfl) ?_
  refine N_aload_n (dd dt_12_init 37 rfl) 0 rfl rfl ?_
  refine N_bipush (v := 120) (dd dt_12_init 38 rfl) (by decide) ?_
  refine N_newa_int (a := 9) (N := 120) (rc := 13) (rs := 426) (by decide) aw_int rfl rfl rfl (by decide) (by decide) (by decide) (dd dt_12_init 39 rfl) ?_
  refine N_putR (C0 := RX12) (T := TX12) (N := 39) (k := 19) tyX12 tyX12_ok nmX12 rfl (by decide) iw_12 (by decide) rfl rfl rfl rfl rfl (fun _ => rfl) (fun _ => rfl) (by decide) (by decide) fl_12_38 rfl (by decide) rfl (dd dt_12_init 40 rfl) ?_
  refine N_aload_n (dd dt_12_init 41 rfl) 0 rfl rfl ?_
  refine N_bipush (v := 16) (dd dt_12_init 42 rfl) (by decide) ?_
  refine N_newa_int (a := 10) (N := 16) (rc := 12) (rs := 410) (by decide) aw_int rfl rfl rfl (by decide) (by decide) (by decide) (dd dt_12_init 43 rfl) ?_
  refine N_putR (C0 := RX12) (T := TX12) (N := 39) (k := 20) tyX12 tyX12_ok nmX12 rfl (by decide) iw_12 (by decide) rfl rfl rfl rfl rfl (fun _ => rfl) (fun _ => rfl) (by decide) (by decide) fl_12_41 rfl (by decide) rfl (dd dt_12_init 44 rfl) ?_
  refine N_aload_n (dd dt_12_init 45 rfl) 0 rfl rfl ?_
  refine N_bipush (v := 16) (dd dt_12_init 46 rfl) (by decide) ?_
  refine N_newa_int (a := 11) (N := 16) (rc := 11) (rs := 394) (by decide) aw_int rfl rfl rfl (by decide) (by decide) (by decide) (dd dt_12_init 47 rfl) ?_
  refine N_putR (C0 := RX12) (T := TX12) (N := 39) (k := 21) tyX12 tyX12_ok nmX12 rfl (by decide) iw_12 (by decide) rfl rfl rfl rfl rfl (fun _ => rfl) (fun _ => rfl) (by decide) (by decide) fl_12_44 rfl (by decide) rfl (dd dt_12_init 48 rfl) ?_
  refine N_aload_n (dd dt_12_init 49 rfl) 0 rfl rfl ?_
  refine N_bipush (v := 16) (dd dt_12_init 50 rfl) (by decide) ?_
  refine N_newa_int (a := 12) (N := 16) (rc := 10) (rs := 378) (by decide) aw_int rfl rfl rfl (by decide) (by decide) (by decide) (dd dt_12_init 51 rfl) ?_
  refine N_putR (C0 := RX12) (T := TX12) (N := 39) (k := 22) tyX12 tyX12_ok nmX12 rfl (by decide) iw_12 (by decide) rfl rfl rfl rfl rfl (fun _ => rfl) (fun _ => rfl) (by decide) (by decide) fl_12_47 rfl (by decide) rfl (dd dt_12_init 52 rfl) ?_
  refine N_aload_n (dd dt_12_init 53 rfl) 0 rfl rfl ?_
  refine N_bipush (v := 16) (dd dt_12_init 54 rfl) (by decide) ?_
  refine N_newa_int (a := 13) (N := 16) (rc := 9) (rs := 362) (by decide) aw_int rfl rfl rfl (by decide) (by decide) (by decide) (dd dt_12_init 55 rfl) ?_
  refine N_putR (C0 := RX12) (T := TX12) (N := 39) (k := 23) tyX12 tyX12_ok nmX12 rfl (by decide) iw_12 (by decide) rfl rfl rfl rfl rfl (fun _ => rfl) (fun _ => rfl) (by decide) (by decide) fl_12_50 rfl (by decide) rfl (dd dt_12_init 56 rfl) ?_
  refine N_aload_n (dd dt_12_init 57 rfl) 0 rfl rfl ?_
  refine N_sipush (v := 144) (dd dt_12_init 58 rfl) (by decide) ?_
  refine N_newa_int (a := 14) (N := 144) (rc := 8) (rs := 218) (by decide) aw_int rfl rfl rfl (by decide) (by decide) (by decide) (dd dt_12_init 59 rfl) ?_
  refine N_putR (C0 := RX12) (T := TX12) (N := 39) (k := 24) tyX12 tyX12_ok nmX12 rfl (by decide) iw_12 (by decide) rfl rfl rfl rfl rfl (fun _ => rfl) (fun _ => rfl) (by decide) (by decide) fl_12_53 rfl (by decide) rfl (dd dt_12_init 60 rfl) ?_
  refine N_aload_n (dd dt_12_init 61 rfl) 0 rfl rfl ?_
  refine N_bipush (v := 8) (dd dt_12_init 62 rfl) (by decide) ?_
  refine N_newa_int (a := 15) (N := 8) (rc := 7) (rs := 210) (by decide) aw_int rfl rfl rfl (by decide) (by decide) (by decide) (dd dt_12_init 63 rfl) ?_
  refine N_putR (C0 := RX12) (T := TX12) (N := 39) (k := 25) tyX12 tyX12_ok nmX12 rfl (by decide) iw_12 (by decide) rfl rfl rfl rfl rfl (fun _ => rfl) (fun _ => rfl) (by decide) (by decide) fl_12_56 rfl (by decide) rfl (dd dt_12_init 64 rfl) ?_
  refine N_aload_n (dd dt_12_init 65 rfl) 0 rfl rfl ?_
  refine N_iconst (v := 4) (dd dt_12_init 66 rfl) (by decide) ?_
  refine N_newa_int (a := 16) (N := 4) (rc := 6) (rs := 206) (by decide) aw_int rfl rfl rfl (by decide) (by decide) (by decide) (dd dt_12_init 67 rfl) ?_
  refine N_putR (C0 := RX12) (T := TX12) (N := 39) (k := 26) tyX12 tyX12_ok nmX12 rfl (by decide) iw_12 (by decide) rfl rfl rfl rfl rfl (fun _ => rfl) (fun _ => rfl) (by decide) (by decide) fl_12_59 rfl (by decide) rfl (dd dt_12_init 68 rfl) ?_
  refine N_aload_n (dd dt_12_init 69 rfl) 0 rfl rfl ?_
  refine N_iconst (v := 4) (dd dt_12_init 70 rfl) (by decide) ?_
  refine N_newa_int (a := 17) (N := 4) (rc := 5) (rs := 202) (by decide) aw_int rfl rfl rfl (by decide) (by decide) (by decide) (dd dt_12_init 71 rfl) ?_
  refine N_putR (C0 := RX12) (T := TX12) (N := 39) (k := 27) tyX12 tyX12_ok nmX12 rfl (by decide) iw_12 (by decide) rfl rfl rfl rfl rfl (fun _ => rfl) (fun _ => rfl) (by decide) (by decide) fl_12_62 rfl (by decide) rfl (dd dt_12_init 72 rfl) ?_
  refine N_aload_n (dd dt_12_init 73 rfl) 0 rfl rfl ?_
  refine N_sipush (v := 160) (dd dt_12_init 74 rfl) (by decide) ?_
  refine N_newa_int (a := 18) (N := 160) (rc := 4) (rs := 42) (by decide) aw_int rfl rfl rfl (by decide) (by decide) (by decide) (dd dt_12_init 75 rfl) ?_
  refine N_putR (C0 := RX12) (T := TX12) (N := 39) (k := 28) tyX12 tyX12_ok nmX12 rfl (by decide) iw_12 (by decide) rfl rfl rfl rfl rfl (fun _ => rfl) (fun _ => rfl) (by decide) (by decide) fl_12_65 rfl (by decide) rfl (dd dt_12_init 76 rfl) ?_
  refine N_aload_n (dd dt_12_init 77 rfl) 0 rfl rfl ?_
  refine N_iconst (v := 4) (dd dt_12_init 78 rfl) (by decide) ?_
  refine N_newa_int (a := 19) (N := 4) (rc := 3) (rs := 38) (by decide) aw_int rfl rfl rfl (by decide) (by decide) (by decide) (dd dt_12_init 79 rfl) ?_
  refine N_putR (C0 := RX12) (T := TX12) (N := 39) (k := 29) tyX12 tyX12_ok nmX12 rfl (by decide) iw_12 (by decide) rfl rfl rfl rfl rfl (fun _ => rfl) (fun _ => rfl) (by decide) (by decide) fl_12_68 rfl (by decide) rfl (dd dt_12_init 80 rfl) ?_
  refine N_aload_n (dd dt_12_init 81 rfl) 0 rfl rfl ?_
  refine N_iconst (v := 4) (dd dt_12_init 82 rfl) (by decide) ?_
  refine N_newa_int (a := 20) (N := 4) (rc := 2) (rs := 34) (by decide) aw_int rfl rfl rfl (by decide) (by decide) (by decide) (dd dt_12_init 83 rfl) ?_
  refine N_putR (C0 := RX12) (T := TX12) (N := 39) (k := 30) tyX12 tyX12_ok nmX12 rfl (by decide) iw_12 (by decide) rfl rfl rfl rfl rfl (fun _ => rfl) (fun _ => rfl) (by decide) (by decide) fl_12_71 rfl (by decide) rfl (dd dt_12_init 84 rfl) ?_
  refine N_aload_n (dd dt_12_init 85 rfl) 0 rfl rfl ?_
  refine N_iconst (v := 4) (dd dt_12_init 86 rfl) (by decide) ?_
  refine N_newa_int (a := 21) (N := 4) (rc := 1) (rs := 30) (by decide) aw_int rfl rfl rfl (by decide) (by decide) (by decide) (dd dt_12_init 87 rfl) ?_
  refine N_putR (C0 := RX12) (T := TX12) (N := 39) (k := 31) tyX12 tyX12_ok nmX12 rfl (by decide) iw_12 (by decide) rfl rfl rfl rfl rfl (fun _ => rfl) (fun _ => rfl) (by decide) (by decide) fl_12_74 rfl (by decide) rfl (dd dt_12_init 88 rfl) ?_
  refine N_aload_n (dd dt_12_init 89 rfl) 0 rfl rfl ?_
  refine N_bipush (v := 30) (dd dt_12_init 90 rfl) (by decide) ?_
  refine N_newa_int (a := 22) (N := 30) (rc := 0) (rs := 0) (by decide) aw_int rfl rfl rfl (by decide) (by decide) (by decide) (dd dt_12_init 91 rfl) ?_
  refine N_putR (C0 := RX12) (T := TX12) (N := 39) (k := 32) tyX12 tyX12_ok nmX12 rfl (by decide) iw_12 (by decide) rfl rfl rfl rfl rfl (fun _ => rfl) (fun _ => rfl) (by decide) (by decide) fl_12_77 rfl (by decide) rfl (dd dt_12_init 92 rfl) ?_
  refine N_aload_n (dd dt_12_init 93 rfl) 0 rfl rfl ?_
  refine N_getR (C0 := RX12) (T := TX12) (N := 39) (k := 0) (b := 1) rfl (by decide) iw_12 (by decide) rfl rfl fl_12_9 rfl (by decide) rfl (by decide) (dd dt_12_init 94 rfl) ?_
  refine N_iconst (v := 5) (dd dt_12_init 95 rfl) (by decide) ?_
  refine N_bipush (v := 9) (dd dt_12_init 96 rfl) (by decide) ?_
  refine N_isto (μ' := up _ 1 5 9) (by decide) rfl (by decide) rfl (dd dt_12_init 97 rfl) ?_
  refine N_iconst (v := 0) (dd dt_12_init 98 rfl) (by decide) ?_
  refine N_istore_n (lv' := [some (.ref 0), some (.int 0)]) (dd dt_12_init 99 rfl) 1 rfl (by decide) rfl rfl ?_
  exact n_mod 36 0 rfl
