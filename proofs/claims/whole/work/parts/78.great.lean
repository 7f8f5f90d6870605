/-! the constructors of the great classes -/
def fl (μ : mm) (a : Nat) (x : Int32) : mm := fun b => if b = a then (fun k => if k < len a then x else μ a k) else μ b
def flN (μ : mm) (a : Nat) (x : Int32) (i : Nat) : mm := fun b => if b = a then (fun k => if k < i then x else μ a k) else μ b
theorem flN_0 (μ : mm) (a : Nat) (x : Int32) : flN μ a x 0 = μ := by
  funext b k
  unfold flN
  by_cases h : b = a
  · rw [if_pos h, if_neg (Nat.not_lt_zero k), h]
  · rw [if_neg h]
theorem flN_s (μ : mm) (a : Nat) (x : Int32) (i : Nat) : up (flN μ a x i) a i x = flN μ a x (i + 1) := by
  funext b k
  unfold up
  by_cases h : b = a
  · rw [if_pos h]
    unfold upd flN
    rw [if_pos h, if_pos rfl]
    by_cases e : k = i
    · rw [if_pos e, if_pos (by omega)]
    · rw [if_neg e]
      by_cases f : k < i
      · rw [if_pos f, if_pos (by omega)]
      · rw [if_neg f, if_neg (by omega)]
  · rw [if_neg h]
    unfold flN
    rw [if_neg h, if_neg h]
theorem fl_ne {μ : mm} {a b : Nat} {x : Int32} (h : b ≠ a) : fl μ a x b = μ b := if_neg h
set_option maxHeartbeats 1000000 in
theorem n_fill {l : Launch} {E : ce} {d a : Nat} {x : Int32} {cn : Nat} {pd : List Nat} {μ : mm} (ha : kd a = 20) (hoa : od a < cn) (h1 : 1 ≤ cn) (hl : len a ≤ 4000) : ∀ (m i : Nat), i + m = len a → Rn l E d m_J7_fill 5 [some (.ref a), some (.int x), some (.int (nI i)), some (.int (nI (len a)))] [] cn pd (flN μ a x i) 0 0 (Qn E cn pd (fl μ a x)) := by
  intro m
  induction m with
  | zero =>
    intro i hi
    refine N_iload_n (dd dt_J7_fill 5 rfl) 2 rfl rfl ?_
    refine N_iload_n (dd dt_J7_fill 6 rfl) 3 rfl rfl ?_
    refine N_cmpge (dd dt_J7_fill 7 rfl) (tgt := 20) rfl (fun _ => ?_) (fun q => absurd ?_ q)
    · exact N_vret rfl rfl rfl (by rw [show i = len a by omega]; rfl) h1 (dd dt_J7_fill 14 rfl)
    · rw [Int32.le_iff_toInt_le, nI_toInt (by omega), nI_toInt (by omega)]
      omega
  | succ m ih =>
    intro i hi
    refine N_iload_n (dd dt_J7_fill 5 rfl) 2 rfl rfl ?_
    refine N_iload_n (dd dt_J7_fill 6 rfl) 3 rfl rfl ?_
    refine N_cmpge (dd dt_J7_fill 7 rfl) (tgt := 20) rfl (fun q => absurd q ?_) (fun _ => ?_)
    · rw [Int32.le_iff_toInt_le, nI_toInt (by omega), nI_toInt (by omega)]
      omega
    · refine N_aload_n (dd dt_J7_fill 8 rfl) 0 rfl rfl ?_
      refine N_iload_n (dd dt_J7_fill 9 rfl) 2 rfl rfl ?_
      refine N_iload_n (dd dt_J7_fill 10 rfl) 1 rfl rfl ?_
      refine N_isto (μ' := flN μ a x (i + 1)) (nI_in (by omega) (by omega)) ha hoa (by rw [nI_clamp (by omega)]; exact flN_s μ a x i) (dd dt_J7_fill 11 rfl) ?_
      refine N_iinc (v := 1) (lv' := [some (.ref a), some (.int x), some (.int (nI (i + 1))), some (.int (nI (len a)))]) (dd dt_J7_fill 12 rfl) (by decide) rfl rfl ic_1 (by rw [← nI_1 i]; rfl) ?_
      refine N_goto (dd dt_J7_fill 13 rfl) (tgt := 5) rfl ?_
      exact ih (i + 1) (by omega)
theorem c_fill {l : Launch} {E : ce} {d a : Nat} {x : Int32} {cn : Nat} {pd : List Nat} {μ : mm} (ha : kd a = 20) (hoa : od a < cn) (h1 : 1 ≤ cn) (hl : len a ≤ 4000) : Cn l E d yJ7_fill_53178 m_J7_fill [.ref a, .int x] cn pd μ 0 0 cn pd (fl μ a x) := by
  refine Cn_of (by decide) rfl (fun h => absurd rfl h) (by decide) (Nat.le_of_ble_eq_true rfl) rfl ?_
  refine N_iconst (v := 0) (dd dt_J7_fill 0 rfl) ic_0 ?_
  refine N_istore_n (dd dt_J7_fill 1 rfl) 2 rfl (by decide) rfl rfl ?_
  refine N_aload_n (dd dt_J7_fill 2 rfl) 0 rfl rfl ?_
  refine N_alen (v := nI (len a)) rfl ha hoa (dd dt_J7_fill 3 rfl) ?_
  refine N_istore_n (dd dt_J7_fill 4 rfl) 3 rfl (by decide) rfl rfl ?_
  have h := n_fill (l := l) (E := E) (d := d) (x := x) (pd := pd) (μ := μ) ha hoa h1 hl (len a) 0 (by omega)
  rw [flN_0] at h
  exact h
def rstep (μ : mm) (r i : Nat) : mm := up (fl μ r 1) r i 0
theorem rstep_ne {μ : mm} {r i b : Nat} (h : b ≠ r) : rstep μ r i b = μ b := by
  unfold rstep
  rw [up_ne h, fl_ne h]
def vm (μ : mm) (v : Nat) : mm := rstep (rstep (rstep (rstep (rstep (rstep (up μ (v + 22) 0 9) (v + 2) 0) (v + 3) 1) (v + 4) 2) (v + 5) 3) (v + 6) 4) (v + 7) 5
theorem vm_ne {μ : mm} {v b : Nat} (h1 : b ≠ v + 22) (h2 : b < v + 2 ∨ v + 8 ≤ b) : vm μ v b = μ b := by
  unfold vm
  rw [rstep_ne (by omega), rstep_ne (by omega), rstep_ne (by omega), rstep_ne (by omega), rstep_ne (by omega), rstep_ne (by omega), up_ne h1]
set_option maxHeartbeats 16000000 in
set_option maxRecDepth 100000 in
theorem c_9_49 {l : Launch} {E : ce} {d : Nat} {μ : mm} (hz : ∀ b, 49 ≤ b → b < 143 → ∀ k, μ b k = 0) : Cn l E (d + 1) yX9_init m_9_init [.ref 49] 2 [49, 23] μ 93 1733 95 [49, 23] (vm μ 49) := by
  refine Cn_of (by decide) rfl (fun _ _ => rfl) (by decide) (Nat.le_of_ble_eq_true rfl) rfl ?_
  refine N_aload_n (dd dt_9_init 0 rfl) 0 rfl rfl ?_
  refine N_oinit (by decide) mi_9_3 oi_in oi_cd (dd dt_9_init 1 rfl) ?_
  refine N_aload_n (dd dt_9_init 2 rfl) 0 rfl rfl ?_
  refine N_iconst (v := 0) (dd dt_9_init 3 rfl) (by decide) ?_
  refine N_put (C0 := RX9) (T := TX9) (N := 19) (k := 0) tyX9 tyX9_ok nmX9 rfl (by decide) iw_9 (by decide) rfl rfl rfl rfl rfl rfl fl_9_9 rfl (by decide) (up_id (by exact hz _ (by decide) (by decide) _)) (dd dt_9_init 4 rfl) ?_
  refine N_aload_n (dd dt_9_init 5 rfl) 0 rfl rfl ?_
  refine N_iconst (v := 0) (dd dt_9_init 6 rfl) (by decide) ?_
  refine N_put (C0 := RX9) (T := TX9) (N := 19) (k := 1) tyX9 tyX9_ok nmX9 rfl (by decide) iw_9 (by decide) rfl rfl rfl rfl rfl rfl fl_9_15 rfl (by decide) (up_id (by exact hz _ (by decide) (by decide) _)) (dd dt_9_init 7 rfl) ?_
  refine N_aload_n (dd dt_9_init 8 rfl) 0 rfl rfl ?_
  refine N_iconst (v := 0) (dd dt_9_init 9 rfl) (by decide) ?_
  refine N_put (C0 := RX9) (T := TX9) (N := 19) (k := 2) tyX9 tyX9_ok nmX9 rfl (by decide) iw_9 (by decide) rfl rfl rfl rfl rfl rfl fl_9_18 rfl (by decide) (up_id (by exact hz _ (by decide) (by decide) _)) (dd dt_9_init 10 rfl) ?_
  refine N_aload_n (dd dt_9_init 11 rfl) 0 rfl rfl ?_
  refine N_iconst (v := 0) (dd dt_9_init 12 rfl) (by decide) ?_
  refine N_put (C0 := RX9) (T := TX9) (N := 19) (k := 3) tyX9 tyX9_ok nmX9 rfl (by decide) iw_9 (by decide) rfl rfl rfl rfl rfl rfl fl_9_21 rfl (by decide) (up_id (by exact hz _ (by decide) (by decide) _)) (dd dt_9_init 13 rfl) ?_
  refine N_aload_n (dd dt_9_init 14 rfl) 0 rfl rfl ?_
  refine N_iconst (v := 0) (dd dt_9_init 15 rfl) (by decide) ?_
  refine N_put (C0 := RX9) (T := TX9) (N := 19) (k := 4) tyX9 tyX9_ok nmX9 rfl (by decide) iw_9 (by decide) rfl rfl rfl rfl rfl rfl fl_9_24 rfl (by decide) (up_id (by exact hz _ (by decide) (by decide) _)) (dd dt_9_init 16 rfl) ?_
  refine N_aload_n (dd dt_9_init 17 rfl) 0 rfl rfl ?_
  refine N_iconst (v := 0) (dd dt_9_init 18 rfl) (by decide) ?_
  refine N_put (C0 := RX9) (T := TX9) (N := 19) (k := 5) tyX9 tyX9_ok nmX9 rfl (by decide) iw_9 (by decide) rfl rfl rfl rfl rfl rfl fl_9_27 rfl (by decide) (up_id (by exact hz _ (by decide) (by decide) _)) (dd dt_9_init 19 rfl) ?_
  refine N_aload_n (dd dt_9_init 20 rfl) 0 rfl rfl ?_
  refine N_iconst (v := 0) (dd dt_9_init 21 rfl) (by decide) ?_
  refine N_put (C0 := RX9) (T := TX9) (N := 19) (k := 6) tyX9 tyX9_ok nmX9 rfl (by decide) iw_9 (by decide) rfl rfl rfl rfl rfl rfl fl_9_30 rfl (by decide) (up_id (by exact hz _ (by decide) (by decide) _)) (dd dt_9_init 22 rfl) ?_
  refine N_aload_n (dd dt_9_init 23 rfl) 0 rfl rfl ?_
  refine N_bipush (v := 6) (dd dt_9_init 24 rfl) (by decide) ?_
  refine N_bipush (v := 6) (dd dt_9_init 25 rfl) (by decide) ?_
  refine N_multi (a := 50) (N := 6) (L := 6) (rc := 86) (rs := 1691) (by decide) (by decide) ci_9_34 aw_int rfl rfl rfl (by decide) (by decide) (by decide) (by decide) (by decide) (by decide) (dd dt_9_init 26 rfl) ?_
  refine N_putR (C0 := RX9) (T := TX9) (N := 19) (k := 7) tyX9 tyX9_ok nmX9 rfl (by decide) iw_9 (by decide) rfl rfl rfl rfl rfl (fun _ => rfl) (fun _ => rfl) (by decide) (by decide) fl_9_36 rfl (by decide) rfl (dd dt_9_init 27 rfl) ?_
  refine N_aload_n (dd dt_9_init 28 rfl) 0 rfl rfl ?_
  refine N_iconst (v := 4) (dd dt_9_init 29 rfl) (by decide) ?_
  refine N_anew (ci := 24) (t0 := 4) (C1 := RX4) (a := 57) (N := 4) (rc := 85) (rs := 1687) (by decide) (by decide) rfl ci_9_39 (fun _ h => h.1.1) rfl rfl rfl (by decide) (by decide) (by decide) (dd dt_9_init 30 rfl) ?_
  refine N_putR (C0 := RX9) (T := TX9) (N := 19) (k := 8) tyX9 tyX9_ok nmX9 rfl (by decide) iw_9 (by decide) rfl rfl rfl rfl rfl (fun _ => rfl) (fun _ => rfl) (by decide) (by decide) fl_9_41 rfl (by decide) rfl (dd dt_9_init 31 rfl) ?_
  refine N_aload_n (dd dt_9_init 32 rfl) 0 rfl rfl ?_
  refine N_iconst (v := 4) (dd dt_9_init 33 rfl) (by decide) ?_
  refine N_anew (ci := 25) (t0 := 5) (C1 := RX6) (a := 58) (N := 4) (rc := 84) (rs := 1683) (by decide) (by decide) rfl ci_9_45 (fun _ h => h.1.2.1) rfl rfl rfl (by decide) (by decide) (by decide) (dd dt_9_init 34 rfl) ?_
  refine N_putR (C0 := RX9) (T := TX9) (N := 19) (k := 9) tyX9 tyX9_ok nmX9 rfl (by decide) iw_9 (by decide) rfl rfl rfl rfl rfl (fun _ => rfl) (fun _ => rfl) (by decide) (by decide) fl_9_47 rfl (by decide) rfl (dd dt_9_init 35 rfl) ?_
  refine N_aload_n (dd dt_9_init 36 rfl) 0 rfl rfl ?_
  refine N_bipush (v := 16) (dd dt_9_init 37 rfl) (by decide) ?_
  refine N_anew (ci := 26) (t0 := 6) (C1 := RX1) (a := 59) (N := 16) (rc := 83) (rs := 1667) (by decide) (by decide) rfl ci_9_51 (fun _ h => h.1.2.2.1) rfl rfl rfl (by decide) (by decide) (by decide) (dd dt_9_init 38 rfl) ?_
  refine N_putR (C0 := RX9) (T := TX9) (N := 19) (k := 10) tyX9 tyX9_ok nmX9 rfl (by decide) iw_9 (by decide) rfl rfl rfl rfl rfl (fun _ => rfl) (fun _ => rfl) (by decide) (by decide) fl_9_53 rfl (by decide) rfl (dd dt_9_init 39 rfl) ?_
  refine N_aload_n (dd dt_9_init 40 rfl) 0 rfl rfl ?_
  refine N_iconst (v := 3) (dd dt_9_init 41 rfl) (by decide) ?_
  refine N_anew (ci := 27) (t0 := 7) (C1 := RX5) (a := 60) (N := 3) (rc := 82) (rs := 1664) (by decide) (by decide) rfl ci_9_57 (fun _ h => h.1.2.2.2.1) rfl rfl rfl (by decide) (by decide) (by decide) (dd dt_9_init 42 rfl) ?_
  refine N_putR (C0 := RX9) (T := TX9) (N := 19) (k := 11) tyX9 tyX9_ok nmX9 rfl (by decide) iw_9 (by decide) rfl rfl rfl rfl rfl (fun _ => rfl) (fun _ => rfl) (by decide) (by decide) fl_9_59 rfl (by decide) rfl (dd dt_9_init 43 rfl) ?_
  refine N_aload_n (dd dt_9_init 44 rfl) 0 rfl rfl ?_
  refine N_new (ci := 10) (a := 61) (C1 := RX10) (T := TX10) (N := 5) (rc := 81) (rs := 1659) (by decide) tyX10 tyX10_ok rfl (by decide) iw_10 rfl (by decide) ci_9_63 ist_10 izt_10 rfl rfl (dd dt_9_init 45 rfl) ?_
  refine N_dup (dd dt_9_init 46 rfl) rfl ?_
  refine N_callN (mc := 2) (ms := 12) (rc := 79) (rs := 1647) (c_10 (fun k => by exact hz _ (by decide) (by decide) k) (by decide)) cal_10_init rfl rfl in_10_init mi_9_65 (by decide) rfl (by decide) (dd dt_9_init 47 rfl) ?_
  refine N_putR (C0 := RX9) (T := TX9) (N := 19) (k := 12) tyX9 tyX9_ok nmX9 rfl (by decide) iw_9 (by decide) rfl rfl rfl rfl rfl (fun _ => rfl) (fun _ => rfl) (by decide) (by decide) fl_9_66 rfl (by decide) rfl (dd dt_9_init 48 rfl) ?_
  refine N_aload_n (dd dt_9_init 49 rfl) 0 rfl rfl ?_
  refine N_new (ci := 7) (a := 64) (C1 := RX7) (T := TX7) (N := 10) (rc := 78) (rs := 1637) (by decide) tyX7 tyX7_ok rfl (by decide) iw_7 rfl (by decide) ci_9_70 ist_7 izt_7 rfl rfl (dd dt_9_init 50 rfl) ?_
  refine N_dup (dd dt_9_init 51 rfl) rfl ?_
  refine N_callN (mc := 6) (ms := 72) (rc := 72) (rs := 1565) (c_7 (fun k => by exact hz _ (by decide) (by decide) k) (by decide)) cal_7_init rfl rfl in_7_init mi_9_72 (by decide) rfl (by decide) (dd dt_9_init 52 rfl) ?_
  refine N_putR (C0 := RX9) (T := TX9) (N := 19) (k := 13) tyX9 tyX9_ok nmX9 rfl (by decide) iw_9 (by decide) rfl rfl rfl rfl rfl (fun _ => rfl) (fun _ => rfl) (by decide) (by decide) fl_9_73 rfl (by decide) rfl (dd dt_9_init 53 rfl) ?_
  refine N_aload_n (dd dt_9_init 54 rfl) 0 rfl rfl ?_
  refine N_new (ci := 3) (a := 71) (C1 := RX3) (T := TX3) (N := 7) (rc := 71) (rs := 1558) (by decide) tyX3 tyX3_ok rfl (by decide) iw_3 rfl (by decide) ci_9_77 ist_3 izt_3 rfl rfl (dd dt_9_init 55 rfl) ?_
  refine N_dup (dd dt_9_init 56 rfl) rfl ?_
  refine N_callN (mc := 13) (ms := 173) (rc := 58) (rs := 1385) (c_3 (fun k => by exact hz _ (by decide) (by decide) k) (by decide)) cal_3_init rfl rfl in_3_init mi_9_79 (by decide) rfl (by decide) (dd dt_9_init 57 rfl) ?_
  refine N_putR (C0 := RX9) (T := TX9) (N := 19) (k := 14) tyX9 tyX9_ok nmX9 rfl (by decide) iw_9 (by decide) rfl rfl rfl rfl rfl (fun _ => rfl) (fun _ => rfl) (by decide) (by decide) fl_9_80 rfl (by decide) rfl (dd dt_9_init 58 rfl) ?_
  refine N_aload_n (dd dt_9_init 59 rfl) 0 rfl rfl ?_
  refine N_new (ci := 2) (a := 85) (C1 := RX2) (T := TX2) (N := 6) (rc := 57) (rs := 1379) (by decide) tyX2 tyX2_ok rfl (by decide) iw_2 rfl (by decide) ci_9_84 ist_2 izt_2 rfl rfl (dd dt_9_init 60 rfl) ?_
  refine N_dup (dd dt_9_init 61 rfl) rfl ?_
  refine N_callN (mc := 12) (ms := 58) (rc := 45) (rs := 1321) (c_2 (fun k => by rw [up_ne (by decide)]; exact hz _ (by decide) (by decide) k) (by decide)) cal_2_init rfl rfl in_2_init mi_9_86 (by decide) rfl (by decide) (dd dt_9_init 62 rfl) ?_
  refine N_putR (C0 := RX9) (T := TX9) (N := 19) (k := 15) tyX9 tyX9_ok nmX9 rfl (by decide) iw_9 (by decide) rfl rfl rfl rfl rfl (fun _ => rfl) (fun _ => rfl) (by decide) (by decide) fl_9_87 rfl (by decide) rfl (dd dt_9_init 63 rfl) ?_
  refine N_aload_n (dd dt_9_init 64 rfl) 0 rfl rfl ?_
  refine N_bipush (v := 16) (dd dt_9_init 65 rfl) (by decide) ?_
  refine N_newa_int (a := 98) (N := 16) (rc := 44) (rs := 1305) (by decide) aw_int rfl rfl rfl (by decide) (by decide) (by decide) (dd dt_9_init 66 rfl) ?_
  refine N_putR (C0 := RX9) (T := TX9) (N := 19) (k := 16) tyX9 tyX9_ok nmX9 rfl (by decide) iw_9 (by decide) rfl rfl rfl rfl rfl (fun _ => rfl) (fun _ => rfl) (by decide) (by decide) fl_9_91 rfl (by decide) rfl (dd dt_9_init 67 rfl) ?_
  refine N_aload_n (dd dt_9_init 68 rfl) 0 rfl rfl ?_
  refine N_bipush (v := 16) (dd dt_9_init 69 rfl) (by decide) ?_
  refine N_newa_int (a := 99) (N := 16) (rc := 43) (rs := 1289) (by decide) aw_int rfl rfl rfl (by decide) (by decide) (by decide) (dd dt_9_init 70 rfl) ?_
  refine N_putR (C0 := RX9) (T := TX9) (N := 19) (k := 17) tyX9 tyX9_ok nmX9 rfl (by decide) iw_9 (by decide) rfl rfl rfl rfl rfl (fun _ => rfl) (fun _ => rfl) (by decide) (by decide) fl_9_95 rfl (by decide) rfl (dd dt_9_init 71 rfl) ?_
  refine N_aload_n (dd dt_9_init 72 rfl) 0 rfl rfl ?_
  refine N_bipush (v := 16) (dd dt_9_init 73 rfl) (by decide) ?_
  refine N_newa_int (a := 100) (N := 16) (rc := 42) (rs := 1273) (by decide) aw_int rfl rfl rfl (by decide) (by decide) (by decide) (dd dt_9_init 74 rfl) ?_
  refine N_putR (C0 := RX9) (T := TX9) (N := 19) (k := 18) tyX9 tyX9_ok nmX9 rfl (by decide) iw_9 (by decide) rfl rfl rfl rfl rfl (fun _ => rfl) (fun _ => rfl) (by decide) (by decide) fl_9_98 rfl (by decide) rfl (dd dt_9_init 75 rfl) ?_
  refine N_iconst (v := 0) (dd dt_9_init 76 rfl) (by decide) ?_
  refine N_istore_n (lv' := [some (.ref 49), some (.int 0)]) (dd dt_9_init 77 rfl) 1 rfl (by decide) rfl rfl ?_
  refine N_iload_n (dd dt_9_init 78 rfl) 1 rfl rfl ?_
  refine N_bipush (v := 6) (dd dt_9_init 79 rfl) (by decide) ?_
  refine N_cmpge (dd dt_9_init 80 rfl) (tgt := 185) rfl (fun q => absurd q (by decide)) (fun _ => ?_)
  refine N_aload_n (dd dt_9_init 81 rfl) 0 rfl rfl ?_
  refine N_getR (C0 := RX9) (T := TX9) (N := 19) (k := 7) (b := 50) rfl (by decide) iw_9 (by decide) rfl rfl fl_9_36 rfl (by decide) rfl (by decide) (dd dt_9_init 82 rfl) ?_
  refine N_iload_n (dd dt_9_init 83 rfl) 1 rfl rfl ?_
  refine N_aald (ci := 23) (t0 := 3) (b := 51) (by decide) rfl (by decide) rfl (by decide) (by decide) rfl rfl (dd dt_9_init 84 rfl) ?_
  refine N_iconst (v := 1) (dd dt_9_init 85 rfl) (by decide) ?_
  refine N_callS (c_fill rfl (by decide) (by decide) (by decide)) cal_J7_fill rfl sc_J7_fill ml_9_101 (by decide) (by decide) (dd dt_9_init 86 rfl) ?_
  refine N_aload_n (dd dt_9_init 87 rfl) 0 rfl rfl ?_
  refine N_getR (C0 := RX9) (T := TX9) (N := 19) (k := 7) (b := 50) rfl (by decide) iw_9 (by decide) rfl rfl fl_9_36 rfl (by decide) rfl (by decide) (dd dt_9_init 88 rfl) ?_
  refine N_iload_n (dd dt_9_init 89 rfl) 1 rfl rfl ?_
  refine N_aald (ci := 23) (t0 := 3) (b := 51) (by decide) rfl (by decide) rfl (by decide) (by decide) rfl rfl (dd dt_9_init 90 rfl) ?_
  refine N_iload_n (dd dt_9_init 91 rfl) 1 rfl rfl ?_
  refine N_iconst (v := 0) (dd dt_9_init 92 rfl) (by decide) ?_
  refine N_isto (μ' := rstep _ 51 0) (by decide) rfl (by decide) rfl (dd dt_9_init 93 rfl) ?_
  refine N_iinc (v := 1) (lv' := [some (.ref 49), some (.int 1)]) (dd dt_9_init 94 rfl) (by decide) rfl rfl ic_1 rfl ?_
  refine N_goto (dd dt_9_init 95 rfl) (tgt := 154) rfl ?_
  refine N_iload_n (dd dt_9_init 78 rfl) 1 rfl rfl ?_
  refine N_bipush (v := 6) (dd dt_9_init 79 rfl) (by decide) ?_
  refine N_cmpge (dd dt_9_init 80 rfl) (tgt := 185) rfl (fun q => absurd q (by decide)) (fun _ => ?_)
  refine N_aload_n (dd dt_9_init 81 rfl) 0 rfl rfl ?_
  refine N_getR (C0 := RX9) (T := TX9) (N := 19) (k := 7) (b := 50) rfl (by decide) iw_9 (by decide) rfl rfl fl_9_36 rfl (by decide) rfl (by decide) (dd dt_9_init 82 rfl) ?_
  refine N_iload_n (dd dt_9_init 83 rfl) 1 rfl rfl ?_
  refine N_aald (ci := 23) (t0 := 3) (b := 52) (by decide) rfl (by decide) rfl (by decide) (by decide) rfl rfl (dd dt_9_init 84 rfl) ?_
  refine N_iconst (v := 1) (dd dt_9_init 85 rfl) (by decide) ?_
  refine N_callS (c_fill rfl (by decide) (by decide) (by decide)) cal_J7_fill rfl sc_J7_fill ml_9_101 (by decide) (by decide) (dd dt_9_init 86 rfl) ?_
  refine N_aload_n (dd dt_9_init 87 rfl) 0 rfl rfl ?_
  refine N_getR (C0 := RX9) (T := TX9) (N := 19) (k := 7) (b := 50) rfl (by decide) iw_9 (by decide) rfl rfl fl_9_36 rfl (by decide) rfl (by decide) (dd dt_9_init 88 rfl) ?_
  refine N_iload_n (dd dt_9_init 89 rfl) 1 rfl rfl ?_
  refine N_aald (ci := 23) (t0 := 3) (b := 52) (by decide) rfl (by decide) rfl (by decide) (by decide) rfl rfl (dd dt_9_init 90 rfl) ?_
  refine N_iload_n (dd dt_9_init 91 rfl) 1 rfl rfl ?_
  refine N_iconst (v := 0) (dd dt_9_init 92 rfl) (by decide) ?_
  refine N_isto (μ' := rstep _ 52 1) (by decide) rfl (by decide) rfl (dd dt_9_init 93 rfl) ?_
  refine N_iinc (v := 1) (lv' := [some (.ref 49), some (.int 2)]) (dd dt_9_init 94 rfl) (by decide) rfl rfl ic_1 rfl ?_
  refine N_goto (dd dt_9_init 95 rfl) (tgt := 154) rfl ?_
  refine N_iload_n (dd dt_9_init 78 rfl) 1 rfl rfl ?_
  refine N_bipush (v := 6) (dd dt_9_init 79 rfl) (by decide) ?_
  refine N_cmpge (dd dt_9_init 80 rfl) (tgt := 185) rfl (fun q => absurd q (by decide)) (fun _ => ?_)
  refine N_aload_n (dd dt_9_init 81 rfl) 0 rfl rfl ?_
  refine N_getR (C0 := RX9) (T := TX9) (N := 19) (k := 7) (b := 50) rfl (by decide) iw_9 (by decide) rfl rfl fl_9_36 rfl (by decide) rfl (by decide) (dd dt_9_init 82 rfl) ?_
  refine N_iload_n (dd dt_9_init 83 rfl) 1 rfl rfl ?_
  refine N_aald (ci := 23) (t0 := 3) (b := 53) (by decide) rfl (by decide) rfl (by decide) (by decide) rfl rfl (dd dt_9_init 84 rfl) ?_
  refine N_iconst (v := 1) (dd dt_9_init 85 rfl) (by decide) ?_
  refine N_callS (c_fill rfl (by decide) (by decide) (by decide)) cal_J7_fill rfl sc_J7_fill ml_9_101 (by decide) (by decide) (dd dt_9_init 86 rfl) ?_
  refine N_aload_n (dd dt_9_init 87 rfl) 0 rfl rfl ?_
  refine N_getR (C0 := RX9) (T := TX9) (N := 19) (k := 7) (b := 50) rfl (by decide) iw_9 (by decide) rfl rfl fl_9_36 rfl (by decide) rfl (by decide) (dd dt_9_init 88 rfl) ?_
  refine N_iload_n (dd dt_9_init 89 rfl) 1 rfl rfl ?_
  refine N_aald (ci := 23) (t0 := 3) (b := 53) (by decide) rfl (by decide) rfl (by decide) (by decide) rfl rfl (dd dt_9_init 90 rfl) ?_
  refine N_iload_n (dd dt_9_init 91 rfl) 1 rfl rfl ?_
  refine N_iconst (v := 0) (dd dt_9_init 92 rfl) (by decide) ?_
  refine N_isto (μ' := rstep _ 53 2) (by decide) rfl (by decide) rfl (dd dt_9_init 93 rfl) ?_
  refine N_iinc (v := 1) (lv' := [some (.ref 49), some (.int 3)]) (dd dt_9_init 94 rfl) (by decide) rfl rfl ic_1 rfl ?_
  refine N_goto (dd dt_9_init 95 rfl) (tgt := 154) rfl ?_
  refine N_iload_n (dd dt_9_init 78 rfl) 1 rfl rfl ?_
  refine N_bipush (v := 6) (dd dt_9_init 79 rfl) (by decide) ?_
  refine N_cmpge (dd dt_9_init 80 rfl) (tgt := 185) rfl (fun q => absurd q (by decide)) (fun _ => ?_)
  refine N_aload_n (dd dt_9_init 81 rfl) 0 rfl rfl ?_
  refine N_getR (C0 := RX9) (T := TX9) (N := 19) (k := 7) (b := 50) rfl (by decide) iw_9 (by decide) rfl rfl fl_9_36 rfl (by decide) rfl (by decide) (dd dt_9_init 82 rfl) ?_
  refine N_iload_n (dd dt_9_init 83 rfl) 1 rfl rfl ?_
  refine N_aald (ci := 23) (t0 := 3) (b := 54) (by decide) rfl (by decide) rfl (by decide) (by decide) rfl rfl (dd dt_9_init 84 rfl) ?_
  refine N_iconst (v := 1) (dd dt_9_init 85 rfl) (by decide) ?_
  refine N_callS (c_fill rfl (by decide) (by decide) (by decide)) cal_J7_fill rfl sc_J7_fill ml_9_101 (by decide) (by decide) (dd dt_9_init 86 rfl) ?_
  refine N_aload_n (dd dt_9_init 87 rfl) 0 rfl rfl ?_
  refine N_getR (C0 := RX9) (T := TX9) (N := 19) (k := 7) (b := 50) rfl (by decide) iw_9 (by decide) rfl rfl fl_9_36 rfl (by decide) rfl (by decide) (dd dt_9_init 88 rfl) ?_
  refine N_iload_n (dd dt_9_init 89 rfl) 1 rfl rfl ?_
  refine N_aald (ci := 23) (t0 := 3) (b := 54) (by decide) rfl (by decide) rfl (by decide) (by decide) rfl rfl (dd dt_9_init 90 rfl) ?_
  refine N_iload_n (dd dt_9_init 91 rfl) 1 rfl rfl ?_
  refine N_iconst (v := 0) (dd dt_9_init 92 rfl) (by decide) ?_
  refine N_isto (μ' := rstep _ 54 3) (by decide) rfl (by decide) rfl (dd dt_9_init 93 rfl) ?_
  refine N_iinc (v := 1) (lv' := [some (.ref 49), some (.int 4)]) (dd dt_9_init 94 rfl) (by decide) rfl rfl ic_1 rfl ?_
  refine N_goto (dd dt_9_init 95 rfl) (tgt := 154) rfl ?_
  refine N_iload_n (dd dt_9_init 78 rfl) 1 rfl rfl ?_
  refine N_bipush (v := 6) (dd dt_9_init 79 rfl) (by decide) ?_
  refine N_cmpge (dd dt_9_init 80 rfl) (tgt := 185) rfl (fun q => absurd q (by decide)) (fun _ => ?_)
  refine N_aload_n (dd dt_9_init 81 rfl) 0 rfl rfl ?_
  refine N_getR (C0 := RX9) (T := TX9) (N := 19) (k := 7) (b := 50) rfl (by decide) iw_9 (by decide) rfl rfl fl_9_36 rfl (by decide) rfl (by decide) (dd dt_9_init 82 rfl) ?_
  refine N_iload_n (dd dt_9_init 83 rfl) 1 rfl rfl ?_
  refine N_aald (ci := 23) (t0 := 3) (b := 55) (by decide) rfl (by decide) rfl (by decide) (by decide) rfl rfl (dd dt_9_init 84 rfl) ?_
  refine N_iconst (v := 1) (dd dt_9_init 85 rfl) (by decide) ?_
  refine N_callS (c_fill rfl (by decide) (by decide) (by decide)) cal_J7_fill rfl sc_J7_fill ml_9_101 (by decide) (by decide) (dd dt_9_init 86 rfl) ?_
  refine N_aload_n (dd dt_9_init 87 rfl) 0 rfl rfl ?_
  refine N_getR (C0 := RX9) (T := TX9) (N := 19) (k := 7) (b := 50) rfl (by decide) iw_9 (by decide) rfl rfl fl_9_36 rfl (by decide) rfl (by decide) (dd dt_9_init 88 rfl) ?_
  refine N_iload_n (dd dt_9_init 89 rfl) 1 rfl rfl ?_
  refine N_aald (ci := 23) (t0 := 3) (b := 55) (by decide) rfl (by decide) rfl (by decide) (by decide) rfl rfl (dd dt_9_init 90 rfl) ?_
  refine N_iload_n (dd dt_9_init 91 rfl) 1 rfl rfl ?_
  refine N_iconst (v := 0) (dd dt_9_init 92 rfl) (by decide) ?_
  refine N_isto (μ' := rstep _ 55 4) (by decide) rfl (by decide) rfl (dd dt_9_init 93 rfl) ?_
  refine N_iinc (v := 1) (lv' := [some (.ref 49), some (.int 5)]) (dd dt_9_init 94 rfl) (by decide) rfl rfl ic_1 rfl ?_
  refine N_goto (dd dt_9_init 95 rfl) (tgt := 154) rfl ?_
  refine N_iload_n (dd dt_9_init 78 rfl) 1 rfl rfl ?_
  refine N_bipush (v := 6) (dd dt_9_init 79 rfl) (by decide) ?_
  refine N_cmpge (dd dt_9_init 80 rfl) (tgt := 185) rfl (fun q => absurd q (by decide)) (fun _ => ?_)
  refine N_aload_n (dd dt_9_init 81 rfl) 0 rfl rfl ?_
  refine N_getR (C0 := RX9) (T := TX9) (N := 19) (k := 7) (b := 50) rfl (by decide) iw_9 (by decide) rfl rfl fl_9_36 rfl (by decide) rfl (by decide) (dd dt_9_init 82 rfl) ?_
  refine N_iload_n (dd dt_9_init 83 rfl) 1 rfl rfl ?_
  refine N_aald (ci := 23) (t0 := 3) (b := 56) (by decide) rfl (by decide) rfl (by decide) (by decide) rfl rfl (dd dt_9_init 84 rfl) ?_
  refine N_iconst (v := 1) (dd dt_9_init 85 rfl) (by decide) ?_
  refine N_callS (c_fill rfl (by decide) (by decide) (by decide)) cal_J7_fill rfl sc_J7_fill ml_9_101 (by decide) (by decide) (dd dt_9_init 86 rfl) ?_
  refine N_aload_n (dd dt_9_init 87 rfl) 0 rfl rfl ?_
  refine N_getR (C0 := RX9) (T := TX9) (N := 19) (k := 7) (b := 50) rfl (by decide) iw_9 (by decide) rfl rfl fl_9_36 rfl (by decide) rfl (by decide) (dd dt_9_init 88 rfl) ?_
  refine N_iload_n (dd dt_9_init 89 rfl) 1 rfl rfl ?_
  refine N_aald (ci := 23) (t0 := 3) (b := 56) (by decide) rfl (by decide) rfl (by decide) (by decide) rfl rfl (dd dt_9_init 90 rfl) ?_
  refine N_iload_n (dd dt_9_init 91 rfl) 1 rfl rfl ?_
  refine N_iconst (v := 0) (dd dt_9_init 92 rfl) (by decide) ?_
  refine N_isto (μ' := rstep _ 56 5) (by decide) rfl (by decide) rfl (dd dt_9_init 93 rfl) ?_
  refine N_iinc (v := 1) (lv' := [some (.ref 49), some (.int 6)]) (dd dt_9_init 94 rfl) (by decide) rfl rfl ic_1 rfl ?_
  refine N_goto (dd dt_9_init 95 rfl) (tgt := 154) rfl ?_
  refine N_iload_n (dd dt_9_init 78 rfl) 1 rfl rfl ?_
  refine N_bipush (v := 6) (dd dt_9_init 79 rfl) (by decide) ?_
  refine N_cmpge (dd dt_9_init 80 rfl) (tgt := 185) rfl (fun _ => ?_) (fun q => absurd (by decide) q)
  refine N_iconst (v := 0) (dd dt_9_init 96 rfl) (by decide) ?_
  refine N_istore_n (lv' := [some (.ref 49), some (.int 0)]) (dd dt_9_init 97 rfl) 1 rfl (by decide) rfl rfl ?_
  refine N_iload_n (dd dt_9_init 98 rfl) 1 rfl rfl ?_
  refine N_iconst (v := 4) (dd dt_9_init 99 rfl) (by decide) ?_
  refine N_cmpge (dd dt_9_init 100 rfl) (tgt := 211) rfl (fun q => absurd q (by decide)) (fun _ => ?_)
  refine N_aload_n (dd dt_9_init 101 rfl) 0 rfl rfl ?_
  refine N_getR (C0 := RX9) (T := TX9) (N := 19) (k := 8) (b := 57) rfl (by decide) iw_9 (by decide) rfl rfl fl_9_41 rfl (by decide) rfl (by decide) (dd dt_9_init 102 rfl) ?_
  refine N_iload_n (dd dt_9_init 103 rfl) 1 rfl rfl ?_
  refine N_new (ci := 4) (a := 101) (C1 := RX4) (T := TX4) (N := 7) (rc := 41) (rs := 1266) (by decide) tyX4 tyX4_ok rfl (by decide) iw_4 rfl (by decide) ci_9_39 ist_4 izt_4 rfl rfl (dd dt_9_init 104 rfl) ?_
  refine N_dup (dd dt_9_init 105 rfl) rfl ?_
  refine N_callN (mc := 0) (ms := 0) (rc := 41) (rs := 1266) (c_4 (by decide)) cal_4_init rfl rfl in_4_init mi_9_107 (by decide) rfl (by decide) (dd dt_9_init 106 rfl) ?_
  refine N_aast (a := 57) (b := 101) (ci := 4) (cr := 24) (t0 := 4) (by decide) rfl rfl (by decide) (by decide) rfl rfl (by decide) rfl (dd dt_9_init 107 rfl) ?_
  refine N_iinc (v := 1) (lv' := [some (.ref 49), some (.int 1)]) (dd dt_9_init 108 rfl) (by decide) rfl rfl ic_1 rfl ?_
  refine N_goto (dd dt_9_init 109 rfl) (tgt := 187) rfl ?_
  refine N_iload_n (dd dt_9_init 98 rfl) 1 rfl rfl ?_
  refine N_iconst (v := 4) (dd dt_9_init 99 rfl) (by decide) ?_
  refine N_cmpge (dd dt_9_init 100 rfl) (tgt := 211) rfl (fun q => absurd q (by decide)) (fun _ => ?_)
  refine N_aload_n (dd dt_9_init 101 rfl) 0 rfl rfl ?_
  refine N_getR (C0 := RX9) (T := TX9) (N := 19) (k := 8) (b := 57) rfl (by decide) iw_9 (by decide) rfl rfl fl_9_41 rfl (by decide) rfl (by decide) (dd dt_9_init 102 rfl) ?_
  refine N_iload_n (dd dt_9_init 103 rfl) 1 rfl rfl ?_
  refine N_new (ci := 4) (a := 102) (C1 := RX4) (T := TX4) (N := 7) (rc := 40) (rs := 1259) (by decide) tyX4 tyX4_ok rfl (by decide) iw_4 rfl (by decide) ci_9_39 ist_4 izt_4 rfl rfl (dd dt_9_init 104 rfl) ?_
  refine N_dup (dd dt_9_init 105 rfl) rfl ?_
  refine N_callN (mc := 0) (ms := 0) (rc := 40) (rs := 1259) (c_4 (by decide)) cal_4_init rfl rfl in_4_init mi_9_107 (by decide) rfl (by decide) (dd dt_9_init 106 rfl) ?_
  refine N_aast (a := 57) (b := 102) (ci := 4) (cr := 24) (t0 := 4) (by decide) rfl rfl (by decide) (by decide) rfl rfl (by decide) rfl (dd dt_9_init 107 rfl) ?_
  refine N_iinc (v := 1) (lv' := [some (.ref 49), some (.int 2)]) (dd dt_9_init 108 rfl) (by decide) rfl rfl ic_1 rfl ?_
  refine N_goto (dd dt_9_init 109 rfl) (tgt := 187) rfl ?_
  refine N_iload_n (dd dt_9_init 98 rfl) 1 rfl rfl ?_
  refine N_iconst (v := 4) (dd dt_9_init 99 rfl) (by decide) ?_
  refine N_cmpge (dd dt_9_init 100 rfl) (tgt := 211) rfl (fun q => absurd q (by decide)) (fun _ => ?_)
  refine N_aload_n (dd dt_9_init 101 rfl) 0 rfl rfl ?_
  refine N_getR (C0 := RX9) (T := TX9) (N := 19) (k := 8) (b := 57) rfl (by decide) iw_9 (by decide) rfl rfl fl_9_41 rfl (by decide) rfl (by decide) (dd dt_9_init 102 rfl) ?_
  refine N_iload_n (dd dt_9_init 103 rfl) 1 rfl rfl ?_
  refine N_new (ci := 4) (a := 103) (C1 := RX4) (T := TX4) (N := 7) (rc := 39) (rs := 1252) (by decide) tyX4 tyX4_ok rfl (by decide) iw_4 rfl (by decide) ci_9_39 ist_4 izt_4 rfl rfl (dd dt_9_init 104 rfl) ?_
  refine N_dup (dd dt_9_init 105 rfl) rfl ?_
  refine N_callN (mc := 0) (ms := 0) (rc := 39) (rs := 1252) (c_4 (by decide)) cal_4_init rfl rfl in_4_init mi_9_107 (by decide) rfl (by decide) (dd dt_9_init 106 rfl) ?_
  refine N_aast (a := 57) (b := 103) (ci := 4) (cr := 24) (t0 := 4) (by decide) rfl rfl (by decide) (by decide) rfl rfl (by decide) rfl (dd dt_9_init 107 rfl) ?_
  refine N_iinc (v := 1) (lv' := [some (.ref 49), some (.int 3)]) (dd dt_9_init 108 rfl) (by decide) rfl rfl ic_1 rfl ?_
  refine N_goto (dd dt_9_init 109 rfl) (tgt := 187) rfl ?_
  refine N_iload_n (dd dt_9_init 98 rfl) 1 rfl rfl ?_
  refine N_iconst (v := 4) (dd dt_9_init 99 rfl) (by decide) ?_
  refine N_cmpge (dd dt_9_init 100 rfl) (tgt := 211) rfl (fun q => absurd q (by decide)) (fun _ => ?_)
  refine N_aload_n (dd dt_9_init 101 rfl) 0 rfl rfl ?_
  refine N_getR (C0 := RX9) (T := TX9) (N := 19) (k := 8) (b := 57) rfl (by decide) iw_9 (by decide) rfl rfl fl_9_41 rfl (by decide) rfl (by decide) (dd dt_9_init 102 rfl) ?_
  refine N_iload_n (dd dt_9_init 103 rfl) 1 rfl rfl ?_
  refine N_new (ci := 4) (a := 104) (C1 := RX4) (T := TX4) (N := 7) (rc := 38) (rs := 1245) (by decide) tyX4 tyX4_ok rfl (by decide) iw_4 rfl (by decide) ci_9_39 ist_4 izt_4 rfl rfl (dd dt_9_init 104 rfl) ?_
  refine N_dup (dd dt_9_init 105 rfl) rfl ?_
  refine N_callN (mc := 0) (ms := 0) (rc := 38) (rs := 1245) (c_4 (by decide)) cal_4_init rfl rfl in_4_init mi_9_107 (by decide) rfl (by decide) (dd dt_9_init 106 rfl) ?_
  refine N_aast (a := 57) (b := 104) (ci := 4) (cr := 24) (t0 := 4) (by decide) rfl rfl (by decide) (by decide) rfl rfl (by decide) rfl (dd dt_9_init 107 rfl) ?_
  refine N_iinc (v := 1) (lv' := [some (.ref 49), some (.int 4)]) (dd dt_9_init 108 rfl) (by decide) rfl rfl ic_1 rfl ?_
  refine N_goto (dd dt_9_init 109 rfl) (tgt := 187) rfl ?_
  refine N_iload_n (dd dt_9_init 98 rfl) 1 rfl rfl ?_
  refine N_iconst (v := 4) (dd dt_9_init 99 rfl) (by decide) ?_
  refine N_cmpge (dd dt_9_init 100 rfl) (tgt := 211) rfl (fun _ => ?_) (fun q => absurd (by decide) q)
  refine N_iconst (v := 0) (dd dt_9_init 110 rfl) (by decide) ?_
  refine N_istore_n (lv' := [some (.ref 49), some (.int 0)]) (dd dt_9_init 111 rfl) 1 rfl (by decide) rfl rfl ?_
  refine N_iload_n (dd dt_9_init 112 rfl) 1 rfl rfl ?_
  refine N_iconst (v := 4) (dd dt_9_init 113 rfl) (by decide) ?_
  refine N_cmpge (dd dt_9_init 114 rfl) (tgt := 237) rfl (fun q => absurd q (by decide)) (fun _ => ?_)
  refine N_aload_n (dd dt_9_init 115 rfl) 0 rfl rfl ?_
  refine N_getR (C0 := RX9) (T := TX9) (N := 19) (k := 9) (b := 58) rfl (by decide) iw_9 (by decide) rfl rfl fl_9_47 rfl (by decide) rfl (by decide) (dd dt_9_init 116 rfl) ?_
  refine N_iload_n (dd dt_9_init 117 rfl) 1 rfl rfl ?_
  refine N_new (ci := 6) (a := 105) (C1 := RX6) (T := TX6) (N := 3) (rc := 37) (rs := 1242) (by decide) tyX6 tyX6_ok rfl (by decide) iw_6 rfl (by decide) ci_9_45 ist_6 izt_6 rfl rfl (dd dt_9_init 118 rfl) ?_
  refine N_dup (dd dt_9_init 119 rfl) rfl ?_
  refine N_callN (mc := 0) (ms := 0) (rc := 37) (rs := 1242) (c_6 (by decide)) cal_6_init rfl rfl in_6_init mi_9_108 (by decide) rfl (by decide) (dd dt_9_init 120 rfl) ?_
  refine N_aast (a := 58) (b := 105) (ci := 6) (cr := 25) (t0 := 5) (by decide) rfl rfl (by decide) (by decide) rfl rfl (by decide) rfl (dd dt_9_init 121 rfl) ?_
  refine N_iinc (v := 1) (lv' := [some (.ref 49), some (.int 1)]) (dd dt_9_init 122 rfl) (by decide) rfl rfl ic_1 rfl ?_
  refine N_goto (dd dt_9_init 123 rfl) (tgt := 213) rfl ?_
  refine N_iload_n (dd dt_9_init 112 rfl) 1 rfl rfl ?_
  refine N_iconst (v := 4) (dd dt_9_init 113 rfl) (by decide) ?_
  refine N_cmpge (dd dt_9_init 114 rfl) (tgt := 237) rfl (fun q => absurd q (by decide)) (fun _ => ?_)
  refine N_aload_n (dd dt_9_init 115 rfl) 0 rfl rfl ?_
  refine N_getR (C0 := RX9) (T := TX9) (N := 19) (k := 9) (b := 58) rfl (by decide) iw_9 (by decide) rfl rfl fl_9_47 rfl (by decide) rfl (by decide) (dd dt_9_init 116 rfl) ?_
  refine N_iload_n (dd dt_9_init 117 rfl) 1 rfl rfl ?_
  refine N_new (ci := 6) (a := 106) (C1 := RX6) (T := TX6) (N := 3) (rc := 36) (rs := 1239) (by decide) tyX6 tyX6_ok rfl (by decide) iw_6 rfl (by decide) ci_9_45 ist_6 izt_6 rfl rfl (dd dt_9_init 118 rfl) ?_
  refine N_dup (dd dt_9_init 119 rfl) rfl ?_
  refine N_callN (mc := 0) (ms := 0) (rc := 36) (rs := 1239) (c_6 (by decide)) cal_6_init rfl rfl in_6_init mi_9_108 (by decide) rfl (by decide) (dd dt_9_init 120 rfl) ?_
  refine N_aast (a := 58) (b := 106) (ci := 6) (cr := 25) (t0 := 5) (by decide) rfl rfl (by decide) (by decide) rfl rfl (by decide) rfl (dd dt_9_init 121 rfl) ?_
  refine N_iinc (v := 1) (lv' := [some (.ref 49), some (.int 2)]) (dd dt_9_init 122 rfl) (by decide) rfl rfl ic_1 rfl ?_
  refine N_goto (dd dt_9_init 123 rfl) (tgt := 213) rfl ?_
  refine N_iload_n (dd dt_9_init 112 rfl) 1 rfl rfl ?_
  refine N_iconst (v := 4) (dd dt_9_init 113 rfl) (by decide) ?_
  refine N_cmpge (dd dt_9_init 114 rfl) (tgt := 237) rfl (fun q => absurd q (by decide)) (fun _ => ?_)
  refine N_aload_n (dd dt_9_init 115 rfl) 0 rfl rfl ?_
  refine N_getR (C0 := RX9) (T := TX9) (N := 19) (k := 9) (b := 58) rfl (by decide) iw_9 (by decide) rfl rfl fl_9_47 rfl (by decide) rfl (by decide) (dd dt_9_init 116 rfl) ?_
  refine N_iload_n (dd dt_9_init 117 rfl) 1 rfl rfl ?_
  refine N_new (ci := 6) (a := 107) (C1 := RX6) (T := TX6) (N := 3) (rc := 35) (rs := 1236) (by decide) tyX6 tyX6_ok rfl (by decide) iw_6 rfl (by decide) ci_9_45 ist_6 izt_6 rfl rfl (dd dt_9_init 118 rfl) ?_
  refine N_dup (dd dt_9_init 119 rfl) rfl ?_
  refine N_callN (mc := 0) (ms := 0) (rc := 35) (rs := 1236) (c_6 (by decide)) cal_6_init rfl rfl in_6_init mi_9_108 (by decide) rfl (by decide) (dd dt_9_init 120 rfl) ?_
  refine N_aast (a := 58) (b := 107) (ci := 6) (cr := 25) (t0 := 5) (by decide) rfl rfl (by decide) (by decide) rfl rfl (by decide) rfl (dd dt_9_init 121 rfl) ?_
  refine N_iinc (v := 1) (lv' := [some (.ref 49), some (.int 3)]) (dd dt_9_init 122 rfl) (by decide) rfl rfl ic_1 rfl ?_
  refine N_goto (dd dt_9_init 123 rfl) (tgt := 213) rfl ?_
  refine N_iload_n (dd dt_9_init 112 rfl) 1 rfl rfl ?_
  refine N_iconst (v := 4) (dd dt_9_init 113 rfl) (by decide) ?_
  refine N_cmpge (dd dt_9_init 114 rfl) (tgt := 237) rfl (fun q => absurd q (by decide)) (fun _ => ?_)
  refine N_aload_n (dd dt_9_init 115 rfl) 0 rfl rfl ?_
  refine N_getR (C0 := RX9) (T := TX9) (N := 19) (k := 9) (b := 58) rfl (by decide) iw_9 (by decide) rfl rfl fl_9_47 rfl (by decide) rfl (by decide) (dd dt_9_init 116 rfl) ?_
  refine N_iload_n (dd dt_9_init 117 rfl) 1 rfl rfl ?_
  refine N_new (ci := 6) (a := 108) (C1 := RX6) (T := TX6) (N := 3) (rc := 34) (rs := 1233) (by decide) tyX6 tyX6_ok rfl (by decide) iw_6 rfl (by decide) ci_9_45 ist_6 izt_6 rfl rfl (dd dt_9_init 118 rfl) ?_
  refine N_dup (dd dt_9_init 119 rfl) rfl ?_
  refine N_callN (mc := 0) (ms := 0) (rc := 34) (rs := 1233) (c_6 (by decide)) cal_6_init rfl rfl in_6_init mi_9_108 (by decide) rfl (by decide) (dd dt_9_init 120 rfl) ?_
  refine N_aast (a := 58) (b := 108) (ci := 6) (cr := 25) (t0 := 5) (by decide) rfl rfl (by decide) (by decide) rfl rfl (by decide) rfl (dd dt_9_init 121 rfl) ?_
  refine N_iinc (v := 1) (lv' := [some (.ref 49), some (.int 4)]) (dd dt_9_init 122 rfl) (by decide) rfl rfl ic_1 rfl ?_
  refine N_goto (dd dt_9_init 123 rfl) (tgt := 213) rfl ?_
  refine N_iload_n (dd dt_9_init 112 rfl) 1 rfl rfl ?_
  refine N_iconst (v := 4) (dd dt_9_init 113 rfl) (by decide) ?_
  refine N_cmpge (dd dt_9_init 114 rfl) (tgt := 237) rfl (fun _ => ?_) (fun q => absurd (by decide) q)
  refine N_iconst (v := 0) (dd dt_9_init 124 rfl) (by decide) ?_
  refine N_istore_n (lv' := [some (.ref 49), some (.int 0)]) (dd dt_9_init 125 rfl) 1 rfl (by decide) rfl rfl ?_
  refine N_iload_n (dd dt_9_init 126 rfl) 1 rfl rfl ?_
  refine N_bipush (v := 16) (dd dt_9_init 127 rfl) (by decide) ?_
  refine N_cmpge (dd dt_9_init 128 rfl) (tgt := 264) rfl (fun q => absurd q (by decide)) (fun _ => ?_)
  refine N_aload_n (dd dt_9_init 129 rfl) 0 rfl rfl ?_
  refine N_getR (C0 := RX9) (T := TX9) (N := 19) (k := 10) (b := 59) rfl (by decide) iw_9 (by decide) rfl rfl fl_9_53 rfl (by decide) rfl (by decide) (dd dt_9_init 130 rfl) ?_
  refine N_iload_n (dd dt_9_init 131 rfl) 1 rfl rfl ?_
  refine N_new (ci := 1) (a := 109) (C1 := RX1) (T := TX1) (N := 12) (rc := 33) (rs := 1221) (by decide) tyX1 tyX1_ok rfl (by decide) iw_1 rfl (by decide) ci_9_51 ist_1 izt_1 rfl rfl (dd dt_9_init 132 rfl) ?_
  refine N_dup (dd dt_9_init 133 rfl) rfl ?_
  refine N_callN (mc := 0) (ms := 0) (rc := 33) (rs := 1221) (c_1 (by decide)) cal_1_init rfl rfl in_1_init mi_9_109 (by decide) rfl (by decide) (dd dt_9_init 134 rfl) ?_
  refine N_aast (a := 59) (b := 109) (ci := 1) (cr := 26) (t0 := 6) (by decide) rfl rfl (by decide) (by decide) rfl rfl (by decide) rfl (dd dt_9_init 135 rfl) ?_
  refine N_iinc (v := 1) (lv' := [some (.ref 49), some (.int 1)]) (dd dt_9_init 136 rfl) (by decide) rfl rfl ic_1 rfl ?_
  refine N_goto (dd dt_9_init 137 rfl) (tgt := 239) rfl ?_
  refine N_iload_n (dd dt_9_init 126 rfl) 1 rfl rfl ?_
  refine N_bipush (v := 16) (dd dt_9_init 127 rfl) (by decide) ?_
  refine N_cmpge (dd dt_9_init 128 rfl) (tgt := 264) rfl (fun q => absurd q (by decide)) (fun _ => ?_)
  refine N_aload_n (dd dt_9_init 129 rfl) 0 rfl rfl ?_
  refine N_getR (C0 := RX9) (T := TX9) (N := 19) (k := 10) (b := 59) rfl (by decide) iw_9 (by decide) rfl rfl fl_9_53 rfl (by decide) rfl (by decide) (dd dt_9_init 130 rfl) ?_
  refine N_iload_n (dd dt_9_init 131 rfl) 1 rfl rfl ?_
  refine N_new (ci := 1) (a := 110) (C1 := RX1) (T := TX1) (N := 12) (rc := 32) (rs := 1209) (by decide) tyX1 tyX1_ok rfl (by decide) iw_1 rfl (by decide) ci_9_51 ist_1 izt_1 rfl rfl (dd dt_9_init 132 rfl) ?_
  refine N_dup (dd dt_9_init 133 rfl) rfl ?_
  refine N_callN (mc := 0) (ms := 0) (rc := 32) (rs := 1209) (c_1 (by decide)) cal_1_init rfl rfl in_1_init mi_9_109 (by decide) rfl (by decide) (dd dt_9_init 134 rfl) ?_
  refine N_aast (a := 59) (b := 110) (ci := 1) (cr := 26) (t0 := 6) (by decide) rfl rfl (by decide) (by decide) rfl rfl (by decide) rfl (dd dt_9_init 135 rfl) ?_
  refine N_iinc (v := 1) (lv' := [some (.ref 49), some (.int 2)]) (dd dt_9_init 136 rfl) (by decide) rfl rfl ic_1 rfl ?_
  refine N_goto (dd dt_9_init 137 rfl) (tgt := 239) rfl ?_
  refine N_iload_n (dd dt_9_init 126 rfl) 1 rfl rfl ?_
  refine N_bipush (v := 16) (dd dt_9_init 127 rfl) (by decide) ?_
  refine N_cmpge (dd dt_9_init 128 rfl) (tgt := 264) rfl (fun q => absurd q (by decide)) (fun _ => ?_)
  refine N_aload_n (dd dt_9_init 129 rfl) 0 rfl rfl ?_
  refine N_getR (C0 := RX9) (T := TX9) (N := 19) (k := 10) (b := 59) rfl (by decide) iw_9 (by decide) rfl rfl fl_9_53 rfl (by decide) rfl (by decide) (dd dt_9_init 130 rfl) ?_
  refine N_iload_n (dd dt_9_init 131 rfl) 1 rfl rfl ?_
  refine N_new (ci := 1) (a := 111) (C1 := RX1) (T := TX1) (N := 12) (rc := 31) (rs := 1197) (by decide) tyX1 tyX1_ok rfl (by decide) iw_1 rfl (by decide) ci_9_51 ist_1 izt_1 rfl rfl (dd dt_9_init 132 rfl) ?_
  refine N_dup (dd dt_9_init 133 rfl) rfl ?_
  refine N_callN (mc := 0) (ms := 0) (rc := 31) (rs := 1197) (c_1 (by decide)) cal_1_init rfl rfl in_1_init mi_9_109 (by decide) rfl (by decide) (dd dt_9_init 134 rfl) ?_
  refine N_aast (a := 59) (b := 111) (ci := 1) (cr := 26) (t0 := 6) (by decide) rfl rfl (by decide) (by decide) rfl rfl (by decide) rfl (dd dt_9_init 135 rfl) ?_
  refine N_iinc (v := 1) (lv' := [some (.ref 49), some (.int 3)]) (dd dt_9_init 136 rfl) (by decide) rfl rfl ic_1 rfl ?_
  refine N_goto (dd dt_9_init 137 rfl) (tgt := 239) rfl ?_
  refine N_iload_n (dd dt_9_init 126 rfl) 1 rfl rfl ?_
  refine N_bipush (v := 16) (dd dt_9_init 127 rfl) (by decide) ?_
  refine N_cmpge (dd dt_9_init 128 rfl) (tgt := 264) rfl (fun q => absurd q (by decide)) (fun _ => ?_)
  refine N_aload_n (dd dt_9_init 129 rfl) 0 rfl rfl ?_
  refine N_getR (C0 := RX9) (T := TX9) (N := 19) (k := 10) (b := 59) rfl (by decide) iw_9 (by decide) rfl rfl fl_9_53 rfl (by decide) rfl (by decide) (dd dt_9_init 130 rfl) ?_
  refine N_iload_n (dd dt_9_init 131 rfl) 1 rfl rfl ?_
  refine N_new (ci := 1) (a := 112) (C1 := RX1) (T := TX1) (N := 12) (rc := 30) (rs := 1185) (by decide) tyX1 tyX1_ok rfl (by decide) iw_1 rfl (by decide) ci_9_51 ist_1 izt_1 rfl rfl (dd dt_9_init 132 rfl) ?_
  refine N_dup (dd dt_9_init 133 rfl) rfl ?_
  refine N_callN (mc := 0) (ms := 0) (rc := 30) (rs := 1185) (c_1 (by decide)) cal_1_init rfl rfl in_1_init mi_9_109 (by decide) rfl (by decide) (dd dt_9_init 134 rfl) ?_
  refine N_aast (a := 59) (b := 112) (ci := 1) (cr := 26) (t0 := 6) (by decide) rfl rfl (by decide) (by decide) rfl rfl (by decide) rfl (dd dt_9_init 135 rfl) ?_
  refine N_iinc (v := 1) (lv' := [some (.ref 49), some (.int 4)]) (dd dt_9_init 136 rfl) (by decide) rfl rfl ic_1 rfl ?_
  refine N_goto (dd dt_9_init 137 rfl) (tgt := 239) rfl ?_
  refine N_iload_n (dd dt_9_init 126 rfl) 1 rfl rfl ?_
  refine N_bipush (v := 16) (dd dt_9_init 127 rfl) (by decide) ?_
  refine N_cmpge (dd dt_9_init 128 rfl) (tgt := 264) rfl (fun q => absurd q (by decide)) (fun _ => ?_)
  refine N_aload_n (dd dt_9_init 129 rfl) 0 rfl rfl ?_
  refine N_getR (C0 := RX9) (T := TX9) (N := 19) (k := 10) (b := 59) rfl (by decide) iw_9 (by decide) rfl rfl fl_9_53 rfl (by decide) rfl (by decide) (dd dt_9_init 130 rfl) ?_
  refine N_iload_n (dd dt_9_init 131 rfl) 1 rfl rfl ?_
  refine N_new (ci := 1) (a := 113) (C1 := RX1) (T := TX1) (N := 12) (rc := 29) (rs := 1173) (by decide) tyX1 tyX1_ok rfl (by decide) iw_1 rfl (by decide) ci_9_51 ist_1 izt_1 rfl rfl (dd dt_9_init 132 rfl) ?_
  refine N_dup (dd dt_9_init 133 rfl) rfl ?_
  refine N_callN (mc := 0) (ms := 0) (rc := 29) (rs := 1173) (c_1 (by decide)) cal_1_init rfl rfl in_1_init mi_9_109 (by decide) rfl (by decide) (dd dt_9_init 134 rfl) ?_
  refine N_aast (a := 59) (b := 113) (ci := 1) (cr := 26) (t0 := 6) (by decide) rfl rfl (by decide) (by decide) rfl rfl (by decide) rfl (dd dt_9_init 135 rfl) ?_
  refine N_iinc (v := 1) (lv' := [some (.ref 49), some (.int 5)]) (dd dt_9_init 136 rfl) (by decide) rfl rfl ic_1 rfl ?_
  refine N_goto (dd dt_9_init 137 rfl) (tgt := 239) rfl ?_
  refine N_iload_n (dd dt_9_init 126 rfl) 1 rfl rfl ?_
  refine N_bipush (v := 16) (dd dt_9_init 127 rfl) (by decide) ?_
  refine N_cmpge (dd dt_9_init 128 rfl) (tgt := 264) rfl (fun q => absurd q (by decide)) (fun _ => ?_)
  refine N_aload_n (dd dt_9_init 129 rfl) 0 rfl rfl ?_
  refine N_getR (C0 := RX9) (T := TX9) (N := 19) (k := 10) (b := 59) rfl (by decide) iw_9 (by decide) rfl rfl fl_9_53 rfl (by decide) rfl (by decide) (dd dt_9_init 130 rfl) ?_
  refine N_iload_n (dd dt_9_init 131 rfl) 1 rfl rfl ?_
  refine N_new (ci := 1) (a := 114) (C1 := RX1) (T := TX1) (N := 12) (rc := 28) (rs := 1161) (by decide) tyX1 tyX1_ok rfl (by decide) iw_1 rfl (by decide) ci_9_51 ist_1 izt_1 rfl rfl (dd dt_9_init 132 rfl) ?_
  refine N_dup (dd dt_9_init 133 rfl) rfl ?_
  refine N_callN (mc := 0) (ms := 0) (rc := 28) (rs := 1161) (c_1 (by decide)) cal_1_init rfl rfl in_1_init mi_9_109 (by decide) rfl (by decide) (dd dt_9_init 134 rfl) ?_
  refine N_aast (a := 59) (b := 114) (ci := 1) (cr := 26) (t0 := 6) (by decide) rfl rfl (by decide) (by decide) rfl rfl (by decide) rfl (dd dt_9_init 135 rfl) ?_
  refine N_iinc (v := 1) (lv' := [some (.ref 49), some (.int 6)]) (dd dt_9_init 136 rfl) (by decide) rfl rfl ic_1 rfl ?_
  refine N_goto (dd dt_9_init 137 rfl) (tgt := 239) rfl ?_
  refine N_iload_n (dd dt_9_init 126 rfl) 1 rfl rfl ?_
  refine N_bipush (v := 16) (dd dt_9_init 127 rfl) (by decide) ?_
  refine N_cmpge (dd dt_9_init 128 rfl) (tgt := 264) rfl (fun q => absurd q (by decide)) (fun _ => ?_)
  refine N_aload_n (dd dt_9_init 129 rfl) 0 rfl rfl ?_
  refine N_getR (C0 := RX9) (T := TX9) (N := 19) (k := 10) (b := 59) rfl (by decide) iw_9 (by decide) rfl rfl fl_9_53 rfl (by decide) rfl (by decide) (dd dt_9_init 130 rfl) ?_
  refine N_iload_n (dd dt_9_init 131 rfl) 1 rfl rfl ?_
  refine N_new (ci := 1) (a := 115) (C1 := RX1) (T := TX1) (N := 12) (rc := 27) (rs := 1149) (by decide) tyX1 tyX1_ok rfl (by decide) iw_1 rfl (by decide) ci_9_51 ist_1 izt_1 rfl rfl (dd dt_9_init 132 rfl) ?_
  refine N_dup (dd dt_9_init 133 rfl) rfl ?_
  refine N_callN (mc := 0) (ms := 0) (rc := 27) (rs := 1149) (c_1 (by decide)) cal_1_init rfl rfl in_1_init mi_9_109 (by decide) rfl (by decide) (dd dt_9_init 134 rfl) ?_
  refine N_aast (a := 59) (b := 115) (ci := 1) (cr := 26) (t0 := 6) (by decide) rfl rfl (by decide) (by decide) rfl rfl (by decide) rfl (dd dt_9_init 135 rfl) ?_
  refine N_iinc (v := 1) (lv' := [some (.ref 49), some (.int 7)]) (dd dt_9_init 136 rfl) (by decide) rfl rfl ic_1 rfl ?_
  refine N_goto (dd dt_9_init 137 rfl) (tgt := 239) rfl ?_
  refine N_iload_n (dd dt_9_init 126 rfl) 1 rfl rfl ?_
  refine N_bipush (v := 16) (dd dt_9_init 127 rfl) (by decide) ?_
  refine N_cmpge (dd dt_9_init 128 rfl) (tgt := 264) rfl (fun q => absurd q (by decide)) (fun _ => ?_)
  refine N_aload_n (dd dt_9_init 129 rfl) 0 rfl rfl ?_
  refine N_getR (C0 := RX9) (T := TX9) (N := 19) (k := 10) (b := 59) rfl (by decide) iw_9 (by decide) rfl rfl fl_9_53 rfl (by decide) rfl (by decide) (dd dt_9_init 130 rfl) ?_
  refine N_iload_n (dd dt_9_init 131 rfl) 1 rfl rfl ?_
  refine N_new (ci := 1) (a := 116) (C1 := RX1) (T := TX1) (N := 12) (rc := 26) (rs := 1137) (by decide) tyX1 tyX1_ok rfl (by decide) iw_1 rfl (by decide) ci_9_51 ist_1 izt_1 rfl rfl (dd dt_9_init 132 rfl) ?_
  refine N_dup (dd dt_9_init 133 rfl) rfl ?_
  refine N_callN (mc := 0) (ms := 0) (rc := 26) (rs := 1137) (c_1 (by decide)) cal_1_init rfl rfl in_1_init mi_9_109 (by decide) rfl (by decide) (dd dt_9_init 134 rfl) ?_
  refine N_aast (a := 59) (b := 116) (ci := 1) (cr := 26) (t0 := 6) (by decide) rfl rfl (by decide) (by decide) rfl rfl (by decide) rfl (dd dt_9_init 135 rfl) ?_
  refine N_iinc (v := 1) (lv' := [some (.ref 49), some (.int 8)]) (dd dt_9_init 136 rfl) (by decide) rfl rfl ic_1 rfl ?_
  refine N_goto (dd dt_9_init 137 rfl) (tgt := 239) rfl ?_
  refine N_iload_n (dd dt_9_init 126 rfl) 1 rfl rfl ?_
  refine N_bipush (v := 16) (dd dt_9_init 127 rfl) (by decide) ?_
  refine N_cmpge (dd dt_9_init 128 rfl) (tgt := 264) rfl (fun q => absurd q (by decide)) (fun _ => ?_)
  refine N_aload_n (dd dt_9_init 129 rfl) 0 rfl rfl ?_
  refine N_getR (C0 := RX9) (T := TX9) (N := 19) (k := 10) (b := 59) rfl (by decide) iw_9 (by decide) rfl rfl fl_9_53 rfl (by decide) rfl (by decide) (dd dt_9_init 130 rfl) ?_
  refine N_iload_n (dd dt_9_init 131 rfl) 1 rfl rfl ?_
  refine N_new (ci := 1) (a := 117) (C1 := RX1) (T := TX1) (N := 12) (rc := 25) (rs := 1125) (by decide) tyX1 tyX1_ok rfl (by decide) iw_1 rfl (by decide) ci_9_51 ist_1 izt_1 rfl rfl (dd dt_9_init 132 rfl) ?_
  refine N_dup (dd dt_9_init 133 rfl) rfl ?_
  refine N_callN (mc := 0) (ms := 0) (rc := 25) (rs := 1125) (c_1 (by decide)) cal_1_init rfl rfl in_1_init mi_9_109 (by decide) rfl (by decide) (dd dt_9_init 134 rfl) ?_
  refine N_aast (a := 59) (b := 117) (ci := 1) (cr := 26) (t0 := 6) (by decide) rfl rfl (by decide) (by decide) rfl rfl (by decide) rfl (dd dt_9_init 135 rfl) ?_
  refine N_iinc (v := 1) (lv' := [some (.ref 49), some (.int 9)]) (dd dt_9_init 136 rfl) (by decide) rfl rfl ic_1 rfl ?_
  refine N_goto (dd dt_9_init 137 rfl) (tgt := 239) rfl ?_
  refine N_iload_n (dd dt_9_init 126 rfl) 1 rfl rfl ?_
  refine N_bipush (v := 16) (dd dt_9_init 127 rfl) (by decide) ?_
  refine N_cmpge (dd dt_9_init 128 rfl) (tgt := 264) rfl (fun q => absurd q (by decide)) (fun _ => ?_)
  refine N_aload_n (dd dt_9_init 129 rfl) 0 rfl rfl ?_
  refine N_getR (C0 := RX9) (T := TX9) (N := 19) (k := 10) (b := 59) rfl (by decide) iw_9 (by decide) rfl rfl fl_9_53 rfl (by decide) rfl (by decide) (dd dt_9_init 130 rfl) ?_
  refine N_iload_n (dd dt_9_init 131 rfl) 1 rfl rfl ?_
  refine N_new (ci := 1) (a := 118) (C1 := RX1) (T := TX1) (N := 12) (rc := 24) (rs := 1113) (by decide) tyX1 tyX1_ok rfl (by decide) iw_1 rfl (by decide) ci_9_51 ist_1 izt_1 rfl rfl (dd dt_9_init 132 rfl) ?_
  refine N_dup (dd dt_9_init 133 rfl) rfl ?_
  refine N_callN (mc := 0) (ms := 0) (rc := 24) (rs := 1113) (c_1 (by decide)) cal_1_init rfl rfl in_1_init mi_9_109 (by decide) rfl (by decide) (dd dt_9_init 134 rfl) ?_
  refine N_aast (a := 59) (b := 118) (ci := 1) (cr := 26) (t0 := 6) (by decide) rfl rfl (by decide) (by decide) rfl rfl (by decide) rfl (dd dt_9_init 135 rfl) ?_
  refine N_iinc (v := 1) (lv' := [some (.ref 49), some (.int 10)]) (dd dt_9_init 136 rfl) (by decide) rfl rfl ic_1 rfl ?_
  refine N_goto (dd dt_9_init 137 rfl) (tgt := 239) rfl ?_
  refine N_iload_n (dd dt_9_init 126 rfl) 1 rfl rfl ?_
  refine N_bipush (v := 16) (dd dt_9_init 127 rfl) (by decide) ?_
  refine N_cmpge (dd dt_9_init 128 rfl) (tgt := 264) rfl (fun q => absurd q (by decide)) (fun _ => ?_)
  refine N_aload_n (dd dt_9_init 129 rfl) 0 rfl rfl ?_
  refine N_getR (C0 := RX9) (T := TX9) (N := 19) (k := 10) (b := 59) rfl (by decide) iw_9 (by decide) rfl rfl fl_9_53 rfl (by decide) rfl (by decide) (dd dt_9_init 130 rfl) ?_
  refine N_iload_n (dd dt_9_init 131 rfl) 1 rfl rfl ?_
  refine N_new (ci := 1) (a := 119) (C1 := RX1) (T := TX1) (N := 12) (rc := 23) (rs := 1101) (by decide) tyX1 tyX1_ok rfl (by decide) iw_1 rfl (by decide) ci_9_51 ist_1 izt_1 rfl rfl (dd dt_9_init 132 rfl) ?_
  refine N_dup (dd dt_9_init 133 rfl) rfl ?_
  refine N_callN (mc := 0) (ms := 0) (rc := 23) (rs := 1101) (c_1 (by decide)) cal_1_init rfl rfl in_1_init mi_9_109 (by decide) rfl (by decide) (dd dt_9_init 134 rfl) ?_
  refine N_aast (a := 59) (b := 119) (ci := 1) (cr := 26) (t0 := 6) (by decide) rfl rfl (by decide) (by decide) rfl rfl (by decide) rfl (dd dt_9_init 135 rfl) ?_
  refine N_iinc (v := 1) (lv' := [some (.ref 49), some (.int 11)]) (dd dt_9_init 136 rfl) (by decide) rfl rfl ic_1 rfl ?_
  refine N_goto (dd dt_9_init 137 rfl) (tgt := 239) rfl ?_
  refine N_iload_n (dd dt_9_init 126 rfl) 1 rfl rfl ?_
  refine N_bipush (v := 16) (dd dt_9_init 127 rfl) (by decide) ?_
  refine N_cmpge (dd dt_9_init 128 rfl) (tgt := 264) rfl (fun q => absurd q (by decide)) (fun _ => ?_)
  refine N_aload_n (dd dt_9_init 129 rfl) 0 rfl rfl ?_
  refine N_getR (C0 := RX9) (T := TX9) (N := 19) (k := 10) (b := 59) rfl (by decide) iw_9 (by decide) rfl rfl fl_9_53 rfl (by decide) rfl (by decide) (dd dt_9_init 130 rfl) ?_
  refine N_iload_n (dd dt_9_init 131 rfl) 1 rfl rfl ?_
  refine N_new (ci := 1) (a := 120) (C1 := RX1) (T := TX1) (N := 12) (rc := 22) (rs := 1089) (by decide) tyX1 tyX1_ok rfl (by decide) iw_1 rfl (by decide) ci_9_51 ist_1 izt_1 rfl rfl (dd dt_9_init 132 rfl) ?_
  refine N_dup (dd dt_9_init 133 rfl) rfl ?_
  refine N_callN (mc := 0) (ms := 0) (rc := 22) (rs := 1089) (c_1 (by decide)) cal_1_init rfl rfl in_1_init mi_9_109 (by decide) rfl (by decide) (dd dt_9_init 134 rfl) ?_
  refine N_aast (a := 59) (b := 120) (ci := 1) (cr := 26) (t0 := 6) (by decide) rfl rfl (by decide) (by decide) rfl rfl (by decide) rfl (dd dt_9_init 135 rfl) ?_
  refine N_iinc (v := 1) (lv' := [some (.ref 49), some (.int 12)]) (dd dt_9_init 136 rfl) (by decide) rfl rfl ic_1 rfl ?_
  refine N_goto (dd dt_9_init 137 rfl) (tgt := 239) rfl ?_
  refine N_iload_n (dd dt_9_init 126 rfl) 1 rfl rfl ?_
  refine N_bipush (v := 16) (dd dt_9_init 127 rfl) (by decide) ?_
  refine N_cmpge (dd dt_9_init 128 rfl) (tgt := 264) rfl (fun q => absurd q (by decide)) (fun _ => ?_)
  refine N_aload_n (dd dt_9_init 129 rfl) 0 rfl rfl ?_
  refine N_getR (C0 := RX9) (T := TX9) (N := 19) (k := 10) (b := 59) rfl (by decide) iw_9 (by decide) rfl rfl fl_9_53 rfl (by decide) rfl (by decide) (dd dt_9_init 130 rfl) ?_
  refine N_iload_n (dd dt_9_init 131 rfl) 1 rfl rfl ?_
  refine N_new (ci := 1) (a := 121) (C1 := RX1) (T := TX1) (N := 12) (rc := 21) (rs := 1077) (by decide) tyX1 tyX1_ok rfl (by decide) iw_1 rfl (by decide) ci_9_51 ist_1 izt_1 rfl rfl (dd dt_9_init 132 rfl) ?_
  refine N_dup (dd dt_9_init 133 rfl) rfl ?_
  refine N_callN (mc := 0) (ms := 0) (rc := 21) (rs := 1077) (c_1 (by decide)) cal_1_init rfl rfl in_1_init mi_9_109 (by decide) rfl (by decide) (dd dt_9_init 134 rfl) ?_
  refine N_aast (a := 59) (b := 121) (ci := 1) (cr := 26) (t0 := 6) (by decide) rfl rfl (by decide) (by decide) rfl rfl (by decide) rfl (dd dt_9_init 135 rfl) ?_
  refine N_iinc (v := 1) (lv' := [some (.ref 49), some (.int 13)]) (dd dt_9_init 136 rfl) (by decide) rfl rfl ic_1 rfl ?_
  refine N_goto (dd dt_9_init 137 rfl) (tgt := 239) rfl ?_
  refine N_iload_n (dd dt_9_init 126 rfl) 1 rfl rfl ?_
  refine N_bipush (v := 16) (dd dt_9_init 127 rfl) (by decide) ?_
  refine N_cmpge (dd dt_9_init 128 rfl) (tgt := 264) rfl (fun q => absurd q (by decide)) (fun _ => ?_)
  refine N_aload_n (dd dt_9_init 129 rfl) 0 rfl rfl ?_
  refine N_getR (C0 := RX9) (T := TX9) (N := 19) (k := 10) (b := 59) rfl (by decide) iw_9 (by decide) rfl rfl fl_9_53 rfl (by decide) rfl (by decide) (dd dt_9_init 130 rfl) ?_
  refine N_iload_n (dd dt_9_init 131 rfl) 1 rfl rfl ?_
  refine N_new (ci := 1) (a := 122) (C1 := RX1) (T := TX1) (N := 12) (rc := 20) (rs := 1065) (by decide) tyX1 tyX1_ok rfl (by decide) iw_1 rfl (by decide) ci_9_51 ist_1 izt_1 rfl rfl (dd dt_9_init 132 rfl) ?_
  refine N_dup (dd dt_9_init 133 rfl) rfl ?_
  refine N_callN (mc := 0) (ms := 0) (rc := 20) (rs := 1065) (c_1 (by decide)) cal_1_init rfl rfl in_1_init mi_9_109 (by decide) rfl (by decide) (dd dt_9_init 134 rfl) ?_
  refine N_aast (a := 59) (b := 122) (ci := 1) (cr := 26) (t0 := 6) (by decide) rfl rfl (by decide) (by decide) rfl rfl (by decide) rfl (dd dt_9_init 135 rfl) ?_
  refine N_iinc (v := 1) (lv' := [some (.ref 49), some (.int 14)]) (dd dt_9_init 136 rfl) (by decide) rfl rfl ic_1 rfl ?_
  refine N_goto (dd dt_9_init 137 rfl) (tgt := 239) rfl ?_
  refine N_iload_n (dd dt_9_init 126 rfl) 1 rfl rfl ?_
  refine N_bipush (v := 16) (dd dt_9_init 127 rfl) (by decide) ?_
  refine N_cmpge (dd dt_9_init 128 rfl) (tgt := 264) rfl (fun q => absurd q (by decide)) (fun _ => ?_)
  refine N_aload_n (dd dt_9_init 129 rfl) 0 rfl rfl ?_
  refine N_getR (C0 := RX9) (T := TX9) (N := 19) (k := 10) (b := 59) rfl (by decide) iw_9 (by decide) rfl rfl fl_9_53 rfl (by decide) rfl (by decide) (dd dt_9_init 130 rfl) ?_
  refine N_iload_n (dd dt_9_init 131 rfl) 1 rfl rfl ?_
  refine N_new (ci := 1) (a := 123) (C1 := RX1) (T := TX1) (N := 12) (rc := 19) (rs := 1053) (by decide) tyX1 tyX1_ok rfl (by decide) iw_1 rfl (by decide) ci_9_51 ist_1 izt_1 rfl rfl (dd dt_9_init 132 rfl) ?_
  refine N_dup (dd dt_9_init 133 rfl) rfl ?_
  refine N_callN (mc := 0) (ms := 0) (rc := 19) (rs := 1053) (c_1 (by decide)) cal_1_init rfl rfl in_1_init mi_9_109 (by decide) rfl (by decide) (dd dt_9_init 134 rfl) ?_
  refine N_aast (a := 59) (b := 123) (ci := 1) (cr := 26) (t0 := 6) (by decide) rfl rfl (by decide) (by decide) rfl rfl (by decide) rfl (dd dt_9_init 135 rfl) ?_
  refine N_iinc (v := 1) (lv' := [some (.ref 49), some (.int 15)]) (dd dt_9_init 136 rfl) (by decide) rfl rfl ic_1 rfl ?_
  refine N_goto (dd dt_9_init 137 rfl) (tgt := 239) rfl ?_
  refine N_iload_n (dd dt_9_init 126 rfl) 1 rfl rfl ?_
  refine N_bipush (v := 16) (dd dt_9_init 127 rfl) (by decide) ?_
  refine N_cmpge (dd dt_9_init 128 rfl) (tgt := 264) rfl (fun q => absurd q (by decide)) (fun _ => ?_)
  refine N_aload_n (dd dt_9_init 129 rfl) 0 rfl rfl ?_
  refine N_getR (C0 := RX9) (T := TX9) (N := 19) (k := 10) (b := 59) rfl (by decide) iw_9 (by decide) rfl rfl fl_9_53 rfl (by decide) rfl (by decide) (dd dt_9_init 130 rfl) ?_
  refine N_iload_n (dd dt_9_init 131 rfl) 1 rfl rfl ?_
  refine N_new (ci := 1) (a := 124) (C1 := RX1) (T := TX1) (N := 12) (rc := 18) (rs := 1041) (by decide) tyX1 tyX1_ok rfl (by decide) iw_1 rfl (by decide) ci_9_51 ist_1 izt_1 rfl rfl (dd dt_9_init 132 rfl) ?_
  refine N_dup (dd dt_9_init 133 rfl) rfl ?_
  refine N_callN (mc := 0) (ms := 0) (rc := 18) (rs := 1041) (c_1 (by decide)) cal_1_init rfl rfl in_1_init mi_9_109 (by decide) rfl (by decide) (dd dt_9_init 134 rfl) ?_
  refine N_aast (a := 59) (b := 124) (ci := 1) (cr := 26) (t0 := 6) (by decide) rfl rfl (by decide) (by decide) rfl rfl (by decide) rfl (dd dt_9_init 135 rfl) ?_
  refine N_iinc (v := 1) (lv' := [some (.ref 49), some (.int 16)]) (dd dt_9_init 136 rfl) (by decide) rfl rfl ic_1 rfl ?_
  refine N_goto (dd dt_9_init 137 rfl) (tgt := 239) rfl ?_
  refine N_iload_n (dd dt_9_init 126 rfl) 1 rfl rfl ?_
  refine N_bipush (v := 16) (dd dt_9_init 127 rfl) (by decide) ?_
  refine N_cmpge (dd dt_9_init 128 rfl) (tgt := 264) rfl (fun _ => ?_) (fun q => absurd (by decide) q)
  refine N_iconst (v := 0) (dd dt_9_init 138 rfl) (by decide) ?_
  refine N_istore_n (lv' := [some (.ref 49), some (.int 0)]) (dd dt_9_init 139 rfl) 1 rfl (by decide) rfl rfl ?_
  refine N_iload_n (dd dt_9_init 140 rfl) 1 rfl rfl ?_
  refine N_iconst (v := 3) (dd dt_9_init 141 rfl) (by decide) ?_
  refine N_cmpge (dd dt_9_init 142 rfl) (tgt := 290) rfl (fun q => absurd q (by decide)) (fun _ => ?_)
  refine N_aload_n (dd dt_9_init 143 rfl) 0 rfl rfl ?_
  refine N_getR (C0 := RX9) (T := TX9) (N := 19) (k := 11) (b := 60) rfl (by decide) iw_9 (by decide) rfl rfl fl_9_59 rfl (by decide) rfl (by decide) (dd dt_9_init 144 rfl) ?_
  refine N_iload_n (dd dt_9_init 145 rfl) 1 rfl rfl ?_
  refine N_new (ci := 5) (a := 125) (C1 := RX5) (T := TX5) (N := 7) (rc := 17) (rs := 1034) (by decide) tyX5 tyX5_ok rfl (by decide) iw_5 rfl (by decide) ci_9_57 ist_5 izt_5 rfl rfl (dd dt_9_init 146 rfl) ?_
  refine N_dup (dd dt_9_init 147 rfl) rfl ?_
  refine N_callN (mc := 5) (ms := 340) (rc := 12) (rs := 694) (c_5 (fun k => by rw [rstep_ne (by decide), rstep_ne (by decide), rstep_ne (by decide), rstep_ne (by decide), rstep_ne (by decide), rstep_ne (by decide), up_ne (by decide)]; exact hz _ (by decide) (by decide) k) (by decide)) cal_5_init rfl rfl in_5_init mi_9_110 (by decide) rfl (by decide) (dd dt_9_init 148 rfl) ?_
  refine N_aast (a := 60) (b := 125) (ci := 5) (cr := 27) (t0 := 7) (by decide) rfl rfl (by decide) (by decide) rfl rfl (by decide) rfl (dd dt_9_init 149 rfl) ?_
  refine N_iinc (v := 1) (lv' := [some (.ref 49), some (.int 1)]) (dd dt_9_init 150 rfl) (by decide) rfl rfl ic_1 rfl ?_
  refine N_goto (dd dt_9_init 151 rfl) (tgt := 266) rfl ?_
  refine N_iload_n (dd dt_9_init 140 rfl) 1 rfl rfl ?_
  refine N_iconst (v := 3) (dd dt_9_init 141 rfl) (by decide) ?_
  refine N_cmpge (dd dt_9_init 142 rfl) (tgt := 290) rfl (fun q => absurd q (by decide)) (fun _ => ?_)
  refine N_aload_n (dd dt_9_init 143 rfl) 0 rfl rfl ?_
  refine N_getR (C0 := RX9) (T := TX9) (N := 19) (k := 11) (b := 60) rfl (by decide) iw_9 (by decide) rfl rfl fl_9_59 rfl (by decide) rfl (by decide) (dd dt_9_init 144 rfl) ?_
  refine N_iload_n (dd dt_9_init 145 rfl) 1 rfl rfl ?_
  refine N_new (ci := 5) (a := 131) (C1 := RX5) (T := TX5) (N := 7) (rc := 11) (rs := 687) (by decide) tyX5 tyX5_ok rfl (by decide) iw_5 rfl (by decide) ci_9_57 ist_5 izt_5 rfl rfl (dd dt_9_init 146 rfl) ?_
  refine N_dup (dd dt_9_init 147 rfl) rfl ?_
  refine N_callN (mc := 5) (ms := 340) (rc := 6) (rs := 347) (c_5 (fun k => by rw [rstep_ne (by decide), rstep_ne (by decide), rstep_ne (by decide), rstep_ne (by decide), rstep_ne (by decide), rstep_ne (by decide), up_ne (by decide)]; exact hz _ (by decide) (by decide) k) (by decide)) cal_5_init rfl rfl in_5_init mi_9_110 (by decide) rfl (by decide) (dd dt_9_init 148 rfl) ?_
  refine N_aast (a := 60) (b := 131) (ci := 5) (cr := 27) (t0 := 7) (by decide) rfl rfl (by decide) (by decide) rfl rfl (by decide) rfl (dd dt_9_init 149 rfl) ?_
  refine N_iinc (v := 1) (lv' := [some (.ref 49), some (.int 2)]) (dd dt_9_init 150 rfl) (by decide) rfl rfl ic_1 rfl ?_
  refine N_goto (dd dt_9_init 151 rfl) (tgt := 266) rfl ?_
  refine N_iload_n (dd dt_9_init 140 rfl) 1 rfl rfl ?_
  refine N_iconst (v := 3) (dd dt_9_init 141 rfl) (by decide) ?_
  refine N_cmpge (dd dt_9_init 142 rfl) (tgt := 290) rfl (fun q => absurd q (by decide)) (fun _ => ?_)
  refine N_aload_n (dd dt_9_init 143 rfl) 0 rfl rfl ?_
  refine N_getR (C0 := RX9) (T := TX9) (N := 19) (k := 11) (b := 60) rfl (by decide) iw_9 (by decide) rfl rfl fl_9_59 rfl (by decide) rfl (by decide) (dd dt_9_init 144 rfl) ?_
  refine N_iload_n (dd dt_9_init 145 rfl) 1 rfl rfl ?_
  refine N_new (ci := 5) (a := 137) (C1 := RX5) (T := TX5) (N := 7) (rc := 5) (rs := 340) (by decide) tyX5 tyX5_ok rfl (by decide) iw_5 rfl (by decide) ci_9_57 ist_5 izt_5 rfl rfl (dd dt_9_init 146 rfl) ?_
  refine N_dup (dd dt_9_init 147 rfl) rfl ?_
  refine N_callN (mc := 5) (ms := 340) (rc := 0) (rs := 0) (c_5 (fun k => by rw [rstep_ne (by decide), rstep_ne (by decide), rstep_ne (by decide), rstep_ne (by decide), rstep_ne (by decide), rstep_ne (by decide), up_ne (by decide)]; exact hz _ (by decide) (by decide) k) (by decide)) cal_5_init rfl rfl in_5_init mi_9_110 (by decide) rfl (by decide) (dd dt_9_init 148 rfl) ?_
  refine N_aast (a := 60) (b := 137) (ci := 5) (cr := 27) (t0 := 7) (by decide) rfl rfl (by decide) (by decide) rfl rfl (by decide) rfl (dd dt_9_init 149 rfl) ?_
  refine N_iinc (v := 1) (lv' := [some (.ref 49), some (.int 3)]) (dd dt_9_init 150 rfl) (by decide) rfl rfl ic_1 rfl ?_
  refine N_goto (dd dt_9_init 151 rfl) (tgt := 266) rfl ?_
  refine N_iload_n (dd dt_9_init 140 rfl) 1 rfl rfl ?_
  refine N_iconst (v := 3) (dd dt_9_init 141 rfl) (by decide) ?_
  refine N_cmpge (dd dt_9_init 142 rfl) (tgt := 290) rfl (fun _ => ?_) (fun q => absurd (by decide) q)
  exact N_vret rfl rfl rfl rfl (by decide) (dd dt_9_init 152 rfl)
set_option maxHeartbeats 16000000 in
set_option maxRecDepth 100000 in
theorem c_9_143 {l : Launch} {E : ce} {d : Nat} {μ : mm} (hz : ∀ b, 143 ≤ b → b < 237 → ∀ k, μ b k = 0) : Cn l E (d + 1) yX9_init m_9_init [.ref 143] 96 [143, 23] μ 93 1733 189 [143, 23] (vm μ 143) := by
  refine Cn_of (by decide) rfl (fun _ _ => rfl) (by decide) (Nat.le_of_ble_eq_true rfl) rfl ?_
  refine N_aload_n (dd dt_9_init 0 rfl) 0 rfl rfl ?_
  refine N_oinit (by decide) mi_9_3 oi_in oi_cd (dd dt_9_init 1 rfl) ?_
  refine N_aload_n (dd dt_9_init 2 rfl) 0 rfl rfl ?_
  refine N_iconst (v := 0) (dd dt_9_init 3 rfl) (by decide) ?_
  refine N_put (C0 := RX9) (T := TX9) (N := 19) (k := 0) tyX9 tyX9_ok nmX9 rfl (by decide) iw_9 (by decide) rfl rfl rfl rfl rfl rfl fl_9_9 rfl (by decide) (up_id (by exact hz _ (by decide) (by decide) _)) (dd dt_9_init 4 rfl) ?_
  refine N_aload_n (dd dt_9_init 5 rfl) 0 rfl rfl ?_
  refine N_iconst (v := 0) (dd dt_9_init 6 rfl) (by decide) ?_
  refine N_put (C0 := RX9) (T := TX9) (N := 19) (k := 1) tyX9 tyX9_ok nmX9 rfl (by decide) iw_9 (by decide) rfl rfl rfl rfl rfl rfl fl_9_15 rfl (by decide) (up_id (by exact hz _ (by decide) (by decide) _)) (dd dt_9_init 7 rfl) ?_
  refine N_aload_n (dd dt_9_init 8 rfl) 0 rfl rfl ?_
  refine N_iconst (v := 0) (dd dt_9_init 9 rfl) (by decide) ?_
  refine N_put (C0 := RX9) (T := TX9) (N := 19) (k := 2) tyX9 tyX9_ok nmX9 rfl (by decide) iw_9 (by decide) rfl rfl rfl rfl rfl rfl fl_9_18 rfl (by decide) (up_id (by exact hz _ (by decide) (by decide) _)) (dd dt_9_init 10 rfl) ?_
  refine N_aload_n (dd dt_9_init 11 rfl) 0 rfl rfl ?_
  refine N_iconst (v := 0) (dd dt_9_init 12 rfl) (by decide) ?_
  refine N_put (C0 := RX9) (T := TX9) (N := 19) (k := 3) tyX9 tyX9_ok nmX9 rfl (by decide) iw_9 (by decide) rfl rfl rfl rfl rfl rfl fl_9_21 rfl (by decide) (up_id (by exact hz _ (by decide) (by decide) _)) (dd dt_9_init 13 rfl) ?_
  refine N_aload_n (dd dt_9_init 14 rfl) 0 rfl rfl ?_
  refine N_iconst (v := 0) (dd dt_9_init 15 rfl) (by decide) ?_
  refine N_put (C0 := RX9) (T := TX9) (N := 19) (k := 4) tyX9 tyX9_ok nmX9 rfl (by decide) iw_9 (by decide) rfl rfl rfl rfl rfl rfl fl_9_24 rfl (by decide) (up_id (by exact hz _ (by decide) (by decide) _)) (dd dt_9_init 16 rfl) ?_
  refine N_aload_n (dd dt_9_init 17 rfl) 0 rfl rfl ?_
  refine N_iconst (v := 0) (dd dt_9_init 18 rfl) (by decide) ?_
  refine N_put (C0 := RX9) (T := TX9) (N := 19) (k := 5) tyX9 tyX9_ok nmX9 rfl (by decide) iw_9 (by decide) rfl rfl rfl rfl rfl rfl fl_9_27 rfl (by decide) (up_id (by exact hz _ (by decide) (by decide) _)) (dd dt_9_init 19 rfl) ?_
  refine N_aload_n (dd dt_9_init 20 rfl) 0 rfl rfl ?_
  refine N_iconst (v := 0) (dd dt_9_init 21 rfl) (by decide) ?_
  refine N_put (C0 := RX9) (T := TX9) (N := 19) (k := 6) tyX9 tyX9_ok nmX9 rfl (by decide) iw_9 (by decide) rfl rfl rfl rfl rfl rfl fl_9_30 rfl (by decide) (up_id (by exact hz _ (by decide) (by decide) _)) (dd dt_9_init 22 rfl) ?_
  refine N_aload_n (dd dt_9_init 23 rfl) 0 rfl rfl ?_
  refine N_bipush (v := 6) (dd dt_9_init 24 rfl) (by decide) ?_
  refine N_bipush (v := 6) (dd dt_9_init 25 rfl) (by decide) ?_
  refine N_multi (a := 144) (N := 6) (L := 6) (rc := 86) (rs := 1691) (by decide) (by decide) ci_9_34 aw_int rfl rfl rfl (by decide) (by decide) (by decide) (by decide) (by decide) (by decide) (dd dt_9_init 26 rfl) ?_
  refine N_putR (C0 := RX9) (T := TX9) (N := 19) (k := 7) tyX9 tyX9_ok nmX9 rfl (by decide) iw_9 (by decide) rfl rfl rfl rfl rfl (fun _ => rfl) (fun _ => rfl) (by decide) (by decide) fl_9_36 rfl (by decide) rfl (dd dt_9_init 27 rfl) ?_
  refine N_aload_n (dd dt_9_init 28 rfl) 0 rfl rfl ?_
  refine N_iconst (v := 4) (dd dt_9_init 29 rfl) (by decide) ?_
  refine N_anew (ci := 24) (t0 := 4) (C1 := RX4) (a := 151) (N := 4) (rc := 85) (rs := 1687) (by decide) (by decide) rfl ci_9_39 (fun _ h => h.1.1) rfl rfl rfl (by decide) (by decide) (by decide) (dd dt_9_init 30 rfl) ?_
  refine N_putR (C0 := RX9) (T := TX9) (N := 19) (k := 8) tyX9 tyX9_ok nmX9 rfl (by decide) iw_9 (by decide) rfl rfl rfl rfl rfl (fun _ => rfl) (fun _ => rfl) (by decide) (by decide) fl_9_41 rfl (by decide) rfl (dd dt_9_init 31 rfl) ?_
  refine N_aload_n (dd dt_9_init 32 rfl) 0 rfl rfl ?_
  refine N_iconst (v := 4) (dd dt_9_init 33 rfl) (by decide) ?_
  refine N_anew (ci := 25) (t0 := 5) (C1 := RX6) (a := 152) (N := 4) (rc := 84) (rs := 1683) (by decide) (by decide) rfl ci_9_45 (fun _ h => h.1.2.1) rfl rfl rfl (by decide) (by decide) (by decide) (dd dt_9_init 34 rfl) ?_
  refine N_putR (C0 := RX9) (T := TX9) (N := 19) (k := 9) tyX9 tyX9_ok nmX9 rfl (by decide) iw_9 (by decide) rfl rfl rfl rfl rfl (fun _ => rfl) (fun _ => rfl) (by decide) (by decide) fl_9_47 rfl (by decide) rfl (dd dt_9_init 35 rfl) ?_
  refine N_aload_n (dd dt_9_init 36 rfl) 0 rfl rfl ?_
  refine N_bipush (v := 16) (dd dt_9_init 37 rfl) (by decide) ?_
  refine N_anew (ci := 26) (t0 := 6) (C1 := RX1) (a := 153) (N := 16) (rc := 83) (rs := 1667) (by decide) (by decide) rfl ci_9_51 (fun _ h => h.1.2.2.1) rfl rfl rfl (by decide) (by decide) (by decide) (dd dt_9_init 38 rfl) ?_
  refine N_putR (C0 := RX9) (T := TX9) (N := 19) (k := 10) tyX9 tyX9_ok nmX9 rfl (by decide) iw_9 (by decide) rfl rfl rfl rfl rfl (fun _ => rfl) (fun _ => rfl) (by decide) (by decide) fl_9_53 rfl (by decide) rfl (dd dt_9_init 39 rfl) ?_
  refine N_aload_n (dd dt_9_init 40 rfl) 0 rfl rfl ?_
  refine N_iconst (v := 3) (dd dt_9_init 41 rfl) (by decide) ?_
  refine N_anew (ci := 27) (t0 := 7) (C1 := RX5) (a := 154) (N := 3) (rc := 82) (rs := 1664) (by decide) (by decide) rfl ci_9_57 (fun _ h => h.1.2.2.2.1) rfl rfl rfl (by decide) (by decide) (by decide) (dd dt_9_init 42 rfl) ?_
  refine N_putR (C0 := RX9) (T := TX9) (N := 19) (k := 11) tyX9 tyX9_ok nmX9 rfl (by decide) iw_9 (by decide) rfl rfl rfl rfl rfl (fun _ => rfl) (fun _ => rfl) (by decide) (by decide) fl_9_59 rfl (by decide) rfl (dd dt_9_init 43 rfl) ?_
  refine N_aload_n (dd dt_9_init 44 rfl) 0 rfl rfl ?_
  refine N_new (ci := 10) (a := 155) (C1 := RX10) (T := TX10) (N := 5) (rc := 81) (rs := 1659) (by decide) tyX10 tyX10_ok rfl (by decide) iw_10 rfl (by decide) ci_9_63 ist_10 izt_10 rfl rfl (dd dt_9_init 45 rfl) ?_
  refine N_dup (dd dt_9_init 46 rfl) rfl ?_
  refine N_callN (mc := 2) (ms := 12) (rc := 79) (rs := 1647) (c_10 (fun k => by exact hz _ (by decide) (by decide) k) (by decide)) cal_10_init rfl rfl in_10_init mi_9_65 (by decide) rfl (by decide) (dd dt_9_init 47 rfl) ?_
  refine N_putR (C0 := RX9) (T := TX9) (N := 19) (k := 12) tyX9 tyX9_ok nmX9 rfl (by decide) iw_9 (by decide) rfl rfl rfl rfl rfl (fun _ => rfl) (fun _ => rfl) (by decide) (by decide) fl_9_66 rfl (by decide) rfl (dd dt_9_init 48 rfl) ?_
  refine N_aload_n (dd dt_9_init 49 rfl) 0 rfl rfl ?_
  refine N_new (ci := 7) (a := 158) (C1 := RX7) (T := TX7) (N := 10) (rc := 78) (rs := 1637) (by decide) tyX7 tyX7_ok rfl (by decide) iw_7 rfl (by decide) ci_9_70 ist_7 izt_7 rfl rfl (dd dt_9_init 50 rfl) ?_
  refine N_dup (dd dt_9_init 51 rfl) rfl ?_
  refine N_callN (mc := 6) (ms := 72) (rc := 72) (rs := 1565) (c_7 (fun k => by exact hz _ (by decide) (by decide) k) (by decide)) cal_7_init rfl rfl in_7_init mi_9_72 (by decide) rfl (by decide) (dd dt_9_init 52 rfl) ?_
  refine N_putR (C0 := RX9) (T := TX9) (N := 19) (k := 13) tyX9 tyX9_ok nmX9 rfl (by decide) iw_9 (by decide) rfl rfl rfl rfl rfl (fun _ => rfl) (fun _ => rfl) (by decide) (by decide) fl_9_73 rfl (by decide) rfl (dd dt_9_init 53 rfl) ?_
  refine N_aload_n (dd dt_9_init 54 rfl) 0 rfl rfl ?_
  refine N_new (ci := 3) (a := 165) (C1 := RX3) (T := TX3) (N := 7) (rc := 71) (rs := 1558) (by decide) tyX3 tyX3_ok rfl (by decide) iw_3 rfl (by decide) ci_9_77 ist_3 izt_3 rfl rfl (dd dt_9_init 55 rfl) ?_
  refine N_dup (dd dt_9_init 56 rfl) rfl ?_
  refine N_callN (mc := 13) (ms := 173) (rc := 58) (rs := 1385) (c_3 (fun k => by exact hz _ (by decide) (by decide) k) (by decide)) cal_3_init rfl rfl in_3_init mi_9_79 (by decide) rfl (by decide) (dd dt_9_init 57 rfl) ?_
  refine N_putR (C0 := RX9) (T := TX9) (N := 19) (k := 14) tyX9 tyX9_ok nmX9 rfl (by decide) iw_9 (by decide) rfl rfl rfl rfl rfl (fun _ => rfl) (fun _ => rfl) (by decide) (by decide) fl_9_80 rfl (by decide) rfl (dd dt_9_init 58 rfl) ?_
  refine N_aload_n (dd dt_9_init 59 rfl) 0 rfl rfl ?_
  refine N_new (ci := 2) (a := 179) (C1 := RX2) (T := TX2) (N := 6) (rc := 57) (rs := 1379) (by decide) tyX2 tyX2_ok rfl (by decide) iw_2 rfl (by decide) ci_9_84 ist_2 izt_2 rfl rfl (dd dt_9_init 60 rfl) ?_
  refine N_dup (dd dt_9_init 61 rfl) rfl ?_
  refine N_callN (mc := 12) (ms := 58) (rc := 45) (rs := 1321) (c_2 (fun k => by rw [up_ne (by decide)]; exact hz _ (by decide) (by decide) k) (by decide)) cal_2_init rfl rfl in_2_init mi_9_86 (by decide) rfl (by decide) (dd dt_9_init 62 rfl) ?_
  refine N_putR (C0 := RX9) (T := TX9) (N := 19) (k := 15) tyX9 tyX9_ok nmX9 rfl (by decide) iw_9 (by decide) rfl rfl rfl rfl rfl (fun _ => rfl) (fun _ => rfl) (by decide) (by decide) fl_9_87 rfl (by decide) rfl (dd dt_9_init 63 rfl) ?_
  refine N_aload_n (dd dt_9_init 64 rfl) 0 rfl rfl ?_
  refine N_bipush (v := 16) (dd dt_9_init 65 rfl) (by decide) ?_
  refine N_newa_int (a := 192) (N := 16) (rc := 44) (rs := 1305) (by decide) aw_int rfl rfl rfl (by decide) (by decide) (by decide) (dd dt_9_init 66 rfl) ?_
  refine N_putR (C0 := RX9) (T := TX9) (N := 19) (k := 16) tyX9 tyX9_ok nmX9 rfl (by decide) iw_9 (by decide) rfl rfl rfl rfl rfl (fun _ => rfl) (fun _ => rfl) (by decide) (by decide) fl_9_91 rfl (by decide) rfl (dd dt_9_init 67 rfl) ?_
  refine N_aload_n (dd dt_9_init 68 rfl) 0 rfl rfl ?_
  refine N_bipush (v := 16) (dd dt_9_init 69 rfl) (by decide) ?_
  refine N_newa_int (a := 193) (N := 16) (rc := 43) (rs := 1289) (by decide) aw_int rfl rfl rfl (by decide) (by decide) (by decide) (dd dt_9_init 70 rfl) ?_
  refine N_putR (C0 := RX9) (T := TX9) (N := 19) (k := 17) tyX9 tyX9_ok nmX9 rfl (by decide) iw_9 (by decide) rfl rfl rfl rfl rfl (fun _ => rfl) (fun _ => rfl) (by decide) (by decide) fl_9_95 rfl (by decide) rfl (dd dt_9_init 71 rfl) ?_
  refine N_aload_n (dd dt_9_init 72 rfl) 0 rfl rfl ?_
  refine N_bipush (v := 16) (dd dt_9_init 73 rfl) (by decide) ?_
  refine N_newa_int (a := 194) (N := 16) (rc := 42) (rs := 1273) (by decide) aw_int rfl rfl rfl (by decide) (by decide) (by decide) (dd dt_9_init 74 rfl) ?_
  refine N_putR (C0 := RX9) (T := TX9) (N := 19) (k := 18) tyX9 tyX9_ok nmX9 rfl (by decide) iw_9 (by decide) rfl rfl rfl rfl rfl (fun _ => rfl) (fun _ => rfl) (by decide) (by decide) fl_9_98 rfl (by decide) rfl (dd dt_9_init 75 rfl) ?_
  refine N_iconst (v := 0) (dd dt_9_init 76 rfl) (by decide) ?_
  refine N_istore_n (lv' := [some (.ref 143), some (.int 0)]) (dd dt_9_init 77 rfl) 1 rfl (by decide) rfl rfl ?_
  refine N_iload_n (dd dt_9_init 78 rfl) 1 rfl rfl ?_
  refine N_bipush (v := 6) (dd dt_9_init 79 rfl) (by decide) ?_
  refine N_cmpge (dd dt_9_init 80 rfl) (tgt := 185) rfl (fun q => absurd q (by decide)) (fun _ => ?_)
  refine N_aload_n (dd dt_9_init 81 rfl) 0 rfl rfl ?_
  refine N_getR (C0 := RX9) (T := TX9) (N := 19) (k := 7) (b := 144) rfl (by decide) iw_9 (by decide) rfl rfl fl_9_36 rfl (by decide) rfl (by decide) (dd dt_9_init 82 rfl) ?_
  refine N_iload_n (dd dt_9_init 83 rfl) 1 rfl rfl ?_
  refine N_aald (ci := 23) (t0 := 3) (b := 145) (by decide) rfl (by decide) rfl (by decide) (by decide) rfl rfl (dd dt_9_init 84 rfl) ?_
  refine N_iconst (v := 1) (dd dt_9_init 85 rfl) (by decide) ?_
  refine N_callS (c_fill rfl (by decide) (by decide) (by decide)) cal_J7_fill rfl sc_J7_fill ml_9_101 (by decide) (by decide) (dd dt_9_init 86 rfl) ?_
  refine N_aload_n (dd dt_9_init 87 rfl) 0 rfl rfl ?_
  refine N_getR (C0 := RX9) (T := TX9) (N := 19) (k := 7) (b := 144) rfl (by decide) iw_9 (by decide) rfl rfl fl_9_36 rfl (by decide) rfl (by decide) (dd dt_9_init 88 rfl) ?_
  refine N_iload_n (dd dt_9_init 89 rfl) 1 rfl rfl ?_
  refine N_aald (ci := 23) (t0 := 3) (b := 145) (by decide) rfl (by decide) rfl (by decide) (by decide) rfl rfl (dd dt_9_init 90 rfl) ?_
  refine N_iload_n (dd dt_9_init 91 rfl) 1 rfl rfl ?_
  refine N_iconst (v := 0) (dd dt_9_init 92 rfl) (by decide) ?_
  refine N_isto (μ' := rstep _ 145 0) (by decide) rfl (by decide) rfl (dd dt_9_init 93 rfl) ?_
  refine N_iinc (v := 1) (lv' := [some (.ref 143), some (.int 1)]) (dd dt_9_init 94 rfl) (by decide) rfl rfl ic_1 rfl ?_
  refine N_goto (dd dt_9_init 95 rfl) (tgt := 154) rfl ?_
  refine N_iload_n (dd dt_9_init 78 rfl) 1 rfl rfl ?_
  refine N_bipush (v := 6) (dd dt_9_init 79 rfl) (by decide) ?_
  refine N_cmpge (dd dt_9_init 80 rfl) (tgt := 185) rfl (fun q => absurd q (by decide)) (fun _ => ?_)
  refine N_aload_n (dd dt_9_init 81 rfl) 0 rfl rfl ?_
  refine N_getR (C0 := RX9) (T := TX9) (N := 19) (k := 7) (b := 144) rfl (by decide) iw_9 (by decide) rfl rfl fl_9_36 rfl (by decide) rfl (by decide) (dd dt_9_init 82 rfl) ?_
  refine N_iload_n (dd dt_9_init 83 rfl) 1 rfl rfl ?_
  refine N_aald (ci := 23) (t0 := 3) (b := 146) (by decide) rfl (by decide) rfl (by decide) (by decide) rfl rfl (dd dt_9_init 84 rfl) ?_
  refine N_iconst (v := 1) (dd dt_9_init 85 rfl) (by decide) ?_
  refine N_callS (c_fill rfl (by decide) (by decide) (by decide)) cal_J7_fill rfl sc_J7_fill ml_9_101 (by decide) (by decide) (dd dt_9_init 86 rfl) ?_
  refine N_aload_n (dd dt_9_init 87 rfl) 0 rfl rfl ?_
  refine N_getR (C0 := RX9) (T := TX9) (N := 19) (k := 7) (b := 144) rfl (by decide) iw_9 (by decide) rfl rfl fl_9_36 rfl (by decide) rfl (by decide) (dd dt_9_init 88 rfl) ?_
  refine N_iload_n (dd dt_9_init 89 rfl) 1 rfl rfl ?_
  refine N_aald (ci := 23) (t0 := 3) (b := 146) (by decide) rfl (by decide) rfl (by decide) (by decide) rfl rfl (dd dt_9_init 90 rfl) ?_
  refine N_iload_n (dd dt_9_init 91 rfl) 1 rfl rfl ?_
  refine N_iconst (v := 0) (dd dt_9_init 92 rfl) (by decide) ?_
  refine N_isto (μ' := rstep _ 146 1) (by decide) rfl (by decide) rfl (dd dt_9_init 93 rfl) ?_
  refine N_iinc (v := 1) (lv' := [some (.ref 143), some (.int 2)]) (dd dt_9_init 94 rfl) (by decide) rfl rfl ic_1 rfl ?_
  refine N_goto (dd dt_9_init 95 rfl) (tgt := 154) rfl ?_
  refine N_iload_n (dd dt_9_init 78 rfl) 1 rfl rfl ?_
  refine N_bipush (v := 6) (dd dt_9_init 79 rfl) (by decide) ?_
  refine N_cmpge (dd dt_9_init 80 rfl) (tgt := 185) rfl (fun q => absurd q (by decide)) (fun _ => ?_)
  refine N_aload_n (dd dt_9_init 81 rfl) 0 rfl rfl ?_
  refine N_getR (C0 := RX9) (T := TX9) (N := 19) (k := 7) (b := 144) rfl (by decide) iw_9 (by decide) rfl rfl fl_9_36 rfl (by decide) rfl (by decide) (dd dt_9_init 82 rfl) ?_
  refine N_iload_n (dd dt_9_init 83 rfl) 1 rfl rfl ?_
  refine N_aald (ci := 23) (t0 := 3) (b := 147) (by decide) rfl (by decide) rfl (by decide) (by decide) rfl rfl (dd dt_9_init 84 rfl) ?_
  refine N_iconst (v := 1) (dd dt_9_init 85 rfl) (by decide) ?_
  refine N_callS (c_fill rfl (by decide) (by decide) (by decide)) cal_J7_fill rfl sc_J7_fill ml_9_101 (by decide) (by decide) (dd dt_9_init 86 rfl) ?_
  refine N_aload_n (dd dt_9_init 87 rfl) 0 rfl rfl ?_
  refine N_getR (C0 := RX9) (T := TX9) (N := 19) (k := 7) (b := 144) rfl (by decide) iw_9 (by decide) rfl rfl fl_9_36 rfl (by decide) rfl (by decide) (dd dt_9_init 88 rfl) ?_
  refine N_iload_n (dd dt_9_init 89 rfl) 1 rfl rfl ?_
  refine N_aald (ci := 23) (t0 := 3) (b := 147) (by decide) rfl (by decide) rfl (by decide) (by decide) rfl rfl (dd dt_9_init 90 rfl) ?_
  refine N_iload_n (dd dt_9_init 91 rfl) 1 rfl rfl ?_
  refine N_iconst (v := 0) (dd dt_9_init 92 rfl) (by decide) ?_
  refine N_isto (μ' := rstep _ 147 2) (by decide) rfl (by decide) rfl (dd dt_9_init 93 rfl) ?_
  refine N_iinc (v := 1) (lv' := [some (.ref 143), some (.int 3)]) (dd dt_9_init 94 rfl) (by decide) rfl rfl ic_1 rfl ?_
  refine N_goto (dd dt_9_init 95 rfl) (tgt := 154) rfl ?_
  refine N_iload_n (dd dt_9_init 78 rfl) 1 rfl rfl ?_
  refine N_bipush (v := 6) (dd dt_9_init 79 rfl) (by decide) ?_
  refine N_cmpge (dd dt_9_init 80 rfl) (tgt := 185) rfl (fun q => absurd q (by decide)) (fun _ => ?_)
  refine N_aload_n (dd dt_9_init 81 rfl) 0 rfl rfl ?_
  refine N_getR (C0 := RX9) (T := TX9) (N := 19) (k := 7) (b := 144) rfl (by decide) iw_9 (by decide) rfl rfl fl_9_36 rfl (by decide) rfl (by decide) (dd dt_9_init 82 rfl) ?_
  refine N_iload_n (dd dt_9_init 83 rfl) 1 rfl rfl ?_
  refine N_aald (ci := 23) (t0 := 3) (b := 148) (by decide) rfl (by decide) rfl (by decide) (by decide) rfl rfl (dd dt_9_init 84 rfl) ?_
  refine N_iconst (v := 1) (dd dt_9_init 85 rfl) (by decide) ?_
  refine N_callS (c_fill rfl (by decide) (by decide) (by decide)) cal_J7_fill rfl sc_J7_fill ml_9_101 (by decide) (by decide) (dd dt_9_init 86 rfl) ?_
  refine N_aload_n (dd dt_9_init 87 rfl) 0 rfl rfl ?_
  refine N_getR (C0 := RX9) (T := TX9) (N := 19) (k := 7) (b := 144) rfl (by decide) iw_9 (by decide) rfl rfl fl_9_36 rfl (by decide) rfl (by decide) (dd dt_9_init 88 rfl) ?_
  refine N_iload_n (dd dt_9_init 89 rfl) 1 rfl rfl ?_
  refine N_aald (ci := 23) (t0 := 3) (b := 148) (by decide) rfl (by decide) rfl (by decide) (by decide) rfl rfl (dd dt_9_init 90 rfl) ?_
  refine N_iload_n (dd dt_9_init 91 rfl) 1 rfl rfl ?_
  refine N_iconst (v := 0) (dd dt_9_init 92 rfl) (by decide) ?_
  refine N_isto (μ' := rstep _ 148 3) (by decide) rfl (by decide) rfl (dd dt_9_init 93 rfl) ?_
  refine N_iinc (v := 1) (lv' := [some (.ref 143), some (.int 4)]) (dd dt_9_init 94 rfl) (by decide) rfl rfl ic_1 rfl ?_
  refine N_goto (dd dt_9_init 95 rfl) (tgt := 154) rfl ?_
  refine N_iload_n (dd dt_9_init 78 rfl) 1 rfl rfl ?_
  refine N_bipush (v := 6) (dd dt_9_init 79 rfl) (by decide) ?_
  refine N_cmpge (dd dt_9_init 80 rfl) (tgt := 185) rfl (fun q => absurd q (by decide)) (fun _ => ?_)
  refine N_aload_n (dd dt_9_init 81 rfl) 0 rfl rfl ?_
  refine N_getR (C0 := RX9) (T := TX9) (N := 19) (k := 7) (b := 144) rfl (by decide) iw_9 (by decide) rfl rfl fl_9_36 rfl (by decide) rfl (by decide) (dd dt_9_init 82 rfl) ?_
  refine N_iload_n (dd dt_9_init 83 rfl) 1 rfl rfl ?_
  refine N_aald (ci := 23) (t0 := 3) (b := 149) (by decide) rfl (by decide) rfl (by decide) (by decide) rfl rfl (dd dt_9_init 84 rfl) ?_
  refine N_iconst (v := 1) (dd dt_9_init 85 rfl) (by decide) ?_
  refine N_callS (c_fill rfl (by decide) (by decide) (by decide)) cal_J7_fill rfl sc_J7_fill ml_9_101 (by decide) (by decide) (dd dt_9_init 86 rfl) ?_
  refine N_aload_n (dd dt_9_init 87 rfl) 0 rfl rfl ?_
  refine N_getR (C0 := RX9) (T := TX9) (N := 19) (k := 7) (b := 144) rfl (by decide) iw_9 (by decide) rfl rfl fl_9_36 rfl (by decide) rfl (by decide) (dd dt_9_init 88 rfl) ?_
  refine N_iload_n (dd dt_9_init 89 rfl) 1 rfl rfl ?_
  refine N_aald (ci := 23) (t0 := 3) (b := 149) (by decide) rfl (by decide) rfl (by decide) (by decide) rfl rfl (dd dt_9_init 90 rfl) ?_
  refine N_iload_n (dd dt_9_init 91 rfl) 1 rfl rfl ?_
  refine N_iconst (v := 0) (dd dt_9_init 92 rfl) (by decide) ?_
  refine N_isto (μ' := rstep _ 149 4) (by decide) rfl (by decide) rfl (dd dt_9_init 93 rfl) ?_
  refine N_iinc (v := 1) (lv' := [some (.ref 143), some (.int 5)]) (dd dt_9_init 94 rfl) (by decide) rfl rfl ic_1 rfl ?_
  refine N_goto (dd dt_9_init 95 rfl) (tgt := 154) rfl ?_
  refine N_iload_n (dd dt_9_init 78 rfl) 1 rfl rfl ?_
  refine N_bipush (v := 6) (dd dt_9_init 79 rfl) (by decide) ?_
  refine N_cmpge (dd dt_9_init 80 rfl) (tgt := 185) rfl (fun q => absurd q (by decide)) (fun _ => ?_)
  refine N_aload_n (dd dt_9_init 81 rfl) 0 rfl rfl ?_
  refine N_getR (C0 := RX9) (T := TX9) (N := 19) (k := 7) (b := 144) rfl (by decide) iw_9 (by decide) rfl rfl fl_9_36 rfl (by decide) rfl (by decide) (dd dt_9_init 82 rfl) ?_
  refine N_iload_n (dd dt_9_init 83 rfl) 1 rfl rfl ?_
  refine N_aald (ci := 23) (t0 := 3) (b := 150) (by decide) rfl (by decide) rfl (by decide) (by decide) rfl rfl (dd dt_9_init 84 rfl) ?_
  refine N_iconst (v := 1) (dd dt_9_init 85 rfl) (by decide) ?_
  refine N_callS (c_fill rfl (by decide) (by decide) (by decide)) cal_J7_fill rfl sc_J7_fill ml_9_101 (by decide) (by decide) (dd dt_9_init 86 rfl) ?_
  refine N_aload_n (dd dt_9_init 87 rfl) 0 rfl rfl ?_
  refine N_getR (C0 := RX9) (T := TX9) (N := 19) (k := 7) (b := 144) rfl (by decide) iw_9 (by decide) rfl rfl fl_9_36 rfl (by decide) rfl (by decide) (dd dt_9_init 88 rfl) ?_
  refine N_iload_n (dd dt_9_init 89 rfl) 1 rfl rfl ?_
  refine N_aald (ci := 23) (t0 := 3) (b := 150) (by decide) rfl (by decide) rfl (by decide) (by decide) rfl rfl (dd dt_9_init 90 rfl) ?_
  refine N_iload_n (dd dt_9_init 91 rfl) 1 rfl rfl ?_
  refine N_iconst (v := 0) (dd dt_9_init 92 rfl) (by decide) ?_
  refine N_isto (μ' := rstep _ 150 5) (by decide) rfl (by decide) rfl (dd dt_9_init 93 rfl) ?_
  refine N_iinc (v := 1) (lv' := [some (.ref 143), some (.int 6)]) (dd dt_9_init 94 rfl) (by decide) rfl rfl ic_1 rfl ?_
  refine N_goto (dd dt_9_init 95 rfl) (tgt := 154) rfl ?_
  refine N_iload_n (dd dt_9_init 78 rfl) 1 rfl rfl ?_
  refine N_bipush (v := 6) (dd dt_9_init 79 rfl) (by decide) ?_
  refine N_cmpge (dd dt_9_init 80 rfl) (tgt := 185) rfl (fun _ => ?_) (fun q => absurd (by decide) q)
  refine N_iconst (v := 0) (dd dt_9_init 96 rfl) (by decide) ?_
  refine N_istore_n (lv' := [some (.ref 143), some (.int 0)]) (dd dt_9_init 97 rfl) 1 rfl (by decide) rfl rfl ?_
  refine N_iload_n (dd dt_9_init 98 rfl) 1 rfl rfl ?_
  refine N_iconst (v := 4) (dd dt_9_init 99 rfl) (by decide) ?_
  refine N_cmpge (dd dt_9_init 100 rfl) (tgt := 211) rfl (fun q => absurd q (by decide)) (fun _ => ?_)
  refine N_aload_n (dd dt_9_init 101 rfl) 0 rfl rfl ?_
  refine N_getR (C0 := RX9) (T := TX9) (N := 19) (k := 8) (b := 151) rfl (by decide) iw_9 (by decide) rfl rfl fl_9_41 rfl (by decide) rfl (by decide) (dd dt_9_init 102 rfl) ?_
  refine N_iload_n (dd dt_9_init 103 rfl) 1 rfl rfl ?_
  refine N_new (ci := 4) (a := 195) (C1 := RX4) (T := TX4) (N := 7) (rc := 41) (rs := 1266) (by decide) tyX4 tyX4_ok rfl (by decide) iw_4 rfl (by decide) ci_9_39 ist_4 izt_4 rfl rfl (dd dt_9_init 104 rfl) ?_
  refine N_dup (dd dt_9_init 105 rfl) rfl ?_
  refine N_callN (mc := 0) (ms := 0) (rc := 41) (rs := 1266) (c_4 (by decide)) cal_4_init rfl rfl in_4_init mi_9_107 (by decide) rfl (by decide) (dd dt_9_init 106 rfl) ?_
  refine N_aast (a := 151) (b := 195) (ci := 4) (cr := 24) (t0 := 4) (by decide) rfl rfl (by decide) (by decide) rfl rfl (by decide) rfl (dd dt_9_init 107 rfl) ?_
  refine N_iinc (v := 1) (lv' := [some (.ref 143), some (.int 1)]) (dd dt_9_init 108 rfl) (by decide) rfl rfl ic_1 rfl ?_
  refine N_goto (dd dt_9_init 109 rfl) (tgt := 187) rfl ?_
  refine N_iload_n (dd dt_9_init 98 rfl) 1 rfl rfl ?_
  refine N_iconst (v := 4) (dd dt_9_init 99 rfl) (by decide) ?_
  refine N_cmpge (dd dt_9_init 100 rfl) (tgt := 211) rfl (fun q => absurd q (by decide)) (fun _ => ?_)
  refine N_aload_n (dd dt_9_init 101 rfl) 0 rfl rfl ?_
  refine N_getR (C0 := RX9) (T := TX9) (N := 19) (k := 8) (b := 151) rfl (by decide) iw_9 (by decide) rfl rfl fl_9_41 rfl (by decide) rfl (by decide) (dd dt_9_init 102 rfl) ?_
  refine N_iload_n (dd dt_9_init 103 rfl) 1 rfl rfl ?_
  refine N_new (ci := 4) (a := 196) (C1 := RX4) (T := TX4) (N := 7) (rc := 40) (rs := 1259) (by decide) tyX4 tyX4_ok rfl (by decide) iw_4 rfl (by decide) ci_9_39 ist_4 izt_4 rfl rfl (dd dt_9_init 104 rfl) ?_
  refine N_dup (dd dt_9_init 105 rfl) rfl ?_
  refine N_callN (mc := 0) (ms := 0) (rc := 40) (rs := 1259) (c_4 (by decide)) cal_4_init rfl rfl in_4_init mi_9_107 (by decide) rfl (by decide) (dd dt_9_init 106 rfl) ?_
  refine N_aast (a := 151) (b := 196) (ci := 4) (cr := 24) (t0 := 4) (by decide) rfl rfl (by decide) (by decide) rfl rfl (by decide) rfl (dd dt_9_init 107 rfl) ?_
  refine N_iinc (v := 1) (lv' := [some (.ref 143), some (.int 2)]) (dd dt_9_init 108 rfl) (by decide) rfl rfl ic_1 rfl ?_
  refine N_goto (dd dt_9_init 109 rfl) (tgt := 187) rfl ?_
  refine N_iload_n (dd dt_9_init 98 rfl) 1 rfl rfl ?_
  refine N_iconst (v := 4) (dd dt_9_init 99 rfl) (by decide) ?_
  refine N_cmpge (dd dt_9_init 100 rfl) (tgt := 211) rfl (fun q => absurd q (by decide)) (fun _ => ?_)
  refine N_aload_n (dd dt_9_init 101 rfl) 0 rfl rfl ?_
  refine N_getR (C0 := RX9) (T := TX9) (N := 19) (k := 8) (b := 151) rfl (by decide) iw_9 (by decide) rfl rfl fl_9_41 rfl (by decide) rfl (by decide) (dd dt_9_init 102 rfl) ?_
  refine N_iload_n (dd dt_9_init 103 rfl) 1 rfl rfl ?_
  refine N_new (ci := 4) (a := 197) (C1 := RX4) (T := TX4) (N := 7) (rc := 39) (rs := 1252) (by decide) tyX4 tyX4_ok rfl (by decide) iw_4 rfl (by decide) ci_9_39 ist_4 izt_4 rfl rfl (dd dt_9_init 104 rfl) ?_
  refine N_dup (dd dt_9_init 105 rfl) rfl ?_
  refine N_callN (mc := 0) (ms := 0) (rc := 39) (rs := 1252) (c_4 (by decide)) cal_4_init rfl rfl in_4_init mi_9_107 (by decide) rfl (by decide) (dd dt_9_init 106 rfl) ?_
  refine N_aast (a := 151) (b := 197) (ci := 4) (cr := 24) (t0 := 4) (by decide) rfl rfl (by decide) (by decide) rfl rfl (by decide) rfl (dd dt_9_init 107 rfl) ?_
  refine N_iinc (v := 1) (lv' := [some (.ref 143), some (.int 3)]) (dd dt_9_init 108 rfl) (by decide) rfl rfl ic_1 rfl ?_
  refine N_goto (dd dt_9_init 109 rfl) (tgt := 187) rfl ?_
  refine N_iload_n (dd dt_9_init 98 rfl) 1 rfl rfl ?_
  refine N_iconst (v := 4) (dd dt_9_init 99 rfl) (by decide) ?_
  refine N_cmpge (dd dt_9_init 100 rfl) (tgt := 211) rfl (fun q => absurd q (by decide)) (fun _ => ?_)
  refine N_aload_n (dd dt_9_init 101 rfl) 0 rfl rfl ?_
  refine N_getR (C0 := RX9) (T := TX9) (N := 19) (k := 8) (b := 151) rfl (by decide) iw_9 (by decide) rfl rfl fl_9_41 rfl (by decide) rfl (by decide) (dd dt_9_init 102 rfl) ?_
  refine N_iload_n (dd dt_9_init 103 rfl) 1 rfl rfl ?_
  refine N_new (ci := 4) (a := 198) (C1 := RX4) (T := TX4) (N := 7) (rc := 38) (rs := 1245) (by decide) tyX4 tyX4_ok rfl (by decide) iw_4 rfl (by decide) ci_9_39 ist_4 izt_4 rfl rfl (dd dt_9_init 104 rfl) ?_
  refine N_dup (dd dt_9_init 105 rfl) rfl ?_
  refine N_callN (mc := 0) (ms := 0) (rc := 38) (rs := 1245) (c_4 (by decide)) cal_4_init rfl rfl in_4_init mi_9_107 (by decide) rfl (by decide) (dd dt_9_init 106 rfl) ?_
  refine N_aast (a := 151) (b := 198) (ci := 4) (cr := 24) (t0 := 4) (by decide) rfl rfl (by decide) (by decide) rfl rfl (by decide) rfl (dd dt_9_init 107 rfl) ?_
  refine N_iinc (v := 1) (lv' := [some (.ref 143), some (.int 4)]) (dd dt_9_init 108 rfl) (by decide) rfl rfl ic_1 rfl ?_
  refine N_goto (dd dt_9_init 109 rfl) (tgt := 187) rfl ?_
  refine N_iload_n (dd dt_9_init 98 rfl) 1 rfl rfl ?_
  refine N_iconst (v := 4) (dd dt_9_init 99 rfl) (by decide) ?_
  refine N_cmpge (dd dt_9_init 100 rfl) (tgt := 211) rfl (fun _ => ?_) (fun q => absurd (by decide) q)
  refine N_iconst (v := 0) (dd dt_9_init 110 rfl) (by decide) ?_
  refine N_istore_n (lv' := [some (.ref 143), some (.int 0)]) (dd dt_9_init 111 rfl) 1 rfl (by decide) rfl rfl ?_
  refine N_iload_n (dd dt_9_init 112 rfl) 1 rfl rfl ?_
  refine N_iconst (v := 4) (dd dt_9_init 113 rfl) (by decide) ?_
  refine N_cmpge (dd dt_9_init 114 rfl) (tgt := 237) rfl (fun q => absurd q (by decide)) (fun _ => ?_)
  refine N_aload_n (dd dt_9_init 115 rfl) 0 rfl rfl ?_
  refine N_getR (C0 := RX9) (T := TX9) (N := 19) (k := 9) (b := 152) rfl (by decide) iw_9 (by decide) rfl rfl fl_9_47 rfl (by decide) rfl (by decide) (dd dt_9_init 116 rfl) ?_
  refine N_iload_n (dd dt_9_init 117 rfl) 1 rfl rfl ?_
  refine N_new (ci := 6) (a := 199) (C1 := RX6) (T := TX6) (N := 3) (rc := 37) (rs := 1242) (by decide) tyX6 tyX6_ok rfl (by decide) iw_6 rfl (by decide) ci_9_45 ist_6 izt_6 rfl rfl (dd dt_9_init 118 rfl) ?_
  refine N_dup (dd dt_9_init 119 rfl) rfl ?_
  refine N_callN (mc := 0) (ms := 0) (rc := 37) (rs := 1242) (c_6 (by decide)) cal_6_init rfl rfl in_6_init mi_9_108 (by decide) rfl (by decide) (dd dt_9_init 120 rfl) ?_
  refine N_aast (a := 152) (b := 199) (ci := 6) (cr := 25) (t0 := 5) (by decide) rfl rfl (by decide) (by decide) rfl rfl (by decide) rfl (dd dt_9_init 121 rfl) ?_
  refine N_iinc (v := 1) (lv' := [some (.ref 143), some (.int 1)]) (dd dt_9_init 122 rfl) (by decide) rfl rfl ic_1 rfl ?_
  refine N_goto (dd dt_9_init 123 rfl) (tgt := 213) rfl ?_
  refine N_iload_n (dd dt_9_init 112 rfl) 1 rfl rfl ?_
  refine N_iconst (v := 4) (dd dt_9_init 113 rfl) (by decide) ?_
  refine N_cmpge (dd dt_9_init 114 rfl) (tgt := 237) rfl (fun q => absurd q (by decide)) (fun _ => ?_)
  refine N_aload_n (dd dt_9_init 115 rfl) 0 rfl rfl ?_
  refine N_getR (C0 := RX9) (T := TX9) (N := 19) (k := 9) (b := 152) rfl (by decide) iw_9 (by decide) rfl rfl fl_9_47 rfl (by decide) rfl (by decide) (dd dt_9_init 116 rfl) ?_
  refine N_iload_n (dd dt_9_init 117 rfl) 1 rfl rfl ?_
  refine N_new (ci := 6) (a := 200) (C1 := RX6) (T := TX6) (N := 3) (rc := 36) (rs := 1239) (by decide) tyX6 tyX6_ok rfl (by decide) iw_6 rfl (by decide) ci_9_45 ist_6 izt_6 rfl rfl (dd dt_9_init 118 rfl) ?_
  refine N_dup (dd dt_9_init 119 rfl) rfl ?_
  refine N_callN (mc := 0) (ms := 0) (rc := 36) (rs := 1239) (c_6 (by decide)) cal_6_init rfl rfl in_6_init mi_9_108 (by decide) rfl (by decide) (dd dt_9_init 120 rfl) ?_
  refine N_aast (a := 152) (b := 200) (ci := 6) (cr := 25) (t0 := 5) (by decide) rfl rfl (by decide) (by decide) rfl rfl (by decide) rfl (dd dt_9_init 121 rfl) ?_
  refine N_iinc (v := 1) (lv' := [some (.ref 143), some (.int 2)]) (dd dt_9_init 122 rfl) (by decide) rfl rfl ic_1 rfl ?_
  refine N_goto (dd dt_9_init 123 rfl) (tgt := 213) rfl ?_
  refine N_iload_n (dd dt_9_init 112 rfl) 1 rfl rfl ?_
  refine N_iconst (v := 4) (dd dt_9_init 113 rfl) (by decide) ?_
  refine N_cmpge (dd dt_9_init 114 rfl) (tgt := 237) rfl (fun q => absurd q (by decide)) (fun _ => ?_)
  refine N_aload_n (dd dt_9_init 115 rfl) 0 rfl rfl ?_
  refine N_getR (C0 := RX9) (T := TX9) (N := 19) (k := 9) (b := 152) rfl (by decide) iw_9 (by decide) rfl rfl fl_9_47 rfl (by decide) rfl (by decide) (dd dt_9_init 116 rfl) ?_
  refine N_iload_n (dd dt_9_init 117 rfl) 1 rfl rfl ?_
  refine N_new (ci := 6) (a := 201) (C1 := RX6) (T := TX6) (N := 3) (rc := 35) (rs := 1236) (by decide) tyX6 tyX6_ok rfl (by decide) iw_6 rfl (by decide) ci_9_45 ist_6 izt_6 rfl rfl (dd dt_9_init 118 rfl) ?_
  refine N_dup (dd dt_9_init 119 rfl) rfl ?_
  refine N_callN (mc := 0) (ms := 0) (rc := 35) (rs := 1236) (c_6 (by decide)) cal_6_init rfl rfl in_6_init mi_9_108 (by decide) rfl (by decide) (dd dt_9_init 120 rfl) ?_
  refine N_aast (a := 152) (b := 201) (ci := 6) (cr := 25) (t0 := 5) (by decide) rfl rfl (by decide) (by decide) rfl rfl (by decide) rfl (dd dt_9_init 121 rfl) ?_
  refine N_iinc (v := 1) (lv' := [some (.ref 143), some (.int 3)]) (dd dt_9_init 122 rfl) (by decide) rfl rfl ic_1 rfl ?_
  refine N_goto (dd dt_9_init 123 rfl) (tgt := 213) rfl ?_
  refine N_iload_n (dd dt_9_init 112 rfl) 1 rfl rfl ?_
  refine N_iconst (v := 4) (dd dt_9_init 113 rfl) (by decide) ?_
  refine N_cmpge (dd dt_9_init 114 rfl) (tgt := 237) rfl (fun q => absurd q (by decide)) (fun _ => ?_)
  refine N_aload_n (dd dt_9_init 115 rfl) 0 rfl rfl ?_
  refine N_getR (C0 := RX9) (T := TX9) (N := 19) (k := 9) (b := 152) rfl (by decide) iw_9 (by decide) rfl rfl fl_9_47 rfl (by decide) rfl (by decide) (dd dt_9_init 116 rfl) ?_
  refine N_iload_n (dd dt_9_init 117 rfl) 1 rfl rfl ?_
  refine N_new (ci := 6) (a := 202) (C1 := RX6) (T := TX6) (N := 3) (rc := 34) (rs := 1233) (by decide) tyX6 tyX6_ok rfl (by decide) iw_6 rfl (by decide) ci_9_45 ist_6 izt_6 rfl rfl (dd dt_9_init 118 rfl) ?_
  refine N_dup (dd dt_9_init 119 rfl) rfl ?_
  refine N_callN (mc := 0) (ms := 0) (rc := 34) (rs := 1233) (c_6 (by decide)) cal_6_init rfl rfl in_6_init mi_9_108 (by decide) rfl (by decide) (dd dt_9_init 120 rfl) ?_
  refine N_aast (a := 152) (b := 202) (ci := 6) (cr := 25) (t0 := 5) (by decide) rfl rfl (by decide) (by decide) rfl rfl (by decide) rfl (dd dt_9_init 121 rfl) ?_
  refine N_iinc (v := 1) (lv' := [some (.ref 143), some (.int 4)]) (dd dt_9_init 122 rfl) (by decide) rfl rfl ic_1 rfl ?_
  refine N_goto (dd dt_9_init 123 rfl) (tgt := 213) rfl ?_
  refine N_iload_n (dd dt_9_init 112 rfl) 1 rfl rfl ?_
  refine N_iconst (v := 4) (dd dt_9_init 113 rfl) (by decide) ?_
  refine N_cmpge (dd dt_9_init 114 rfl) (tgt := 237) rfl (fun _ => ?_) (fun q => absurd (by decide) q)
  refine N_iconst (v := 0) (dd dt_9_init 124 rfl) (by decide) ?_
  refine N_istore_n (lv' := [some (.ref 143), some (.int 0)]) (dd dt_9_init 125 rfl) 1 rfl (by decide) rfl rfl ?_
  refine N_iload_n (dd dt_9_init 126 rfl) 1 rfl rfl ?_
  refine N_bipush (v := 16) (dd dt_9_init 127 rfl) (by decide) ?_
  refine N_cmpge (dd dt_9_init 128 rfl) (tgt := 264) rfl (fun q => absurd q (by decide)) (fun _ => ?_)
  refine N_aload_n (dd dt_9_init 129 rfl) 0 rfl rfl ?_
  refine N_getR (C0 := RX9) (T := TX9) (N := 19) (k := 10) (b := 153) rfl (by decide) iw_9 (by decide) rfl rfl fl_9_53 rfl (by decide) rfl (by decide) (dd dt_9_init 130 rfl) ?_
  refine N_iload_n (dd dt_9_init 131 rfl) 1 rfl rfl ?_
  refine N_new (ci := 1) (a := 203) (C1 := RX1) (T := TX1) (N := 12) (rc := 33) (rs := 1221) (by decide) tyX1 tyX1_ok rfl (by decide) iw_1 rfl (by decide) ci_9_51 ist_1 izt_1 rfl rfl (dd dt_9_init 132 rfl) ?_
  refine N_dup (dd dt_9_init 133 rfl) rfl ?_
  refine N_callN (mc := 0) (ms := 0) (rc := 33) (rs := 1221) (c_1 (by decide)) cal_1_init rfl rfl in_1_init mi_9_109 (by decide) rfl (by decide) (dd dt_9_init 134 rfl) ?_
  refine N_aast (a := 153) (b := 203) (ci := 1) (cr := 26) (t0 := 6) (by decide) rfl rfl (by decide) (by decide) rfl rfl (by decide) rfl (dd dt_9_init 135 rfl) ?_
  refine N_iinc (v := 1) (lv' := [some (.ref 143), some (.int 1)]) (dd dt_9_init 136 rfl) (by decide) rfl rfl ic_1 rfl ?_
  refine N_goto (dd dt_9_init 137 rfl) (tgt := 239) rfl ?_
  refine N_iload_n (dd dt_9_init 126 rfl) 1 rfl rfl ?_
  refine N_bipush (v := 16) (dd dt_9_init 127 rfl) (by decide) ?_
  refine N_cmpge (dd dt_9_init 128 rfl) (tgt := 264) rfl (fun q => absurd q (by decide)) (fun _ => ?_)
  refine N_aload_n (dd dt_9_init 129 rfl) 0 rfl rfl ?_
  refine N_getR (C0 := RX9) (T := TX9) (N := 19) (k := 10) (b := 153) rfl (by decide) iw_9 (by decide) rfl rfl fl_9_53 rfl (by decide) rfl (by decide) (dd dt_9_init 130 rfl) ?_
  refine N_iload_n (dd dt_9_init 131 rfl) 1 rfl rfl ?_
  refine N_new (ci := 1) (a := 204) (C1 := RX1) (T := TX1) (N := 12) (rc := 32) (rs := 1209) (by decide) tyX1 tyX1_ok rfl (by decide) iw_1 rfl (by decide) ci_9_51 ist_1 izt_1 rfl rfl (dd dt_9_init 132 rfl) ?_
  refine N_dup (dd dt_9_init 133 rfl) rfl ?_
  refine N_callN (mc := 0) (ms := 0) (rc := 32) (rs := 1209) (c_1 (by decide)) cal_1_init rfl rfl in_1_init mi_9_109 (by decide) rfl (by decide) (dd dt_9_init 134 rfl) ?_
  refine N_aast (a := 153) (b := 204) (ci := 1) (cr := 26) (t0 := 6) (by decide) rfl rfl (by decide) (by decide) rfl rfl (by decide) rfl (dd dt_9_init 135 rfl) ?_
  refine N_iinc (v := 1) (lv' := [some (.ref 143), some (.int 2)]) (dd dt_9_init 136 rfl) (by decide) rfl rfl ic_1 rfl ?_
  refine N_goto (dd dt_9_init 137 rfl) (tgt := 239) rfl ?_
  refine N_iload_n (dd dt_9_init 126 rfl) 1 rfl rfl ?_
  refine N_bipush (v := 16) (dd dt_9_init 127 rfl) (by decide) ?_
  refine N_cmpge (dd dt_9_init 128 rfl) (tgt := 264) rfl (fun q => absurd q (by decide)) (fun _ => ?_)
  refine N_aload_n (dd dt_9_init 129 rfl) 0 rfl rfl ?_
  refine N_getR (C0 := RX9) (T := TX9) (N := 19) (k := 10) (b := 153) rfl (by decide) iw_9 (by decide) rfl rfl fl_9_53 rfl (by decide) rfl (by decide) (dd dt_9_init 130 rfl) ?_
  refine N_iload_n (dd dt_9_init 131 rfl) 1 rfl rfl ?_
  refine N_new (ci := 1) (a := 205) (C1 := RX1) (T := TX1) (N := 12) (rc := 31) (rs := 1197) (by decide) tyX1 tyX1_ok rfl (by decide) iw_1 rfl (by decide) ci_9_51 ist_1 izt_1 rfl rfl (dd dt_9_init 132 rfl) ?_
  refine N_dup (dd dt_9_init 133 rfl) rfl ?_
  refine N_callN (mc := 0) (ms := 0) (rc := 31) (rs := 1197) (c_1 (by decide)) cal_1_init rfl rfl in_1_init mi_9_109 (by decide) rfl (by decide) (dd dt_9_init 134 rfl) ?_
  refine N_aast (a := 153) (b := 205) (ci := 1) (cr := 26) (t0 := 6) (by decide) rfl rfl (by decide) (by decide) rfl rfl (by decide) rfl (dd dt_9_init 135 rfl) ?_
  refine N_iinc (v := 1) (lv' := [some (.ref 143), some (.int 3)]) (dd dt_9_init 136 rfl) (by decide) rfl rfl ic_1 rfl ?_
  refine N_goto (dd dt_9_init 137 rfl) (tgt := 239) rfl ?_
  refine N_iload_n (dd dt_9_init 126 rfl) 1 rfl rfl ?_
  refine N_bipush (v := 16) (dd dt_9_init 127 rfl) (by decide) ?_
  refine N_cmpge (dd dt_9_init 128 rfl) (tgt := 264) rfl (fun q => absurd q (by decide)) (fun _ => ?_)
  refine N_aload_n (dd dt_9_init 129 rfl) 0 rfl rfl ?_
  refine N_getR (C0 := RX9) (T := TX9) (N := 19) (k := 10) (b := 153) rfl (by decide) iw_9 (by decide) rfl rfl fl_9_53 rfl (by decide) rfl (by decide) (dd dt_9_init 130 rfl) ?_
  refine N_iload_n (dd dt_9_init 131 rfl) 1 rfl rfl ?_
  refine N_new (ci := 1) (a := 206) (C1 := RX1) (T := TX1) (N := 12) (rc := 30) (rs := 1185) (by decide) tyX1 tyX1_ok rfl (by decide) iw_1 rfl (by decide) ci_9_51 ist_1 izt_1 rfl rfl (dd dt_9_init 132 rfl) ?_
  refine N_dup (dd dt_9_init 133 rfl) rfl ?_
  refine N_callN (mc := 0) (ms := 0) (rc := 30) (rs := 1185) (c_1 (by decide)) cal_1_init rfl rfl in_1_init mi_9_109 (by decide) rfl (by decide) (dd dt_9_init 134 rfl) ?_
  refine N_aast (a := 153) (b := 206) (ci := 1) (cr := 26) (t0 := 6) (by decide) rfl rfl (by decide) (by decide) rfl rfl (by decide) rfl (dd dt_9_init 135 rfl) ?_
  refine N_iinc (v := 1) (lv' := [some (.ref 143), some (.int 4)]) (dd dt_9_init 136 rfl) (by decide) rfl rfl ic_1 rfl ?_
  refine N_goto (dd dt_9_init 137 rfl) (tgt := 239) rfl ?_
  refine N_iload_n (dd dt_9_init 126 rfl) 1 rfl rfl ?_
  refine N_bipush (v := 16) (dd dt_9_init 127 rfl) (by decide) ?_
  refine N_cmpge (dd dt_9_init 128 rfl) (tgt := 264) rfl (fun q => absurd q (by decide)) (fun _ => ?_)
  refine N_aload_n (dd dt_9_init 129 rfl) 0 rfl rfl ?_
  refine N_getR (C0 := RX9) (T := TX9) (N := 19) (k := 10) (b := 153) rfl (by decide) iw_9 (by decide) rfl rfl fl_9_53 rfl (by decide) rfl (by decide) (dd dt_9_init 130 rfl) ?_
  refine N_iload_n (dd dt_9_init 131 rfl) 1 rfl rfl ?_
  refine N_new (ci := 1) (a := 207) (C1 := RX1) (T := TX1) (N := 12) (rc := 29) (rs := 1173) (by decide) tyX1 tyX1_ok rfl (by decide) iw_1 rfl (by decide) ci_9_51 ist_1 izt_1 rfl rfl (dd dt_9_init 132 rfl) ?_
  refine N_dup (dd dt_9_init 133 rfl) rfl ?_
  refine N_callN (mc := 0) (ms := 0) (rc := 29) (rs := 1173) (c_1 (by decide)) cal_1_init rfl rfl in_1_init mi_9_109 (by decide) rfl (by decide) (dd dt_9_init 134 rfl) ?_
  refine N_aast (a := 153) (b := 207) (ci := 1) (cr := 26) (t0 := 6) (by decide) rfl rfl (by decide) (by decide) rfl rfl (by decide) rfl (dd dt_9_init 135 rfl) ?_
  refine N_iinc (v := 1) (lv' := [some (.ref 143), some (.int 5)]) (dd dt_9_init 136 rfl) (by decide) rfl rfl ic_1 rfl ?_
  refine N_goto (dd dt_9_init 137 rfl) (tgt := 239) rfl ?_
  refine N_iload_n (dd dt_9_init 126 rfl) 1 rfl rfl ?_
  refine N_bipush (v := 16) (dd dt_9_init 127 rfl) (by decide) ?_
  refine N_cmpge (dd dt_9_init 128 rfl) (tgt := 264) rfl (fun q => absurd q (by decide)) (fun _ => ?_)
  refine N_aload_n (dd dt_9_init 129 rfl) 0 rfl rfl ?_
  refine N_getR (C0 := RX9) (T := TX9) (N := 19) (k := 10) (b := 153) rfl (by decide) iw_9 (by decide) rfl rfl fl_9_53 rfl (by decide) rfl (by decide) (dd dt_9_init 130 rfl) ?_
  refine N_iload_n (dd dt_9_init 131 rfl) 1 rfl rfl ?_
  refine N_new (ci := 1) (a := 208) (C1 := RX1) (T := TX1) (N := 12) (rc := 28) (rs := 1161) (by decide) tyX1 tyX1_ok rfl (by decide) iw_1 rfl (by decide) ci_9_51 ist_1 izt_1 rfl rfl (dd dt_9_init 132 rfl) ?_
  refine N_dup (dd dt_9_init 133 rfl) rfl ?_
  refine N_callN (mc := 0) (ms := 0) (rc := 28) (rs := 1161) (c_1 (by decide)) cal_1_init rfl rfl in_1_init mi_9_109 (by decide) rfl (by decide) (dd dt_9_init 134 rfl) ?_
  refine N_aast (a := 153) (b := 208) (ci := 1) (cr := 26) (t0 := 6) (by decide) rfl rfl (by decide) (by decide) rfl rfl (by decide) rfl (dd dt_9_init 135 rfl) ?_
  refine N_iinc (v := 1) (lv' := [some (.ref 143), some (.int 6)]) (dd dt_9_init 136 rfl) (by decide) rfl rfl ic_1 rfl ?_
  refine N_goto (dd dt_9_init 137 rfl) (tgt := 239) rfl ?_
  refine N_iload_n (dd dt_9_init 126 rfl) 1 rfl rfl ?_
  refine N_bipush (v := 16) (dd dt_9_init 127 rfl) (by decide) ?_
  refine N_cmpge (dd dt_9_init 128 rfl) (tgt := 264) rfl (fun q => absurd q (by decide)) (fun _ => ?_)
  refine N_aload_n (dd dt_9_init 129 rfl) 0 rfl rfl ?_
  refine N_getR (C0 := RX9) (T := TX9) (N := 19) (k := 10) (b := 153) rfl (by decide) iw_9 (by decide) rfl rfl fl_9_53 rfl (by decide) rfl (by decide) (dd dt_9_init 130 rfl) ?_
  refine N_iload_n (dd dt_9_init 131 rfl) 1 rfl rfl ?_
  refine N_new (ci := 1) (a := 209) (C1 := RX1) (T := TX1) (N := 12) (rc := 27) (rs := 1149) (by decide) tyX1 tyX1_ok rfl (by decide) iw_1 rfl (by decide) ci_9_51 ist_1 izt_1 rfl rfl (dd dt_9_init 132 rfl) ?_
  refine N_dup (dd dt_9_init 133 rfl) rfl ?_
  refine N_callN (mc := 0) (ms := 0) (rc := 27) (rs := 1149) (c_1 (by decide)) cal_1_init rfl rfl in_1_init mi_9_109 (by decide) rfl (by decide) (dd dt_9_init 134 rfl) ?_
  refine N_aast (a := 153) (b := 209) (ci := 1) (cr := 26) (t0 := 6) (by decide) rfl rfl (by decide) (by decide) rfl rfl (by decide) rfl (dd dt_9_init 135 rfl) ?_
  refine N_iinc (v := 1) (lv' := [some (.ref 143), some (.int 7)]) (dd dt_9_init 136 rfl) (by decide) rfl rfl ic_1 rfl ?_
  refine N_goto (dd dt_9_init 137 rfl) (tgt := 239) rfl ?_
  refine N_iload_n (dd dt_9_init 126 rfl) 1 rfl rfl ?_
  refine N_bipush (v := 16) (dd dt_9_init 127 rfl) (by decide) ?_
  refine N_cmpge (dd dt_9_init 128 rfl) (tgt := 264) rfl (fun q => absurd q (by decide)) (fun _ => ?_)
  refine N_aload_n (dd dt_9_init 129 rfl) 0 rfl rfl ?_
  refine N_getR (C0 := RX9) (T := TX9) (N := 19) (k := 10) (b := 153) rfl (by decide) iw_9 (by decide) rfl rfl fl_9_53 rfl (by decide) rfl (by decide) (dd dt_9_init 130 rfl) ?_
  refine N_iload_n (dd dt_9_init 131 rfl) 1 rfl rfl ?_
  refine N_new (ci := 1) (a := 210) (C1 := RX1) (T := TX1) (N := 12) (rc := 26) (rs := 1137) (by decide) tyX1 tyX1_ok rfl (by decide) iw_1 rfl (by decide) ci_9_51 ist_1 izt_1 rfl rfl (dd dt_9_init 132 rfl) ?_
  refine N_dup (dd dt_9_init 133 rfl) rfl ?_
  refine N_callN (mc := 0) (ms := 0) (rc := 26) (rs := 1137) (c_1 (by decide)) cal_1_init rfl rfl in_1_init mi_9_109 (by decide) rfl (by decide) (dd dt_9_init 134 rfl) ?_
  refine N_aast (a := 153) (b := 210) (ci := 1) (cr := 26) (t0 := 6) (by decide) rfl rfl (by decide) (by decide) rfl rfl (by decide) rfl (dd dt_9_init 135 rfl) ?_
  refine N_iinc (v := 1) (lv' := [some (.ref 143), some (.int 8)]) (dd dt_9_init 136 rfl) (by decide) rfl rfl ic_1 rfl ?_
  refine N_goto (dd dt_9_init 137 rfl) (tgt := 239) rfl ?_
  refine N_iload_n (dd dt_9_init 126 rfl) 1 rfl rfl ?_
  refine N_bipush (v := 16) (dd dt_9_init 127 rfl) (by decide) ?_
  refine N_cmpge (dd dt_9_init 128 rfl) (tgt := 264) rfl (fun q => absurd q (by decide)) (fun _ => ?_)
  refine N_aload_n (dd dt_9_init 129 rfl) 0 rfl rfl ?_
  refine N_getR (C0 := RX9) (T := TX9) (N := 19) (k := 10) (b := 153) rfl (by decide) iw_9 (by decide) rfl rfl fl_9_53 rfl (by decide) rfl (by decide) (dd dt_9_init 130 rfl) ?_
  refine N_iload_n (dd dt_9_init 131 rfl) 1 rfl rfl ?_
  refine N_new (ci := 1) (a := 211) (C1 := RX1) (T := TX1) (N := 12) (rc := 25) (rs := 1125) (by decide) tyX1 tyX1_ok rfl (by decide) iw_1 rfl (by decide) ci_9_51 ist_1 izt_1 rfl rfl (dd dt_9_init 132 rfl) ?_
  refine N_dup (dd dt_9_init 133 rfl) rfl ?_
  refine N_callN (mc := 0) (ms := 0) (rc := 25) (rs := 1125) (c_1 (by decide)) cal_1_init rfl rfl in_1_init mi_9_109 (by decide) rfl (by decide) (dd dt_9_init 134 rfl) ?_
  refine N_aast (a := 153) (b := 211) (ci := 1) (cr := 26) (t0 := 6) (by decide) rfl rfl (by decide) (by decide) rfl rfl (by decide) rfl (dd dt_9_init 135 rfl) ?_
  refine N_iinc (v := 1) (lv' := [some (.ref 143), some (.int 9)]) (dd dt_9_init 136 rfl) (by decide) rfl rfl ic_1 rfl ?_
  refine N_goto (dd dt_9_init 137 rfl) (tgt := 239) rfl ?_
  refine N_iload_n (dd dt_9_init 126 rfl) 1 rfl rfl ?_
  refine N_bipush (v := 16) (dd dt_9_init 127 rfl) (by decide) ?_
  refine N_cmpge (dd dt_9_init 128 rfl) (tgt := 264) rfl (fun q => absurd q (by decide)) (fun _ => ?_)
  refine N_aload_n (dd dt_9_init 129 rfl) 0 rfl rfl ?_
  refine N_getR (C0 := RX9) (T := TX9) (N := 19) (k := 10) (b := 153) rfl (by decide) iw_9 (by decide) rfl rfl fl_9_53 rfl (by decide) rfl (by decide) (dd dt_9_init 130 rfl) ?_
  refine N_iload_n (dd dt_9_init 131 rfl) 1 rfl rfl ?_
  refine N_new (ci := 1) (a := 212) (C1 := RX1) (T := TX1) (N := 12) (rc := 24) (rs := 1113) (by decide) tyX1 tyX1_ok rfl (by decide) iw_1 rfl (by decide) ci_9_51 ist_1 izt_1 rfl rfl (dd dt_9_init 132 rfl) ?_
  refine N_dup (dd dt_9_init 133 rfl) rfl ?_
  refine N_callN (mc := 0) (ms := 0) (rc := 24) (rs := 1113) (c_1 (by decide)) cal_1_init rfl rfl in_1_init mi_9_109 (by decide) rfl (by decide) (dd dt_9_init 134 rfl) ?_
  refine N_aast (a := 153) (b := 212) (ci := 1) (cr := 26) (t0 := 6) (by decide) rfl rfl (by decide) (by decide) rfl rfl (by decide) rfl (dd dt_9_init 135 rfl) ?_
  refine N_iinc (v := 1) (lv' := [some (.ref 143), some (.int 10)]) (dd dt_9_init 136 rfl) (by decide) rfl rfl ic_1 rfl ?_
  refine N_goto (dd dt_9_init 137 rfl) (tgt := 239) rfl ?_
  refine N_iload_n (dd dt_9_init 126 rfl) 1 rfl rfl ?_
  refine N_bipush (v := 16) (dd dt_9_init 127 rfl) (by decide) ?_
  refine N_cmpge (dd dt_9_init 128 rfl) (tgt := 264) rfl (fun q => absurd q (by decide)) (fun _ => ?_)
  refine N_aload_n (dd dt_9_init 129 rfl) 0 rfl rfl ?_
  refine N_getR (C0 := RX9) (T := TX9) (N := 19) (k := 10) (b := 153) rfl (by decide) iw_9 (by decide) rfl rfl fl_9_53 rfl (by decide) rfl (by decide) (dd dt_9_init 130 rfl) ?_
  refine N_iload_n (dd dt_9_init 131 rfl) 1 rfl rfl ?_
  refine N_new (ci := 1) (a := 213) (C1 := RX1) (T := TX1) (N := 12) (rc := 23) (rs := 1101) (by decide) tyX1 tyX1_ok rfl (by decide) iw_1 rfl (by decide) ci_9_51 ist_1 izt_1 rfl rfl (dd dt_9_init 132 rfl) ?_
  refine N_dup (dd dt_9_init 133 rfl) rfl ?_
  refine N_callN (mc := 0) (ms := 0) (rc := 23) (rs := 1101) (c_1 (by decide)) cal_1_init rfl rfl in_1_init mi_9_109 (by decide) rfl (by decide) (dd dt_9_init 134 rfl) ?_
  refine N_aast (a := 153) (b := 213) (ci := 1) (cr := 26) (t0 := 6) (by decide) rfl rfl (by decide) (by decide) rfl rfl (by decide) rfl (dd dt_9_init 135 rfl) ?_
  refine N_iinc (v := 1) (lv' := [some (.ref 143), some (.int 11)]) (dd dt_9_init 136 rfl) (by decide) rfl rfl ic_1 rfl ?_
  refine N_goto (dd dt_9_init 137 rfl) (tgt := 239) rfl ?_
  refine N_iload_n (dd dt_9_init 126 rfl) 1 rfl rfl ?_
  refine N_bipush (v := 16) (dd dt_9_init 127 rfl) (by decide) ?_
  refine N_cmpge (dd dt_9_init 128 rfl) (tgt := 264) rfl (fun q => absurd q (by decide)) (fun _ => ?_)
  refine N_aload_n (dd dt_9_init 129 rfl) 0 rfl rfl ?_
  refine N_getR (C0 := RX9) (T := TX9) (N := 19) (k := 10) (b := 153) rfl (by decide) iw_9 (by decide) rfl rfl fl_9_53 rfl (by decide) rfl (by decide) (dd dt_9_init 130 rfl) ?_
  refine N_iload_n (dd dt_9_init 131 rfl) 1 rfl rfl ?_
  refine N_new (ci := 1) (a := 214) (C1 := RX1) (T := TX1) (N := 12) (rc := 22) (rs := 1089) (by decide) tyX1 tyX1_ok rfl (by decide) iw_1 rfl (by decide) ci_9_51 ist_1 izt_1 rfl rfl (dd dt_9_init 132 rfl) ?_
  refine N_dup (dd dt_9_init 133 rfl) rfl ?_
  refine N_callN (mc := 0) (ms := 0) (rc := 22) (rs := 1089) (c_1 (by decide)) cal_1_init rfl rfl in_1_init mi_9_109 (by decide) rfl (by decide) (dd dt_9_init 134 rfl) ?_
  refine N_aast (a := 153) (b := 214) (ci := 1) (cr := 26) (t0 := 6) (by decide) rfl rfl (by decide) (by decide) rfl rfl (by decide) rfl (dd dt_9_init 135 rfl) ?_
  refine N_iinc (v := 1) (lv' := [some (.ref 143), some (.int 12)]) (dd dt_9_init 136 rfl) (by decide) rfl rfl ic_1 rfl ?_
  refine N_goto (dd dt_9_init 137 rfl) (tgt := 239) rfl ?_
  refine N_iload_n (dd dt_9_init 126 rfl) 1 rfl rfl ?_
  refine N_bipush (v := 16) (dd dt_9_init 127 rfl) (by decide) ?_
  refine N_cmpge (dd dt_9_init 128 rfl) (tgt := 264) rfl (fun q => absurd q (by decide)) (fun _ => ?_)
  refine N_aload_n (dd dt_9_init 129 rfl) 0 rfl rfl ?_
  refine N_getR (C0 := RX9) (T := TX9) (N := 19) (k := 10) (b := 153) rfl (by decide) iw_9 (by decide) rfl rfl fl_9_53 rfl (by decide) rfl (by decide) (dd dt_9_init 130 rfl) ?_
  refine N_iload_n (dd dt_9_init 131 rfl) 1 rfl rfl ?_
  refine N_new (ci := 1) (a := 215) (C1 := RX1) (T := TX1) (N := 12) (rc := 21) (rs := 1077) (by decide) tyX1 tyX1_ok rfl (by decide) iw_1 rfl (by decide) ci_9_51 ist_1 izt_1 rfl rfl (dd dt_9_init 132 rfl) ?_
  refine N_dup (dd dt_9_init 133 rfl) rfl ?_
  refine N_callN (mc := 0) (ms := 0) (rc := 21) (rs := 1077) (c_1 (by decide)) cal_1_init rfl rfl in_1_init mi_9_109 (by decide) rfl (by decide) (dd dt_9_init 134 rfl) ?_
  refine N_aast (a := 153) (b := 215) (ci := 1) (cr := 26) (t0 := 6) (by decide) rfl rfl (by decide) (by decide) rfl rfl (by decide) rfl (dd dt_9_init 135 rfl) ?_
  refine N_iinc (v := 1) (lv' := [some (.ref 143), some (.int 13)]) (dd dt_9_init 136 rfl) (by decide) rfl rfl ic_1 rfl ?_
  refine N_goto (dd dt_9_init 137 rfl) (tgt := 239) rfl ?_
  refine N_iload_n (dd dt_9_init 126 rfl) 1 rfl rfl ?_
  refine N_bipush (v := 16) (dd dt_9_init 127 rfl) (by decide) ?_
  refine N_cmpge (dd dt_9_init 128 rfl) (tgt := 264) rfl (fun q => absurd q (by decide)) (fun _ => ?_)
  refine N_aload_n (dd dt_9_init 129 rfl) 0 rfl rfl ?_
  refine N_getR (C0 := RX9) (T := TX9) (N := 19) (k := 10) (b := 153) rfl (by decide) iw_9 (by decide) rfl rfl fl_9_53 rfl (by decide) rfl (by decide) (dd dt_9_init 130 rfl) ?_
  refine N_iload_n (dd dt_9_init 131 rfl) 1 rfl rfl ?_
  refine N_new (ci := 1) (a := 216) (C1 := RX1) (T := TX1) (N := 12) (rc := 20) (rs := 1065) (by decide) tyX1 tyX1_ok rfl (by decide) iw_1 rfl (by decide) ci_9_51 ist_1 izt_1 rfl rfl (dd dt_9_init 132 rfl) ?_
  refine N_dup (dd dt_9_init 133 rfl) rfl ?_
  refine N_callN (mc := 0) (ms := 0) (rc := 20) (rs := 1065) (c_1 (by decide)) cal_1_init rfl rfl in_1_init mi_9_109 (by decide) rfl (by decide) (dd dt_9_init 134 rfl) ?_
  refine N_aast (a := 153) (b := 216) (ci := 1) (cr := 26) (t0 := 6) (by decide) rfl rfl (by decide) (by decide) rfl rfl (by decide) rfl (dd dt_9_init 135 rfl) ?_
  refine N_iinc (v := 1) (lv' := [some (.ref 143), some (.int 14)]) (dd dt_9_init 136 rfl) (by decide) rfl rfl ic_1 rfl ?_
  refine N_goto (dd dt_9_init 137 rfl) (tgt := 239) rfl ?_
  refine N_iload_n (dd dt_9_init 126 rfl) 1 rfl rfl ?_
  refine N_bipush (v := 16) (dd dt_9_init 127 rfl) (by decide) ?_
  refine N_cmpge (dd dt_9_init 128 rfl) (tgt := 264) rfl (fun q => absurd q (by decide)) (fun _ => ?_)
  refine N_aload_n (dd dt_9_init 129 rfl) 0 rfl rfl ?_
  refine N_getR (C0 := RX9) (T := TX9) (N := 19) (k := 10) (b := 153) rfl (by decide) iw_9 (by decide) rfl rfl fl_9_53 rfl (by decide) rfl (by decide) (dd dt_9_init 130 rfl) ?_
  refine N_iload_n (dd dt_9_init 131 rfl) 1 rfl rfl ?_
  refine N_new (ci := 1) (a := 217) (C1 := RX1) (T := TX1) (N := 12) (rc := 19) (rs := 1053) (by decide) tyX1 tyX1_ok rfl (by decide) iw_1 rfl (by decide) ci_9_51 ist_1 izt_1 rfl rfl (dd dt_9_init 132 rfl) ?_
  refine N_dup (dd dt_9_init 133 rfl) rfl ?_
  refine N_callN (mc := 0) (ms := 0) (rc := 19) (rs := 1053) (c_1 (by decide)) cal_1_init rfl rfl in_1_init mi_9_109 (by decide) rfl (by decide) (dd dt_9_init 134 rfl) ?_
  refine N_aast (a := 153) (b := 217) (ci := 1) (cr := 26) (t0 := 6) (by decide) rfl rfl (by decide) (by decide) rfl rfl (by decide) rfl (dd dt_9_init 135 rfl) ?_
  refine N_iinc (v := 1) (lv' := [some (.ref 143), some (.int 15)]) (dd dt_9_init 136 rfl) (by decide) rfl rfl ic_1 rfl ?_
  refine N_goto (dd dt_9_init 137 rfl) (tgt := 239) rfl ?_
  refine N_iload_n (dd dt_9_init 126 rfl) 1 rfl rfl ?_
  refine N_bipush (v := 16) (dd dt_9_init 127 rfl) (by decide) ?_
  refine N_cmpge (dd dt_9_init 128 rfl) (tgt := 264) rfl (fun q => absurd q (by decide)) (fun _ => ?_)
  refine N_aload_n (dd dt_9_init 129 rfl) 0 rfl rfl ?_
  refine N_getR (C0 := RX9) (T := TX9) (N := 19) (k := 10) (b := 153) rfl (by decide) iw_9 (by decide) rfl rfl fl_9_53 rfl (by decide) rfl (by decide) (dd dt_9_init 130 rfl) ?_
  refine N_iload_n (dd dt_9_init 131 rfl) 1 rfl rfl ?_
  refine N_new (ci := 1) (a := 218) (C1 := RX1) (T := TX1) (N := 12) (rc := 18) (rs := 1041) (by decide) tyX1 tyX1_ok rfl (by decide) iw_1 rfl (by decide) ci_9_51 ist_1 izt_1 rfl rfl (dd dt_9_init 132 rfl) ?_
  refine N_dup (dd dt_9_init 133 rfl) rfl ?_
  refine N_callN (mc := 0) (ms := 0) (rc := 18) (rs := 1041) (c_1 (by decide)) cal_1_init rfl rfl in_1_init mi_9_109 (by decide) rfl (by decide) (dd dt_9_init 134 rfl) ?_
  refine N_aast (a := 153) (b := 218) (ci := 1) (cr := 26) (t0 := 6) (by decide) rfl rfl (by decide) (by decide) rfl rfl (by decide) rfl (dd dt_9_init 135 rfl) ?_
  refine N_iinc (v := 1) (lv' := [some (.ref 143), some (.int 16)]) (dd dt_9_init 136 rfl) (by decide) rfl rfl ic_1 rfl ?_
  refine N_goto (dd dt_9_init 137 rfl) (tgt := 239) rfl ?_
  refine N_iload_n (dd dt_9_init 126 rfl) 1 rfl rfl ?_
  refine N_bipush (v := 16) (dd dt_9_init 127 rfl) (by decide) ?_
  refine N_cmpge (dd dt_9_init 128 rfl) (tgt := 264) rfl (fun _ => ?_) (fun q => absurd (by decide) q)
  refine N_iconst (v := 0) (dd dt_9_init 138 rfl) (by decide) ?_
  refine N_istore_n (lv' := [some (.ref 143), some (.int 0)]) (dd dt_9_init 139 rfl) 1 rfl (by decide) rfl rfl ?_
  refine N_iload_n (dd dt_9_init 140 rfl) 1 rfl rfl ?_
  refine N_iconst (v := 3) (dd dt_9_init 141 rfl) (by decide) ?_
  refine N_cmpge (dd dt_9_init 142 rfl) (tgt := 290) rfl (fun q => absurd q (by decide)) (fun _ => ?_)
  refine N_aload_n (dd dt_9_init 143 rfl) 0 rfl rfl ?_
  refine N_getR (C0 := RX9) (T := TX9) (N := 19) (k := 11) (b := 154) rfl (by decide) iw_9 (by decide) rfl rfl fl_9_59 rfl (by decide) rfl (by decide) (dd dt_9_init 144 rfl) ?_
  refine N_iload_n (dd dt_9_init 145 rfl) 1 rfl rfl ?_
  refine N_new (ci := 5) (a := 219) (C1 := RX5) (T := TX5) (N := 7) (rc := 17) (rs := 1034) (by decide) tyX5 tyX5_ok rfl (by decide) iw_5 rfl (by decide) ci_9_57 ist_5 izt_5 rfl rfl (dd dt_9_init 146 rfl) ?_
  refine N_dup (dd dt_9_init 147 rfl) rfl ?_
  refine N_callN (mc := 5) (ms := 340) (rc := 12) (rs := 694) (c_5 (fun k => by rw [rstep_ne (by decide), rstep_ne (by decide), rstep_ne (by decide), rstep_ne (by decide), rstep_ne (by decide), rstep_ne (by decide), up_ne (by decide)]; exact hz _ (by decide) (by decide) k) (by decide)) cal_5_init rfl rfl in_5_init mi_9_110 (by decide) rfl (by decide) (dd dt_9_init 148 rfl) ?_
  refine N_aast (a := 154) (b := 219) (ci := 5) (cr := 27) (t0 := 7) (by decide) rfl rfl (by decide) (by decide) rfl rfl (by decide) rfl (dd dt_9_init 149 rfl) ?_
  refine N_iinc (v := 1) (lv' := [some (.ref 143), some (.int 1)]) (dd dt_9_init 150 rfl) (by decide) rfl rfl ic_1 rfl ?_
  refine N_goto (dd dt_9_init 151 rfl) (tgt := 266) rfl ?_
  refine N_iload_n (dd dt_9_init 140 rfl) 1 rfl rfl ?_
  refine N_iconst (v := 3) (dd dt_9_init 141 rfl) (by decide) ?_
  refine N_cmpge (dd dt_9_init 142 rfl) (tgt := 290) rfl (fun q => absurd q (by decide)) (fun _ => ?_)
  refine N_aload_n (dd dt_9_init 143 rfl) 0 rfl rfl ?_
  refine N_getR (C0 := RX9) (T := TX9) (N := 19) (k := 11) (b := 154) rfl (by decide) iw_9 (by decide) rfl rfl fl_9_59 rfl (by decide) rfl (by decide) (dd dt_9_init 144 rfl) ?_
  refine N_iload_n (dd dt_9_init 145 rfl) 1 rfl rfl ?_
  refine N_new (ci := 5) (a := 225) (C1 := RX5) (T := TX5) (N := 7) (rc := 11) (rs := 687) (by decide) tyX5 tyX5_ok rfl (by decide) iw_5 rfl (by decide) ci_9_57 ist_5 izt_5 rfl rfl (dd dt_9_init 146 rfl) ?_
  refine N_dup (dd dt_9_init 147 rfl) rfl ?_
  refine N_callN (mc := 5) (ms := 340) (rc := 6) (rs := 347) (c_5 (fun k => by rw [rstep_ne (by decide), rstep_ne (by decide), rstep_ne (by decide), rstep_ne (by decide), rstep_ne (by decide), rstep_ne (by decide), up_ne (by decide)]; exact hz _ (by decide) (by decide) k) (by decide)) cal_5_init rfl rfl in_5_init mi_9_110 (by decide) rfl (by decide) (dd dt_9_init 148 rfl) ?_
  refine N_aast (a := 154) (b := 225) (ci := 5) (cr := 27) (t0 := 7) (by decide) rfl rfl (by decide) (by decide) rfl rfl (by decide) rfl (dd dt_9_init 149 rfl) ?_
  refine N_iinc (v := 1) (lv' := [some (.ref 143), some (.int 2)]) (dd dt_9_init 150 rfl) (by decide) rfl rfl ic_1 rfl ?_
  refine N_goto (dd dt_9_init 151 rfl) (tgt := 266) rfl ?_
  refine N_iload_n (dd dt_9_init 140 rfl) 1 rfl rfl ?_
  refine N_iconst (v := 3) (dd dt_9_init 141 rfl) (by decide) ?_
  refine N_cmpge (dd dt_9_init 142 rfl) (tgt := 290) rfl (fun q => absurd q (by decide)) (fun _ => ?_)
  refine N_aload_n (dd dt_9_init 143 rfl) 0 rfl rfl ?_
  refine N_getR (C0 := RX9) (T := TX9) (N := 19) (k := 11) (b := 154) rfl (by decide) iw_9 (by decide) rfl rfl fl_9_59 rfl (by decide) rfl (by decide) (dd dt_9_init 144 rfl) ?_
  refine N_iload_n (dd dt_9_init 145 rfl) 1 rfl rfl ?_
  refine N_new (ci := 5) (a := 231) (C1 := RX5) (T := TX5) (N := 7) (rc := 5) (rs := 340) (by decide) tyX5 tyX5_ok rfl (by decide) iw_5 rfl (by decide) ci_9_57 ist_5 izt_5 rfl rfl (dd dt_9_init 146 rfl) ?_
  refine N_dup (dd dt_9_init 147 rfl) rfl ?_
  refine N_callN (mc := 5) (ms := 340) (rc := 0) (rs := 0) (c_5 (fun k => by rw [rstep_ne (by decide), rstep_ne (by decide), rstep_ne (by decide), rstep_ne (by decide), rstep_ne (by decide), rstep_ne (by decide), up_ne (by decide)]; exact hz _ (by decide) (by decide) k) (by decide)) cal_5_init rfl rfl in_5_init mi_9_110 (by decide) rfl (by decide) (dd dt_9_init 148 rfl) ?_
  refine N_aast (a := 154) (b := 231) (ci := 5) (cr := 27) (t0 := 7) (by decide) rfl rfl (by decide) (by decide) rfl rfl (by decide) rfl (dd dt_9_init 149 rfl) ?_
  refine N_iinc (v := 1) (lv' := [some (.ref 143), some (.int 3)]) (dd dt_9_init 150 rfl) (by decide) rfl rfl ic_1 rfl ?_
  refine N_goto (dd dt_9_init 151 rfl) (tgt := 266) rfl ?_
  refine N_iload_n (dd dt_9_init 140 rfl) 1 rfl rfl ?_
  refine N_iconst (v := 3) (dd dt_9_init 141 rfl) (by decide) ?_
  refine N_cmpge (dd dt_9_init 142 rfl) (tgt := 290) rfl (fun _ => ?_) (fun q => absurd (by decide) q)
  exact N_vret rfl rfl rfl rfl (by decide) (dd dt_9_init 152 rfl)
set_option maxHeartbeats 16000000 in
set_option maxRecDepth 100000 in
theorem c_9_237 {l : Launch} {E : ce} {d : Nat} {μ : mm} (hz : ∀ b, 237 ≤ b → b < 331 → ∀ k, μ b k = 0) : Cn l E (d + 1) yX9_init m_9_init [.ref 237] 190 [237, 23] μ 93 1733 283 [237, 23] (vm μ 237) := by
  refine Cn_of (by decide) rfl (fun _ _ => rfl) (by decide) (Nat.le_of_ble_eq_true rfl) rfl ?_
  refine N_aload_n (dd dt_9_init 0 rfl) 0 rfl rfl ?_
  refine N_oinit (by decide) mi_9_3 oi_in oi_cd (dd dt_9_init 1 rfl) ?_
  refine N_aload_n (dd dt_9_init 2 rfl) 0 rfl rfl ?_
  refine N_iconst (v := 0) (dd dt_9_init 3 rfl) (by decide) ?_
  refine N_put (C0 := RX9) (T := TX9) (N := 19) (k := 0) tyX9 tyX9_ok nmX9 rfl (by decide) iw_9 (by decide) rfl rfl rfl rfl rfl rfl fl_9_9 rfl (by decide) (up_id (by exact hz _ (by decide) (by decide) _)) (dd dt_9_init 4 rfl) ?_
  refine N_aload_n (dd dt_9_init 5 rfl) 0 rfl rfl ?_
  refine N_iconst (v := 0) (dd dt_9_init 6 rfl) (by decide) ?_
  refine N_put (C0 := RX9) (T := TX9) (N := 19) (k := 1) tyX9 tyX9_ok nmX9 rfl (by decide) iw_9 (by decide) rfl rfl rfl rfl rfl rfl fl_9_15 rfl (by decide) (up_id (by exact hz _ (by decide) (by decide) _)) (dd dt_9_init 7 rfl) ?_
  refine N_aload_n (dd dt_9_init 8 rfl) 0 rfl rfl ?_
  refine N_iconst (v := 0) (dd dt_9_init 9 rfl) (by decide) ?_
  refine N_put (C0 := RX9) (T := TX9) (N := 19) (k := 2) tyX9 tyX9_ok nmX9 rfl (by decide) iw_9 (by decide) rfl rfl rfl rfl rfl rfl fl_9_18 rfl (by decide) (up_id (by exact hz _ (by decide) (by decide) _)) (dd dt_9_init 10 rfl) ?_
  refine N_aload_n (dd dt_9_init 11 rfl) 0 rfl rfl ?_
  refine N_iconst (v := 0) (dd dt_9_init 12 rfl) (by decide) ?_
  refine N_put (C0 := RX9) (T := TX9) (N := 19) (k := 3) tyX9 tyX9_ok nmX9 rfl (by decide) iw_9 (by decide) rfl rfl rfl rfl rfl rfl fl_9_21 rfl (by decide) (up_id (by exact hz _ (by decide) (by decide) _)) (dd dt_9_init 13 rfl) ?_
  refine N_aload_n (dd dt_9_init 14 rfl) 0 rfl rfl ?_
  refine N_iconst (v := 0) (dd dt_9_init 15 rfl) (by decide) ?_
  refine N_put (C0 := RX9) (T := TX9) (N := 19) (k := 4) tyX9 tyX9_ok nmX9 rfl (by decide) iw_9 (by decide) rfl rfl rfl rfl rfl rfl fl_9_24 rfl (by decide) (up_id (by exact hz _ (by decide) (by decide) _)) (dd dt_9_init 16 rfl) ?_
  refine N_aload_n (dd dt_9_init 17 rfl) 0 rfl rfl ?_
  refine N_iconst (v := 0) (dd dt_9_init 18 rfl) (by decide) ?_
  refine N_put (C0 := RX9) (T := TX9) (N := 19) (k := 5) tyX9 tyX9_ok nmX9 rfl (by decide) iw_9 (by decide) rfl rfl rfl rfl rfl rfl fl_9_27 rfl (by decide) (up_id (by exact hz _ (by decide) (by decide) _)) (dd dt_9_init 19 rfl) ?_
  refine N_aload_n (dd dt_9_init 20 rfl) 0 rfl rfl ?_
  refine N_iconst (v := 0) (dd dt_9_init 21 rfl) (by decide) ?_
  refine N_put (C0 := RX9) (T := TX9) (N := 19) (k := 6) tyX9 tyX9_ok nmX9 rfl (by decide) iw_9 (by decide) rfl rfl rfl rfl rfl rfl fl_9_30 rfl (by decide) (up_id (by exact hz _ (by decide) (by decide) _)) (dd dt_9_init 22 rfl) ?_
  refine N_aload_n (dd dt_9_init 23 rfl) 0 rfl rfl ?_
  refine N_bipush (v := 6) (dd dt_9_init 24 rfl) (by decide) ?_
  refine N_bipush (v := 6) (dd dt_9_init 25 rfl) (by decide) ?_
  refine N_multi (a := 238) (N := 6) (L := 6) (rc := 86) (rs := 1691) (by decide) (by decide) ci_9_34 aw_int rfl rfl rfl (by decide) (by decide) (by decide) (by decide) (by decide) (by decide) (dd dt_9_init 26 rfl) ?_
  refine N_putR (C0 := RX9) (T := TX9) (N := 19) (k := 7) tyX9 tyX9_ok nmX9 rfl (by decide) iw_9 (by decide) rfl rfl rfl rfl rfl (fun _ => rfl) (fun _ => rfl) (by decide) (by decide) fl_9_36 rfl (by decide) rfl (dd dt_9_init 27 rfl) ?_
  refine N_aload_n (dd dt_9_init 28 rfl) 0 rfl rfl ?_
  refine N_iconst (v := 4) (dd dt_9_init 29 rfl) (by decide) ?_
  refine N_anew (ci := 24) (t0 := 4) (C1 := RX4) (a := 245) (N := 4) (rc := 85) (rs := 1687) (by decide) (by decide) rfl ci_9_39 (fun _ h => h.1.1) rfl rfl rfl (by decide) (by decide) (by decide) (dd dt_9_init 30 rfl) ?_
  refine N_putR (C0 := RX9) (T := TX9) (N := 19) (k := 8) tyX9 tyX9_ok nmX9 rfl (by decide) iw_9 (by decide) rfl rfl rfl rfl rfl (fun _ => rfl) (fun _ => rfl) (by decide) (by decide) fl_9_41 rfl (by decide) rfl (dd dt_9_init 31 rfl) ?_
  refine N_aload_n (dd dt_9_init 32 rfl) 0 rfl rfl ?_
  refine N_iconst (v := 4) (dd dt_9_init 33 rfl) (by decide) ?_
  refine N_anew (ci := 25) (t0 := 5) (C1 := RX6) (a := 246) (N := 4) (rc := 84) (rs := 1683) (by decide) (by decide) rfl ci_9_45 (fun _ h => h.1.2.1) rfl rfl rfl (by decide) (by decide) (by decide) (dd dt_9_init 34 rfl) ?_
  refine N_putR (C0 := RX9) (T := TX9) (N := 19) (k := 9) tyX9 tyX9_ok nmX9 rfl (by decide) iw_9 (by decide) rfl rfl rfl rfl rfl (fun _ => rfl) (fun _ => rfl) (by decide) (by decide) fl_9_47 rfl (by decide) rfl (dd dt_9_init 35 rfl) ?_
  refine N_aload_n (dd dt_9_init 36 rfl) 0 rfl rfl ?_
  refine N_bipush (v := 16) (dd dt_9_init 37 rfl) (by decide) ?_
  refine N_anew (ci := 26) (t0 := 6) (C1 := RX1) (a := 247) (N := 16) (rc := 83) (rs := 1667) (by decide) (by decide) rfl ci_9_51 (fun _ h => h.1.2.2.1) rfl rfl rfl (by decide) (by decide) (by decide) (dd dt_9_init 38 rfl) ?_
  refine N_putR (C0 := RX9) (T := TX9) (N := 19) (k := 10) tyX9 tyX9_ok nmX9 rfl (by decide) iw_9 (by decide) rfl rfl rfl rfl rfl (fun _ => rfl) (fun _ => rfl) (by decide) (by decide) fl_9_53 rfl (by decide) rfl (dd dt_9_init 39 rfl) ?_
  refine N_aload_n (dd dt_9_init 40 rfl) 0 rfl rfl ?_
  refine N_iconst (v := 3) (dd dt_9_init 41 rfl) (by decide) ?_
  refine N_anew (ci := 27) (t0 := 7) (C1 := RX5) (a := 248) (N := 3) (rc := 82) (rs := 1664) (by decide) (by decide) rfl ci_9_57 (fun _ h => h.1.2.2.2.1) rfl rfl rfl (by decide) (by decide) (by decide) (dd dt_9_init 42 rfl) ?_
  refine N_putR (C0 := RX9) (T := TX9) (N := 19) (k := 11) tyX9 tyX9_ok nmX9 rfl (by decide) iw_9 (by decide) rfl rfl rfl rfl rfl (fun _ => rfl) (fun _ => rfl) (by decide) (by decide) fl_9_59 rfl (by decide) rfl (dd dt_9_init 43 rfl) ?_
  refine N_aload_n (dd dt_9_init 44 rfl) 0 rfl rfl ?_
  refine N_new (ci := 10) (a := 249) (C1 := RX10) (T := TX10) (N := 5) (rc := 81) (rs := 1659) (by decide) tyX10 tyX10_ok rfl (by decide) iw_10 rfl (by decide) ci_9_63 ist_10 izt_10 rfl rfl (dd dt_9_init 45 rfl) ?_
  refine N_dup (dd dt_9_init 46 rfl) rfl ?_
  refine N_callN (mc := 2) (ms := 12) (rc := 79) (rs := 1647) (c_10 (fun k => by exact hz _ (by decide) (by decide) k) (by decide)) cal_10_init rfl rfl in_10_init mi_9_65 (by decide) rfl (by decide) (dd dt_9_init 47 rfl) ?_
  refine N_putR (C0 := RX9) (T := TX9) (N := 19) (k := 12) tyX9 tyX9_ok nmX9 rfl (by decide) iw_9 (by decide) rfl rfl rfl rfl rfl (fun _ => rfl) (fun _ => rfl) (by decide) (by decide) fl_9_66 rfl (by decide) rfl (dd dt_9_init 48 rfl) ?_
  refine N_aload_n (dd dt_9_init 49 rfl) 0 rfl rfl ?_
  refine N_new (ci := 7) (a := 252) (C1 := RX7) (T := TX7) (N := 10) (rc := 78) (rs := 1637) (by decide) tyX7 tyX7_ok rfl (by decide) iw_7 rfl (by decide) ci_9_70 ist_7 izt_7 rfl rfl (dd dt_9_init 50 rfl) ?_
  refine N_dup (dd dt_9_init 51 rfl) rfl ?_
  refine N_callN (mc := 6) (ms := 72) (rc := 72) (rs := 1565) (c_7 (fun k => by exact hz _ (by decide) (by decide) k) (by decide)) cal_7_init rfl rfl in_7_init mi_9_72 (by decide) rfl (by decide) (dd dt_9_init 52 rfl) ?_
  refine N_putR (C0 := RX9) (T := TX9) (N := 19) (k := 13) tyX9 tyX9_ok nmX9 rfl (by decide) iw_9 (by decide) rfl rfl rfl rfl rfl (fun _ => rfl) (fun _ => rfl) (by decide) (by decide) fl_9_73 rfl (by decide) rfl (dd dt_9_init 53 rfl) ?_
  refine N_aload_n (dd dt_9_init 54 rfl) 0 rfl rfl ?_
  refine N_new (ci := 3) (a := 259) (C1 := RX3) (T := TX3) (N := 7) (rc := 71) (rs := 1558) (by decide) tyX3 tyX3_ok rfl (by decide) iw_3 rfl (by decide) ci_9_77 ist_3 izt_3 rfl rfl (dd dt_9_init 55 rfl) ?_
  refine N_dup (dd dt_9_init 56 rfl) rfl ?_
  refine N_callN (mc := 13) (ms := 173) (rc := 58) (rs := 1385) (c_3 (fun k => by exact hz _ (by decide) (by decide) k) (by decide)) cal_3_init rfl rfl in_3_init mi_9_79 (by decide) rfl (by decide) (dd dt_9_init 57 rfl) ?_
  refine N_putR (C0 := RX9) (T := TX9) (N := 19) (k := 14) tyX9 tyX9_ok nmX9 rfl (by decide) iw_9 (by decide) rfl rfl rfl rfl rfl (fun _ => rfl) (fun _ => rfl) (by decide) (by decide) fl_9_80 rfl (by decide) rfl (dd dt_9_init 58 rfl) ?_
  refine N_aload_n (dd dt_9_init 59 rfl) 0 rfl rfl ?_
  refine N_new (ci := 2) (a := 273) (C1 := RX2) (T := TX2) (N := 6) (rc := 57) (rs := 1379) (by decide) tyX2 tyX2_ok rfl (by decide) iw_2 rfl (by decide) ci_9_84 ist_2 izt_2 rfl rfl (dd dt_9_init 60 rfl) ?_
  refine N_dup (dd dt_9_init 61 rfl) rfl ?_
  refine N_callN (mc := 12) (ms := 58) (rc := 45) (rs := 1321) (c_2 (fun k => by rw [up_ne (by decide)]; exact hz _ (by decide) (by decide) k) (by decide)) cal_2_init rfl rfl in_2_init mi_9_86 (by decide) rfl (by decide) (dd dt_9_init 62 rfl) ?_
  refine N_putR (C0 := RX9) (T := TX9) (N := 19) (k := 15) tyX9 tyX9_ok nmX9 rfl (by decide) iw_9 (by decide) rfl rfl rfl rfl rfl (fun _ => rfl) (fun _ => rfl) (by decide) (by decide) fl_9_87 rfl (by decide) rfl (dd dt_9_init 63 rfl) ?_
  refine N_aload_n (dd dt_9_init 64 rfl) 0 rfl rfl ?_
  refine N_bipush (v := 16) (dd dt_9_init 65 rfl) (by decide) ?_
  refine N_newa_int (a := 286) (N := 16) (rc := 44) (rs := 1305) (by decide) aw_int rfl rfl rfl (by decide) (by decide) (by decide) (dd dt_9_init 66 rfl) ?_
  refine N_putR (C0 := RX9) (T := TX9) (N := 19) (k := 16) tyX9 tyX9_ok nmX9 rfl (by decide) iw_9 (by decide) rfl rfl rfl rfl rfl (fun _ => rfl) (fun _ => rfl) (by decide) (by decide) fl_9_91 rfl (by decide) rfl (dd dt_9_init 67 rfl) ?_
  refine N_aload_n (dd dt_9_init 68 rfl) 0 rfl rfl ?_
  refine N_bipush (v := 16) (dd dt_9_init 69 rfl) (by decide) ?_
  refine N_newa_int (a := 287) (N := 16) (rc := 43) (rs := 1289) (by decide) aw_int rfl rfl rfl (by decide) (by decide) (by decide) (dd dt_9_init 70 rfl) ?_
  refine N_putR (C0 := RX9) (T := TX9) (N := 19) (k := 17) tyX9 tyX9_ok nmX9 rfl (by decide) iw_9 (by decide) rfl rfl rfl rfl rfl (fun _ => rfl) (fun _ => rfl) (by decide) (by decide) fl_9_95 rfl (by decide) rfl (dd dt_9_init 71 rfl) ?_
  refine N_aload_n (dd dt_9_init 72 rfl) 0 rfl rfl ?_
  refine N_bipush (v := 16) (dd dt_9_init 73 rfl) (by decide) ?_
  refine N_newa_int (a := 288) (N := 16) (rc := 42) (rs := 1273) (by decide) aw_int rfl rfl rfl (by decide) (by decide) (by decide) (dd dt_9_init 74 rfl) ?_
  refine N_putR (C0 := RX9) (T := TX9) (N := 19) (k := 18) tyX9 tyX9_ok nmX9 rfl (by decide) iw_9 (by decide) rfl rfl rfl rfl rfl (fun _ => rfl) (fun _ => rfl) (by decide) (by decide) fl_9_98 rfl (by decide) rfl (dd dt_9_init 75 rfl) ?_
  refine N_iconst (v := 0) (dd dt_9_init 76 rfl) (by decide) ?_
  refine N_istore_n (lv' := [some (.ref 237), some (.int 0)]) (dd dt_9_init 77 rfl) 1 rfl (by decide) rfl rfl ?_
  refine N_iload_n (dd dt_9_init 78 rfl) 1 rfl rfl ?_
  refine N_bipush (v := 6) (dd dt_9_init 79 rfl) (by decide) ?_
  refine N_cmpge (dd dt_9_init 80 rfl) (tgt := 185) rfl (fun q => absurd q (by decide)) (fun _ => ?_)
  refine N_aload_n (dd dt_9_init 81 rfl) 0 rfl rfl ?_
  refine N_getR (C0 := RX9) (T := TX9) (N := 19) (k := 7) (b := 238) rfl (by decide) iw_9 (by decide) rfl rfl fl_9_36 rfl (by decide) rfl (by decide) (dd dt_9_init 82 rfl) ?_
  refine N_iload_n (dd dt_9_init 83 rfl) 1 rfl rfl ?_
  refine N_aald (ci := 23) (t0 := 3) (b := 239) (by decide) rfl (by decide) rfl (by decide) (by decide) rfl rfl (dd dt_9_init 84 rfl) ?_
  refine N_iconst (v := 1) (dd dt_9_init 85 rfl) (by decide) ?_
  refine N_callS (c_fill rfl (by decide) (by decide) (by decide)) cal_J7_fill rfl sc_J7_fill ml_9_101 (by decide) (by decide) (dd dt_9_init 86 rfl) ?_
  refine N_aload_n (dd dt_9_init 87 rfl) 0 rfl rfl ?_
  refine N_getR (C0 := RX9) (T := TX9) (N := 19) (k := 7) (b := 238) rfl (by decide) iw_9 (by decide) rfl rfl fl_9_36 rfl (by decide) rfl (by decide) (dd dt_9_init 88 rfl) ?_
  refine N_iload_n (dd dt_9_init 89 rfl) 1 rfl rfl ?_
  refine N_aald (ci := 23) (t0 := 3) (b := 239) (by decide) rfl (by decide) rfl (by decide) (by decide) rfl rfl (dd dt_9_init 90 rfl) ?_
  refine N_iload_n (dd dt_9_init 91 rfl) 1 rfl rfl ?_
  refine N_iconst (v := 0) (dd dt_9_init 92 rfl) (by decide) ?_
  refine N_isto (μ' := rstep _ 239 0) (by decide) rfl (by decide) rfl (dd dt_9_init 93 rfl) ?_
  refine N_iinc (v := 1) (lv' := [some (.ref 237), some (.int 1)]) (dd dt_9_init 94 rfl) (by decide) rfl rfl ic_1 rfl ?_
  refine N_goto (dd dt_9_init 95 rfl) (tgt := 154) rfl ?_
  refine N_iload_n (dd dt_9_init 78 rfl) 1 rfl rfl ?_
  refine N_bipush (v := 6) (dd dt_9_init 79 rfl) (by decide) ?_
  refine N_cmpge (dd dt_9_init 80 rfl) (tgt := 185) rfl (fun q => absurd q (by decide)) (fun _ => ?_)
  refine N_aload_n (dd dt_9_init 81 rfl) 0 rfl rfl ?_
  refine N_getR (C0 := RX9) (T := TX9) (N := 19) (k := 7) (b := 238) rfl (by decide) iw_9 (by decide) rfl rfl fl_9_36 rfl (by decide) rfl (by decide) (dd dt_9_init 82 rfl) ?_
  refine N_iload_n (dd dt_9_init 83 rfl) 1 rfl rfl ?_
  refine N_aald (ci := 23) (t0 := 3) (b := 240) (by decide) rfl (by decide) rfl (by decide) (by decide) rfl rfl (dd dt_9_init 84 rfl) ?_
  refine N_iconst (v := 1) (dd dt_9_init 85 rfl) (by decide) ?_
  refine N_callS (c_fill rfl (by decide) (by decide) (by decide)) cal_J7_fill rfl sc_J7_fill ml_9_101 (by decide) (by decide) (dd dt_9_init 86 rfl) ?_
  refine N_aload_n (dd dt_9_init 87 rfl) 0 rfl rfl ?_
  refine N_getR (C0 := RX9) (T := TX9) (N := 19) (k := 7) (b := 238) rfl (by decide) iw_9 (by decide) rfl rfl fl_9_36 rfl (by decide) rfl (by decide) (dd dt_9_init 88 rfl) ?_
  refine N_iload_n (dd dt_9_init 89 rfl) 1 rfl rfl ?_
  refine N_aald (ci := 23) (t0 := 3) (b := 240) (by decide) rfl (by decide) rfl (by decide) (by decide) rfl rfl (dd dt_9_init 90 rfl) ?_
  refine N_iload_n (dd dt_9_init 91 rfl) 1 rfl rfl ?_
  refine N_iconst (v := 0) (dd dt_9_init 92 rfl) (by decide) ?_
  refine N_isto (μ' := rstep _ 240 1) (by decide) rfl (by decide) rfl (dd dt_9_init 93 rfl) ?_
  refine N_iinc (v := 1) (lv' := [some (.ref 237), some (.int 2)]) (dd dt_9_init 94 rfl) (by decide) rfl rfl ic_1 rfl ?_
  refine N_goto (dd dt_9_init 95 rfl) (tgt := 154) rfl ?_
  refine N_iload_n (dd dt_9_init 78 rfl) 1 rfl rfl ?_
  refine N_bipush (v := 6) (dd dt_9_init 79 rfl) (by decide) ?_
  refine N_cmpge (dd dt_9_init 80 rfl) (tgt := 185) rfl (fun q => absurd q (by decide)) (fun _ => ?_)
  refine N_aload_n (dd dt_9_init 81 rfl) 0 rfl rfl ?_
  refine N_getR (C0 := RX9) (T := TX9) (N := 19) (k := 7) (b := 238) rfl (by decide) iw_9 (by decide) rfl rfl fl_9_36 rfl (by decide) rfl (by decide) (dd dt_9_init 82 rfl) ?_
  refine N_iload_n (dd dt_9_init 83 rfl) 1 rfl rfl ?_
  refine N_aald (ci := 23) (t0 := 3) (b := 241) (by decide) rfl (by decide) rfl (by decide) (by decide) rfl rfl (dd dt_9_init 84 rfl) ?_
  refine N_iconst (v := 1) (dd dt_9_init 85 rfl) (by decide) ?_
  refine N_callS (c_fill rfl (by decide) (by decide) (by decide)) cal_J7_fill rfl sc_J7_fill ml_9_101 (by decide) (by decide) (dd dt_9_init 86 rfl) ?_
  refine N_aload_n (dd dt_9_init 87 rfl) 0 rfl rfl ?_
  refine N_getR (C0 := RX9) (T := TX9) (N := 19) (k := 7) (b := 238) rfl (by decide) iw_9 (by decide) rfl rfl fl_9_36 rfl (by decide) rfl (by decide) (dd dt_9_init 88 rfl) ?_
  refine N_iload_n (dd dt_9_init 89 rfl) 1 rfl rfl ?_
  refine N_aald (ci := 23) (t0 := 3) (b := 241) (by decide) rfl (by decide) rfl (by decide) (by decide) rfl rfl (dd dt_9_init 90 rfl) ?_
  refine N_iload_n (dd dt_9_init 91 rfl) 1 rfl rfl ?_
  refine N_iconst (v := 0) (dd dt_9_init 92 rfl) (by decide) ?_
  refine N_isto (μ' := rstep _ 241 2) (by decide) rfl (by decide) rfl (dd dt_9_init 93 rfl) ?_
  refine N_iinc (v := 1) (lv' := [some (.ref 237), some (.int 3)]) (dd dt_9_init 94 rfl) (by decide) rfl rfl ic_1 rfl ?_
  refine N_goto (dd dt_9_init 95 rfl) (tgt := 154) rfl ?_
  refine N_iload_n (dd dt_9_init 78 rfl) 1 rfl rfl ?_
  refine N_bipush (v := 6) (dd dt_9_init 79 rfl) (by decide) ?_
  refine N_cmpge (dd dt_9_init 80 rfl) (tgt := 185) rfl (fun q => absurd q (by decide)) (fun _ => ?_)
  refine N_aload_n (dd dt_9_init 81 rfl) 0 rfl rfl ?_
  refine N_getR (C0 := RX9) (T := TX9) (N := 19) (k := 7) (b := 238) rfl (by decide) iw_9 (by decide) rfl rfl fl_9_36 rfl (by decide) rfl (by decide) (dd dt_9_init 82 rfl) ?_
  refine N_iload_n (dd dt_9_init 83 rfl) 1 rfl rfl ?_
  refine N_aald (ci := 23) (t0 := 3) (b := 242) (by decide) rfl (by decide) rfl (by decide) (by decide) rfl rfl (dd dt_9_init 84 rfl) ?_
  refine N_iconst (v := 1) (dd dt_9_init 85 rfl) (by decide) ?_
  refine N_callS (c_fill rfl (by decide) (by decide) (by decide)) cal_J7_fill rfl sc_J7_fill ml_9_101 (by decide) (by decide) (dd dt_9_init 86 rfl) ?_
  refine N_aload_n (dd dt_9_init 87 rfl) 0 rfl rfl ?_
  refine N_getR (C0 := RX9) (T := TX9) (N := 19) (k := 7) (b := 238) rfl (by decide) iw_9 (by decide) rfl rfl fl_9_36 rfl (by decide) rfl (by decide) (dd dt_9_init 88 rfl) ?_
  refine N_iload_n (dd dt_9_init 89 rfl) 1 rfl rfl ?_
  refine N_aald (ci := 23) (t0 := 3) (b := 242) (by decide) rfl (by decide) rfl (by decide) (by decide) rfl rfl (dd dt_9_init 90 rfl) ?_
  refine N_iload_n (dd dt_9_init 91 rfl) 1 rfl rfl ?_
  refine N_iconst (v := 0) (dd dt_9_init 92 rfl) (by decide) ?_
  refine N_isto (μ' := rstep _ 242 3) (by decide) rfl (by decide) rfl (dd dt_9_init 93 rfl) ?_
  refine N_iinc (v := 1) (lv' := [some (.ref 237), some (.int 4)]) (dd dt_9_init 94 rfl) (by decide) rfl rfl ic_1 rfl ?_
  refine N_goto (dd dt_9_init 95 rfl) (tgt := 154) rfl ?_
  refine N_iload_n (dd dt_9_init 78 rfl) 1 rfl rfl ?_
  refine N_bipush (v := 6) (dd dt_9_init 79 rfl) (by decide) ?_
  refine N_cmpge (dd dt_9_init 80 rfl) (tgt := 185) rfl (fun q => absurd q (by decide)) (fun _ => ?_)
  refine N_aload_n (dd dt_9_init 81 rfl) 0 rfl rfl ?_
  refine N_getR (C0 := RX9) (T := TX9) (N := 19) (k := 7) (b := 238) rfl (by decide) iw_9 (by decide) rfl rfl fl_9_36 rfl (by decide) rfl (by decide) (dd dt_9_init 82 rfl) ?_
  refine N_iload_n (dd dt_9_init 83 rfl) 1 rfl rfl ?_
  refine N_aald (ci := 23) (t0 := 3) (b := 243) (by decide) rfl (by decide) rfl (by decide) (by decide) rfl rfl (dd dt_9_init 84 rfl) ?_
  refine N_iconst (v := 1) (dd dt_9_init 85 rfl) (by decide) ?_
  refine N_callS (c_fill rfl (by decide) (by decide) (by decide)) cal_J7_fill rfl sc_J7_fill ml_9_101 (by decide) (by decide) (dd dt_9_init 86 rfl) ?_
  refine N_aload_n (dd dt_9_init 87 rfl) 0 rfl rfl ?_
  refine N_getR (C0 := RX9) (T := TX9) (N := 19) (k := 7) (b := 238) rfl (by decide) iw_9 (by decide) rfl rfl fl_9_36 rfl (by decide) rfl (by decide) (dd dt_9_init 88 rfl) ?_
  refine N_iload_n (dd dt_9_init 89 rfl) 1 rfl rfl ?_
  refine N_aald (ci := 23) (t0 := 3) (b := 243) (by decide) rfl (by decide) rfl (by decide) (by decide) rfl rfl (dd dt_9_init 90 rfl) ?_
  refine N_iload_n (dd dt_9_init 91 rfl) 1 rfl rfl ?_
  refine N_iconst (v := 0) (dd dt_9_init 92 rfl) (by decide) ?_
  refine N_isto (μ' := rstep _ 243 4) (by decide) rfl (by decide) rfl (dd dt_9_init 93 rfl) ?_
  refine N_iinc (v := 1) (lv' := [some (.ref 237), some (.int 5)]) (dd dt_9_init 94 rfl) (by decide) rfl rfl ic_1 rfl ?_
  refine N_goto (dd dt_9_init 95 rfl) (tgt := 154) rfl ?_
  refine N_iload_n (dd dt_9_init 78 rfl) 1 rfl rfl ?_
  refine N_bipush (v := 6) (dd dt_9_init 79 rfl) (by decide) ?_
  refine N_cmpge (dd dt_9_init 80 rfl) (tgt := 185) rfl (fun q => absurd q (by decide)) (fun _ => ?_)
  refine N_aload_n (dd dt_9_init 81 rfl) 0 rfl rfl ?_
  refine N_getR (C0 := RX9) (T := TX9) (N := 19) (k := 7) (b := 238) rfl (by decide) iw_9 (by decide) rfl rfl fl_9_36 rfl (by decide) rfl (by decide) (dd dt_9_init 82 rfl) ?_
  refine N_iload_n (dd dt_9_init 83 rfl) 1 rfl rfl ?_
  refine N_aald (ci := 23) (t0 := 3) (b := 244) (by decide) rfl (by decide) rfl (by decide) (by decide) rfl rfl (dd dt_9_init 84 rfl) ?_
  refine N_iconst (v := 1) (dd dt_9_init 85 rfl) (by decide) ?_
  refine N_callS (c_fill rfl (by decide) (by decide) (by decide)) cal_J7_fill rfl sc_J7_fill ml_9_101 (by decide) (by decide) (dd dt_9_init 86 rfl) ?_
  refine N_aload_n (dd dt_9_init 87 rfl) 0 rfl rfl ?_
  refine N_getR (C0 := RX9) (T := TX9) (N := 19) (k := 7) (b := 238) rfl (by decide) iw_9 (by decide) rfl rfl fl_9_36 rfl (by decide) rfl (by decide) (dd dt_9_init 88 rfl) ?_
  refine N_iload_n (dd dt_9_init 89 rfl) 1 rfl rfl ?_
  refine N_aald (ci := 23) (t0 := 3) (b := 244) (by decide) rfl (by decide) rfl (by decide) (by decide) rfl rfl (dd dt_9_init 90 rfl) ?_
  refine N_iload_n (dd dt_9_init 91 rfl) 1 rfl rfl ?_
  refine N_iconst (v := 0) (dd dt_9_init 92 rfl) (by decide) ?_
  refine N_isto (μ' := rstep _ 244 5) (by decide) rfl (by decide) rfl (dd dt_9_init 93 rfl) ?_
  refine N_iinc (v := 1) (lv' := [some (.ref 237), some (.int 6)]) (dd dt_9_init 94 rfl) (by decide) rfl rfl ic_1 rfl ?_
  refine N_goto (dd dt_9_init 95 rfl) (tgt := 154) rfl ?_
  refine N_iload_n (dd dt_9_init 78 rfl) 1 rfl rfl ?_
  refine N_bipush (v := 6) (dd dt_9_init 79 rfl) (by decide) ?_
  refine N_cmpge (dd dt_9_init 80 rfl) (tgt := 185) rfl (fun _ => ?_) (fun q => absurd (by decide) q)
  refine N_iconst (v := 0) (dd dt_9_init 96 rfl) (by decide) ?_
  refine N_istore_n (lv' := [some (.ref 237), some (.int 0)]) (dd dt_9_init 97 rfl) 1 rfl (by decide) rfl rfl ?_
  refine N_iload_n (dd dt_9_init 98 rfl) 1 rfl rfl ?_
  refine N_iconst (v := 4) (dd dt_9_init 99 rfl) (by decide) ?_
  refine N_cmpge (dd dt_9_init 100 rfl) (tgt := 211) rfl (fun q => absurd q (by decide)) (fun _ => ?_)
  refine N_aload_n (dd dt_9_init 101 rfl) 0 rfl rfl ?_
  refine N_getR (C0 := RX9) (T := TX9) (N := 19) (k := 8) (b := 245) rfl (by decide) iw_9 (by decide) rfl rfl fl_9_41 rfl (by decide) rfl (by decide) (dd dt_9_init 102 rfl) ?_
  refine N_iload_n (dd dt_9_init 103 rfl) 1 rfl rfl ?_
  refine N_new (ci := 4) (a := 289) (C1 := RX4) (T := TX4) (N := 7) (rc := 41) (rs := 1266) (by decide) tyX4 tyX4_ok rfl (by decide) iw_4 rfl (by decide) ci_9_39 ist_4 izt_4 rfl rfl (dd dt_9_init 104 rfl) ?_
  refine N_dup (dd dt_9_init 105 rfl) rfl ?_
  refine N_callN (mc := 0) (ms := 0) (rc := 41) (rs := 1266) (c_4 (by decide)) cal_4_init rfl rfl in_4_init mi_9_107 (by decide) rfl (by decide) (dd dt_9_init 106 rfl) ?_
  refine N_aast (a := 245) (b := 289) (ci := 4) (cr := 24) (t0 := 4) (by decide) rfl rfl (by decide) (by decide) rfl rfl (by decide) rfl (dd dt_9_init 107 rfl) ?_
  refine N_iinc (v := 1) (lv' := [some (.ref 237), some (.int 1)]) (dd dt_9_init 108 rfl) (by decide) rfl rfl ic_1 rfl ?_
  refine N_goto (dd dt_9_init 109 rfl) (tgt := 187) rfl ?_
  refine N_iload_n (dd dt_9_init 98 rfl) 1 rfl rfl ?_
  refine N_iconst (v := 4) (dd dt_9_init 99 rfl) (by decide) ?_
  refine N_cmpge (dd dt_9_init 100 rfl) (tgt := 211) rfl (fun q => absurd q (by decide)) (fun _ => ?_)
  refine N_aload_n (dd dt_9_init 101 rfl) 0 rfl rfl ?_
  refine N_getR (C0 := RX9) (T := TX9) (N := 19) (k := 8) (b := 245) rfl (by decide) iw_9 (by decide) rfl rfl fl_9_41 rfl (by decide) rfl (by decide) (dd dt_9_init 102 rfl) ?_
  refine N_iload_n (dd dt_9_init 103 rfl) 1 rfl rfl ?_
  refine N_new (ci := 4) (a := 290) (C1 := RX4) (T := TX4) (N := 7) (rc := 40) (rs := 1259) (by decide) tyX4 tyX4_ok rfl (by decide) iw_4 rfl (by decide) ci_9_39 ist_4 izt_4 rfl rfl (dd dt_9_init 104 rfl) ?_
  refine N_dup (dd dt_9_init 105 rfl) rfl ?_
  refine N_callN (mc := 0) (ms := 0) (rc := 40) (rs := 1259) (c_4 (by decide)) cal_4_init rfl rfl in_4_init mi_9_107 (by decide) rfl (by decide) (dd dt_9_init 106 rfl) ?_
  refine N_aast (a := 245) (b := 290) (ci := 4) (cr := 24) (t0 := 4) (by decide) rfl rfl (by decide) (by decide) rfl rfl (by decide) rfl (dd dt_9_init 107 rfl) ?_
  refine N_iinc (v := 1) (lv' := [some (.ref 237), some (.int 2)]) (dd dt_9_init 108 rfl) (by decide) rfl rfl ic_1 rfl ?_
  refine N_goto (dd dt_9_init 109 rfl) (tgt := 187) rfl ?_
  refine N_iload_n (dd dt_9_init 98 rfl) 1 rfl rfl ?_
  refine N_iconst (v := 4) (dd dt_9_init 99 rfl) (by decide) ?_
  refine N_cmpge (dd dt_9_init 100 rfl) (tgt := 211) rfl (fun q => absurd q (by decide)) (fun _ => ?_)
  refine N_aload_n (dd dt_9_init 101 rfl) 0 rfl rfl ?_
  refine N_getR (C0 := RX9) (T := TX9) (N := 19) (k := 8) (b := 245) rfl (by decide) iw_9 (by decide) rfl rfl fl_9_41 rfl (by decide) rfl (by decide) (dd dt_9_init 102 rfl) ?_
  refine N_iload_n (dd dt_9_init 103 rfl) 1 rfl rfl ?_
  refine N_new (ci := 4) (a := 291) (C1 := RX4) (T := TX4) (N := 7) (rc := 39) (rs := 1252) (by decide) tyX4 tyX4_ok rfl (by decide) iw_4 rfl (by decide) ci_9_39 ist_4 izt_4 rfl rfl (dd dt_9_init 104 rfl) ?_
  refine N_dup (dd dt_9_init 105 rfl) rfl ?_
  refine N_callN (mc := 0) (ms := 0) (rc := 39) (rs := 1252) (c_4 (by decide)) cal_4_init rfl rfl in_4_init mi_9_107 (by decide) rfl (by decide) (dd dt_9_init 106 rfl) ?_
  refine N_aast (a := 245) (b := 291) (ci := 4) (cr := 24) (t0 := 4) (by decide) rfl rfl (by decide) (by decide) rfl rfl (by decide) rfl (dd dt_9_init 107 rfl) ?_
  refine N_iinc (v := 1) (lv' := [some (.ref 237), some (.int 3)]) (dd dt_9_init 108 rfl) (by decide) rfl rfl ic_1 rfl ?_
  refine N_goto (dd dt_9_init 109 rfl) (tgt := 187) rfl ?_
  refine N_iload_n (dd dt_9_init 98 rfl) 1 rfl rfl ?_
  refine N_iconst (v := 4) (dd dt_9_init 99 rfl) (by decide) ?_
  refine N_cmpge (dd dt_9_init 100 rfl) (tgt := 211) rfl (fun q => absurd q (by decide)) (fun _ => ?_)
  refine N_aload_n (dd dt_9_init 101 rfl) 0 rfl rfl ?_
  refine N_getR (C0 := RX9) (T := TX9) (N := 19) (k := 8) (b := 245) rfl (by decide) iw_9 (by decide) rfl rfl fl_9_41 rfl (by decide) rfl (by decide) (dd dt_9_init 102 rfl) ?_
  refine N_iload_n (dd dt_9_init 103 rfl) 1 rfl rfl ?_
  refine N_new (ci := 4) (a := 292) (C1 := RX4) (T := TX4) (N := 7) (rc := 38) (rs := 1245) (by decide) tyX4 tyX4_ok rfl (by decide) iw_4 rfl (by decide) ci_9_39 ist_4 izt_4 rfl rfl (dd dt_9_init 104 rfl) ?_
  refine N_dup (dd dt_9_init 105 rfl) rfl ?_
  refine N_callN (mc := 0) (ms := 0) (rc := 38) (rs := 1245) (c_4 (by decide)) cal_4_init rfl rfl in_4_init mi_9_107 (by decide) rfl (by decide) (dd dt_9_init 106 rfl) ?_
  refine N_aast (a := 245) (b := 292) (ci := 4) (cr := 24) (t0 := 4) (by decide) rfl rfl (by decide) (by decide) rfl rfl (by decide) rfl (dd dt_9_init 107 rfl) ?_
  refine N_iinc (v := 1) (lv' := [some (.ref 237), some (.int 4)]) (dd dt_9_init 108 rfl) (by decide) rfl rfl ic_1 rfl ?_
  refine N_goto (dd dt_9_init 109 rfl) (tgt := 187) rfl ?_
  refine N_iload_n (dd dt_9_init 98 rfl) 1 rfl rfl ?_
  refine N_iconst (v := 4) (dd dt_9_init 99 rfl) (by decide) ?_
  refine N_cmpge (dd dt_9_init 100 rfl) (tgt := 211) rfl (fun _ => ?_) (fun q => absurd (by decide) q)
  refine N_iconst (v := 0) (dd dt_9_init 110 rfl) (by decide) ?_
  refine N_istore_n (lv' := [some (.ref 237), some (.int 0)]) (dd dt_9_init 111 rfl) 1 rfl (by decide) rfl rfl ?_
  refine N_iload_n (dd dt_9_init 112 rfl) 1 rfl rfl ?_
  refine N_iconst (v := 4) (dd dt_9_init 113 rfl) (by decide) ?_
  refine N_cmpge (dd dt_9_init 114 rfl) (tgt := 237) rfl (fun q => absurd q (by decide)) (fun _ => ?_)
  refine N_aload_n (dd dt_9_init 115 rfl) 0 rfl rfl ?_
  refine N_getR (C0 := RX9) (T := TX9) (N := 19) (k := 9) (b := 246) rfl (by decide) iw_9 (by decide) rfl rfl fl_9_47 rfl (by decide) rfl (by decide) (dd dt_9_init 116 rfl) ?_
  refine N_iload_n (dd dt_9_init 117 rfl) 1 rfl rfl ?_
  refine N_new (ci := 6) (a := 293) (C1 := RX6) (T := TX6) (N := 3) (rc := 37) (rs := 1242) (by decide) tyX6 tyX6_ok rfl (by decide) iw_6 rfl (by decide) ci_9_45 ist_6 izt_6 rfl rfl (dd dt_9_init 118 rfl) ?_
  refine N_dup (dd dt_9_init 119 rfl) rfl ?_
  refine N_callN (mc := 0) (ms := 0) (rc := 37) (rs := 1242) (c_6 (by decide)) cal_6_init rfl rfl in_6_init mi_9_108 (by decide) rfl (by decide) (dd dt_9_init 120 rfl) ?_
  refine N_aast (a := 246) (b := 293) (ci := 6) (cr := 25) (t0 := 5) (by decide) rfl rfl (by decide) (by decide) rfl rfl (by decide) rfl (dd dt_9_init 121 rfl) ?_
  refine N_iinc (v := 1) (lv' := [some (.ref 237), some (.int 1)]) (dd dt_9_init 122 rfl) (by decide) rfl rfl ic_1 rfl ?_
  refine N_goto (dd dt_9_init 123 rfl) (tgt := 213) rfl ?_
  refine N_iload_n (dd dt_9_init 112 rfl) 1 rfl rfl ?_
  refine N_iconst (v := 4) (dd dt_9_init 113 rfl) (by decide) ?_
  refine N_cmpge (dd dt_9_init 114 rfl) (tgt := 237) rfl (fun q => absurd q (by decide)) (fun _ => ?_)
  refine N_aload_n (dd dt_9_init 115 rfl) 0 rfl rfl ?_
  refine N_getR (C0 := RX9) (T := TX9) (N := 19) (k := 9) (b := 246) rfl (by decide) iw_9 (by decide) rfl rfl fl_9_47 rfl (by decide) rfl (by decide) (dd dt_9_init 116 rfl) ?_
  refine N_iload_n (dd dt_9_init 117 rfl) 1 rfl rfl ?_
  refine N_new (ci := 6) (a := 294) (C1 := RX6) (T := TX6) (N := 3) (rc := 36) (rs := 1239) (by decide) tyX6 tyX6_ok rfl (by decide) iw_6 rfl (by decide) ci_9_45 ist_6 izt_6 rfl rfl (dd dt_9_init 118 rfl) ?_
  refine N_dup (dd dt_9_init 119 rfl) rfl ?_
  refine N_callN (mc := 0) (ms := 0) (rc := 36) (rs := 1239) (c_6 (by decide)) cal_6_init rfl rfl in_6_init mi_9_108 (by decide) rfl (by decide) (dd dt_9_init 120 rfl) ?_
  refine N_aast (a := 246) (b := 294) (ci := 6) (cr := 25) (t0 := 5) (by decide) rfl rfl (by decide) (by decide) rfl rfl (by decide) rfl (dd dt_9_init 121 rfl) ?_
  refine N_iinc (v := 1) (lv' := [some (.ref 237), some (.int 2)]) (dd dt_9_init 122 rfl) (by decide) rfl rfl ic_1 rfl ?_
  refine N_goto (dd dt_9_init 123 rfl) (tgt := 213) rfl ?_
  refine N_iload_n (dd dt_9_init 112 rfl) 1 rfl rfl ?_
  refine N_iconst (v := 4) (dd dt_9_init 113 rfl) (by decide) ?_
  refine N_cmpge (dd dt_9_init 114 rfl) (tgt := 237) rfl (fun q => absurd q (by decide)) (fun _ => ?_)
  refine N_aload_n (dd dt_9_init 115 rfl) 0 rfl rfl ?_
  refine N_getR (C0 := RX9) (T := TX9) (N := 19) (k := 9) (b := 246) rfl (by decide) iw_9 (by decide) rfl rfl fl_9_47 rfl (by decide) rfl (by decide) (dd dt_9_init 116 rfl) ?_
  refine N_iload_n (dd dt_9_init 117 rfl) 1 rfl rfl ?_
  refine N_new (ci := 6) (a := 295) (C1 := RX6) (T := TX6) (N := 3) (rc := 35) (rs := 1236) (by decide) tyX6 tyX6_ok rfl (by decide) iw_6 rfl (by decide) ci_9_45 ist_6 izt_6 rfl rfl (dd dt_9_init 118 rfl) ?_
  refine N_dup (dd dt_9_init 119 rfl) rfl ?_
  refine N_callN (mc := 0) (ms := 0) (rc := 35) (rs := 1236) (c_6 (by decide)) cal_6_init rfl rfl in_6_init mi_9_108 (by decide) rfl (by decide) (dd dt_9_init 120 rfl) ?_
  refine N_aast (a := 246) (b := 295) (ci := 6) (cr := 25) (t0 := 5) (by decide) rfl rfl (by decide) (by decide) rfl rfl (by decide) rfl (dd dt_9_init 121 rfl) ?_
  refine N_iinc (v := 1) (lv' := [some (.ref 237), some (.int 3)]) (dd dt_9_init 122 rfl) (by decide) rfl rfl ic_1 rfl ?_
  refine N_goto (dd dt_9_init 123 rfl) (tgt := 213) rfl ?_
  refine N_iload_n (dd dt_9_init 112 rfl) 1 rfl rfl ?_
  refine N_iconst (v := 4) (dd dt_9_init 113 rfl) (by decide) ?_
  refine N_cmpge (dd dt_9_init 114 rfl) (tgt := 237) rfl (fun q => absurd q (by decide)) (fun _ => ?_)
  refine N_aload_n (dd dt_9_init 115 rfl) 0 rfl rfl ?_
  refine N_getR (C0 := RX9) (T := TX9) (N := 19) (k := 9) (b := 246) rfl (by decide) iw_9 (by decide) rfl rfl fl_9_47 rfl (by decide) rfl (by decide) (dd dt_9_init 116 rfl) ?_
  refine N_iload_n (dd dt_9_init 117 rfl) 1 rfl rfl ?_
  refine N_new (ci := 6) (a := 296) (C1 := RX6) (T := TX6) (N := 3) (rc := 34) (rs := 1233) (by decide) tyX6 tyX6_ok rfl (by decide) iw_6 rfl (by decide) ci_9_45 ist_6 izt_6 rfl rfl (dd dt_9_init 118 rfl) ?_
  refine N_dup (dd dt_9_init 119 rfl) rfl ?_
  refine N_callN (mc := 0) (ms := 0) (rc := 34) (rs := 1233) (c_6 (by decide)) cal_6_init rfl rfl in_6_init mi_9_108 (by decide) rfl (by decide) (dd dt_9_init 120 rfl) ?_
  refine N_aast (a := 246) (b := 296) (ci := 6) (cr := 25) (t0 := 5) (by decide) rfl rfl (by decide) (by decide) rfl rfl (by decide) rfl (dd dt_9_init 121 rfl) ?_
  refine N_iinc (v := 1) (lv' := [some (.ref 237), some (.int 4)]) (dd dt_9_init 122 rfl) (by decide) rfl rfl ic_1 rfl ?_
  refine N_goto (dd dt_9_init 123 rfl) (tgt := 213) rfl ?_
  refine N_iload_n (dd dt_9_init 112 rfl) 1 rfl rfl ?_
  refine N_iconst (v := 4) (dd dt_9_init 113 rfl) (by decide) ?_
  refine N_cmpge (dd dt_9_init 114 rfl) (tgt := 237) rfl (fun _ => ?_) (fun q => absurd (by decide) q)
  refine N_iconst (v := 0) (dd dt_9_init 124 rfl) (by decide) ?_
  refine N_istore_n (lv' := [some (.ref 237), some (.int 0)]) (dd dt_9_init 125 rfl) 1 rfl (by decide) rfl rfl ?_
  refine N_iload_n (dd dt_9_init 126 rfl) 1 rfl rfl ?_
  refine N_bipush (v := 16) (dd dt_9_init 127 rfl) (by decide) ?_
  refine N_cmpge (dd dt_9_init 128 rfl) (tgt := 264) rfl (fun q => absurd q (by decide)) (fun _ => ?_)
  refine N_aload_n (dd dt_9_init 129 rfl) 0 rfl rfl ?_
  refine N_getR (C0 := RX9) (T := TX9) (N := 19) (k := 10) (b := 247) rfl (by decide) iw_9 (by decide) rfl rfl fl_9_53 rfl (by decide) rfl (by decide) (dd dt_9_init 130 rfl) ?_
  refine N_iload_n (dd dt_9_init 131 rfl) 1 rfl rfl ?_
  refine N_new (ci := 1) (a := 297) (C1 := RX1) (T := TX1) (N := 12) (rc := 33) (rs := 1221) (by decide) tyX1 tyX1_ok rfl (by decide) iw_1 rfl (by decide) ci_9_51 ist_1 izt_1 rfl rfl (dd dt_9_init 132 rfl) ?_
  refine N_dup (dd dt_9_init 133 rfl) rfl ?_
  refine N_callN (mc := 0) (ms := 0) (rc := 33) (rs := 1221) (c_1 (by decide)) cal_1_init rfl rfl in_1_init mi_9_109 (by decide) rfl (by decide) (dd dt_9_init 134 rfl) ?_
  refine N_aast (a := 247) (b := 297) (ci := 1) (cr := 26) (t0 := 6) (by decide) rfl rfl (by decide) (by decide) rfl rfl (by decide) rfl (dd dt_9_init 135 rfl) ?_
  refine N_iinc (v := 1) (lv' := [some (.ref 237), some (.int 1)]) (dd dt_9_init 136 rfl) (by decide) rfl rfl ic_1 rfl ?_
  refine N_goto (dd dt_9_init 137 rfl) (tgt := 239) rfl ?_
  refine N_iload_n (dd dt_9_init 126 rfl) 1 rfl rfl ?_
  refine N_bipush (v := 16) (dd dt_9_init 127 rfl) (by decide) ?_
  refine N_cmpge (dd dt_9_init 128 rfl) (tgt := 264) rfl (fun q => absurd q (by decide)) (fun _ => ?_)
  refine N_aload_n (dd dt_9_init 129 rfl) 0 rfl rfl ?_
  refine N_getR (C0 := RX9) (T := TX9) (N := 19) (k := 10) (b := 247) rfl (by decide) iw_9 (by decide) rfl rfl fl_9_53 rfl (by decide) rfl (by decide) (dd dt_9_init 130 rfl) ?_
  refine N_iload_n (dd dt_9_init 131 rfl) 1 rfl rfl ?_
  refine N_new (ci := 1) (a := 298) (C1 := RX1) (T := TX1) (N := 12) (rc := 32) (rs := 1209) (by decide) tyX1 tyX1_ok rfl (by decide) iw_1 rfl (by decide) ci_9_51 ist_1 izt_1 rfl rfl (dd dt_9_init 132 rfl) ?_
  refine N_dup (dd dt_9_init 133 rfl) rfl ?_
  refine N_callN (mc := 0) (ms := 0) (rc := 32) (rs := 1209) (c_1 (by decide)) cal_1_init rfl rfl in_1_init mi_9_109 (by decide) rfl (by decide) (dd dt_9_init 134 rfl) ?_
  refine N_aast (a := 247) (b := 298) (ci := 1) (cr := 26) (t0 := 6) (by decide) rfl rfl (by decide) (by decide) rfl rfl (by decide) rfl (dd dt_9_init 135 rfl) ?_
  refine N_iinc (v := 1) (lv' := [some (.ref 237), some (.int 2)]) (dd dt_9_init 136 rfl) (by decide) rfl rfl ic_1 rfl ?_
  refine N_goto (dd dt_9_init 137 rfl) (tgt := 239) rfl ?_
  refine N_iload_n (dd dt_9_init 126 rfl) 1 rfl rfl ?_
  refine N_bipush (v := 16) (dd dt_9_init 127 rfl) (by decide) ?_
  refine N_cmpge (dd dt_9_init 128 rfl) (tgt := 264) rfl (fun q => absurd q (by decide)) (fun _ => ?_)
  refine N_aload_n (dd dt_9_init 129 rfl) 0 rfl rfl ?_
  refine N_getR (C0 := RX9) (T := TX9) (N := 19) (k := 10) (b := 247) rfl (by decide) iw_9 (by decide) rfl rfl fl_9_53 rfl (by decide) rfl (by decide) (dd dt_9_init 130 rfl) ?_
  refine N_iload_n (dd dt_9_init 131 rfl) 1 rfl rfl ?_
  refine N_new (ci := 1) (a := 299) (C1 := RX1) (T := TX1) (N := 12) (rc := 31) (rs := 1197) (by decide) tyX1 tyX1_ok rfl (by decide) iw_1 rfl (by decide) ci_9_51 ist_1 izt_1 rfl rfl (dd dt_9_init 132 rfl) ?_
  refine N_dup (dd dt_9_init 133 rfl) rfl ?_
  refine N_callN (mc := 0) (ms := 0) (rc := 31) (rs := 1197) (c_1 (by decide)) cal_1_init rfl rfl in_1_init mi_9_109 (by decide) rfl (by decide) (dd dt_9_init 134 rfl) ?_
  refine N_aast (a := 247) (b := 299) (ci := 1) (cr := 26) (t0 := 6) (by decide) rfl rfl (by decide) (by decide) rfl rfl (by decide) rfl (dd dt_9_init 135 rfl) ?_
  refine N_iinc (v := 1) (lv' := [some (.ref 237), some (.int 3)]) (dd dt_9_init 136 rfl) (by decide) rfl rfl ic_1 rfl ?_
  refine N_goto (dd dt_9_init 137 rfl) (tgt := 239) rfl ?_
  refine N_iload_n (dd dt_9_init 126 rfl) 1 rfl rfl ?_
  refine N_bipush (v := 16) (dd dt_9_init 127 rfl) (by decide) ?_
  refine N_cmpge (dd dt_9_init 128 rfl) (tgt := 264) rfl (fun q => absurd q (by decide)) (fun _ => ?_)
  refine N_aload_n (dd dt_9_init 129 rfl) 0 rfl rfl ?_
  refine N_getR (C0 := RX9) (T := TX9) (N := 19) (k := 10) (b := 247) rfl (by decide) iw_9 (by decide) rfl rfl fl_9_53 rfl (by decide) rfl (by decide) (dd dt_9_init 130 rfl) ?_
  refine N_iload_n (dd dt_9_init 131 rfl) 1 rfl rfl ?_
  refine N_new (ci := 1) (a := 300) (C1 := RX1) (T := TX1) (N := 12) (rc := 30) (rs := 1185) (by decide) tyX1 tyX1_ok rfl (by decide) iw_1 rfl (by decide) ci_9_51 ist_1 izt_1 rfl rfl (dd dt_9_init 132 rfl) ?_
  refine N_dup (dd dt_9_init 133 rfl) rfl ?_
  refine N_callN (mc := 0) (ms := 0) (rc := 30) (rs := 1185) (c_1 (by decide)) cal_1_init rfl rfl in_1_init mi_9_109 (by decide) rfl (by decide) (dd dt_9_init 134 rfl) ?_
  refine N_aast (a := 247) (b := 300) (ci := 1) (cr := 26) (t0 := 6) (by decide) rfl rfl (by decide) (by decide) rfl rfl (by decide) rfl (dd dt_9_init 135 rfl) ?_
  refine N_iinc (v := 1) (lv' := [some (.ref 237), some (.int 4)]) (dd dt_9_init 136 rfl) (by decide) rfl rfl ic_1 rfl ?_
  refine N_goto (dd dt_9_init 137 rfl) (tgt := 239) rfl ?_
  refine N_iload_n (dd dt_9_init 126 rfl) 1 rfl rfl ?_
  refine N_bipush (v := 16) (dd dt_9_init 127 rfl) (by decide) ?_
  refine N_cmpge (dd dt_9_init 128 rfl) (tgt := 264) rfl (fun q => absurd q (by decide)) (fun _ => ?_)
  refine N_aload_n (dd dt_9_init 129 rfl) 0 rfl rfl ?_
  refine N_getR (C0 := RX9) (T := TX9) (N := 19) (k := 10) (b := 247) rfl (by decide) iw_9 (by decide) rfl rfl fl_9_53 rfl (by decide) rfl (by decide) (dd dt_9_init 130 rfl) ?_
  refine N_iload_n (dd dt_9_init 131 rfl) 1 rfl rfl ?_
  refine N_new (ci := 1) (a := 301) (C1 := RX1) (T := TX1) (N := 12) (rc := 29) (rs := 1173) (by decide) tyX1 tyX1_ok rfl (by decide) iw_1 rfl (by decide) ci_9_51 ist_1 izt_1 rfl rfl (dd dt_9_init 132 rfl) ?_
  refine N_dup (dd dt_9_init 133 rfl) rfl ?_
  refine N_callN (mc := 0) (ms := 0) (rc := 29) (rs := 1173) (c_1 (by decide)) cal_1_init rfl rfl in_1_init mi_9_109 (by decide) rfl (by decide) (dd dt_9_init 134 rfl) ?_
  refine N_aast (a := 247) (b := 301) (ci := 1) (cr := 26) (t0 := 6) (by decide) rfl rfl (by decide) (by decide) rfl rfl (by decide) rfl (dd dt_9_init 135 rfl) ?_
  refine N_iinc (v := 1) (lv' := [some (.ref 237), some (.int 5)]) (dd dt_9_init 136 rfl) (by decide) rfl rfl ic_1 rfl ?_
  refine N_goto (dd dt_9_init 137 rfl) (tgt := 239) rfl ?_
  refine N_iload_n (dd dt_9_init 126 rfl) 1 rfl rfl ?_
  refine N_bipush (v := 16) (dd dt_9_init 127 rfl) (by decide) ?_
  refine N_cmpge (dd dt_9_init 128 rfl) (tgt := 264) rfl (fun q => absurd q (by decide)) (fun _ => ?_)
  refine N_aload_n (dd dt_9_init 129 rfl) 0 rfl rfl ?_
  refine N_getR (C0 := RX9) (T := TX9) (N := 19) (k := 10) (b := 247) rfl (by decide) iw_9 (by decide) rfl rfl fl_9_53 rfl (by decide) rfl (by decide) (dd dt_9_init 130 rfl) ?_
  refine N_iload_n (dd dt_9_init 131 rfl) 1 rfl rfl ?_
  refine N_new (ci := 1) (a := 302) (C1 := RX1) (T := TX1) (N := 12) (rc := 28) (rs := 1161) (by decide) tyX1 tyX1_ok rfl (by decide) iw_1 rfl (by decide) ci_9_51 ist_1 izt_1 rfl rfl (dd dt_9_init 132 rfl) ?_
  refine N_dup (dd dt_9_init 133 rfl) rfl ?_
  refine N_callN (mc := 0) (ms := 0) (rc := 28) (rs := 1161) (c_1 (by decide)) cal_1_init rfl rfl in_1_init mi_9_109 (by decide) rfl (by decide) (dd dt_9_init 134 rfl) ?_
  refine N_aast (a := 247) (b := 302) (ci := 1) (cr := 26) (t0 := 6) (by decide) rfl rfl (by decide) (by decide) rfl rfl (by decide) rfl (dd dt_9_init 135 rfl) ?_
  refine N_iinc (v := 1) (lv' := [some (.ref 237), some (.int 6)]) (dd dt_9_init 136 rfl) (by decide) rfl rfl ic_1 rfl ?_
  refine N_goto (dd dt_9_init 137 rfl) (tgt := 239) rfl ?_
  refine N_iload_n (dd dt_9_init 126 rfl) 1 rfl rfl ?_
  refine N_bipush (v := 16) (dd dt_9_init 127 rfl) (by decide) ?_
  refine N_cmpge (dd dt_9_init 128 rfl) (tgt := 264) rfl (fun q => absurd q (by decide)) (fun _ => ?_)
  refine N_aload_n (dd dt_9_init 129 rfl) 0 rfl rfl ?_
  refine N_getR (C0 := RX9) (T := TX9) (N := 19) (k := 10) (b := 247) rfl (by decide) iw_9 (by decide) rfl rfl fl_9_53 rfl (by decide) rfl (by decide) (dd dt_9_init 130 rfl) ?_
  refine N_iload_n (dd dt_9_init 131 rfl) 1 rfl rfl ?_
  refine N_new (ci := 1) (a := 303) (C1 := RX1) (T := TX1) (N := 12) (rc := 27) (rs := 1149) (by decide) tyX1 tyX1_ok rfl (by decide) iw_1 rfl (by decide) ci_9_51 ist_1 izt_1 rfl rfl (dd dt_9_init 132 rfl) ?_
  refine N_dup (dd dt_9_init 133 rfl) rfl ?_
  refine N_callN (mc := 0) (ms := 0) (rc := 27) (rs := 1149) (c_1 (by decide)) cal_1_init rfl rfl in_1_init mi_9_109 (by decide) rfl (by decide) (dd dt_9_init 134 rfl) ?_
  refine N_aast (a := 247) (b := 303) (ci := 1) (cr := 26) (t0 := 6) (by decide) rfl rfl (by decide) (by decide) rfl rfl (by decide) rfl (dd dt_9_init 135 rfl) ?_
  refine N_iinc (v := 1) (lv' := [some (.ref 237), some (.int 7)]) (dd dt_9_init 136 rfl) (by decide) rfl rfl ic_1 rfl ?_
  refine N_goto (dd dt_9_init 137 rfl) (tgt := 239) rfl ?_
  refine N_iload_n (dd dt_9_init 126 rfl) 1 rfl rfl ?_
  refine N_bipush (v := 16) (dd dt_9_init 127 rfl) (by decide) ?_
  refine N_cmpge (dd dt_9_init 128 rfl) (tgt := 264) rfl (fun q => absurd q (by decide)) (fun _ => ?_)
  refine N_aload_n (dd dt_9_init 129 rfl) 0 rfl rfl ?_
  refine N_getR (C0 := RX9) (T := TX9) (N := 19) (k := 10) (b := 247) rfl (by decide) iw_9 (by decide) rfl rfl fl_9_53 rfl (by decide) rfl (by decide) (dd dt_9_init 130 rfl) ?_
  refine N_iload_n (dd dt_9_init 131 rfl) 1 rfl rfl ?_
  refine N_new (ci := 1) (a := 304) (C1 := RX1) (T := TX1) (N := 12) (rc := 26) (rs := 1137) (by decide) tyX1 tyX1_ok rfl (by decide) iw_1 rfl (by decide) ci_9_51 ist_1 izt_1 rfl rfl (dd dt_9_init 132 rfl) ?_
  refine N_dup (dd dt_9_init 133 rfl) rfl ?_
  refine N_callN (mc := 0) (ms := 0) (rc := 26) (rs := 1137) (c_1 (by decide)) cal_1_init rfl rfl in_1_init mi_9_109 (by decide) rfl (by decide) (dd dt_9_init 134 rfl) ?_
  refine N_aast (a := 247) (b := 304) (ci := 1) (cr := 26) (t0 := 6) (by decide) rfl rfl (by decide) (by decide) rfl rfl (by decide) rfl (dd dt_9_init 135 rfl) ?_
  refine N_iinc (v := 1) (lv' := [some (.ref 237), some (.int 8)]) (dd dt_9_init 136 rfl) (by decide) rfl rfl ic_1 rfl ?_
  refine N_goto (dd dt_9_init 137 rfl) (tgt := 239) rfl ?_
  refine N_iload_n (dd dt_9_init 126 rfl) 1 rfl rfl ?_
  refine N_bipush (v := 16) (dd dt_9_init 127 rfl) (by decide) ?_
  refine N_cmpge (dd dt_9_init 128 rfl) (tgt := 264) rfl (fun q => absurd q (by decide)) (fun _ => ?_)
  refine N_aload_n (dd dt_9_init 129 rfl) 0 rfl rfl ?_
  refine N_getR (C0 := RX9) (T := TX9) (N := 19) (k := 10) (b := 247) rfl (by decide) iw_9 (by decide) rfl rfl fl_9_53 rfl (by decide) rfl (by decide) (dd dt_9_init 130 rfl) ?_
  refine N_iload_n (dd dt_9_init 131 rfl) 1 rfl rfl ?_
  refine N_new (ci := 1) (a := 305) (C1 := RX1) (T := TX1) (N := 12) (rc := 25) (rs := 1125) (by decide) tyX1 tyX1_ok rfl (by decide) iw_1 rfl (by decide) ci_9_51 ist_1 izt_1 rfl rfl (dd dt_9_init 132 rfl) ?_
  refine N_dup (dd dt_9_init 133 rfl) rfl ?_
  refine N_callN (mc := 0) (ms := 0) (rc := 25) (rs := 1125) (c_1 (by decide)) cal_1_init rfl rfl in_1_init mi_9_109 (by decide) rfl (by decide) (dd dt_9_init 134 rfl) ?_
  refine N_aast (a := 247) (b := 305) (ci := 1) (cr := 26) (t0 := 6) (by decide) rfl rfl (by decide) (by decide) rfl rfl (by decide) rfl (dd dt_9_init 135 rfl) ?_
  refine N_iinc (v := 1) (lv' := [some (.ref 237), some (.int 9)]) (dd dt_9_init 136 rfl) (by decide) rfl rfl ic_1 rfl ?_
  refine N_goto (dd dt_9_init 137 rfl) (tgt := 239) rfl ?_
  refine N_iload_n (dd dt_9_init 126 rfl) 1 rfl rfl ?_
  refine N_bipush (v := 16) (dd dt_9_init 127 rfl) (by decide) ?_
  refine N_cmpge (dd dt_9_init 128 rfl) (tgt := 264) rfl (fun q => absurd q (by decide)) (fun _ => ?_)
  refine N_aload_n (dd dt_9_init 129 rfl) 0 rfl rfl ?_
  refine N_getR (C0 := RX9) (T := TX9) (N := 19) (k := 10) (b := 247) rfl (by decide) iw_9 (by decide) rfl rfl fl_9_53 rfl (by decide) rfl (by decide) (dd dt_9_init 130 rfl) ?_
  refine N_iload_n (dd dt_9_init 131 rfl) 1 rfl rfl ?_
  refine N_new (ci := 1) (a := 306) (C1 := RX1) (T := TX1) (N := 12) (rc := 24) (rs := 1113) (by decide) tyX1 tyX1_ok rfl (by decide) iw_1 rfl (by decide) ci_9_51 ist_1 izt_1 rfl rfl (dd dt_9_init 132 rfl) ?_
  refine N_dup (dd dt_9_init 133 rfl) rfl ?_
  refine N_callN (mc := 0) (ms := 0) (rc := 24) (rs := 1113) (c_1 (by decide)) cal_1_init rfl rfl in_1_init mi_9_109 (by decide) rfl (by decide) (dd dt_9_init 134 rfl) ?_
  refine N_aast (a := 247) (b := 306) (ci := 1) (cr := 26) (t0 := 6) (by decide) rfl rfl (by decide) (by decide) rfl rfl (by decide) rfl (dd dt_9_init 135 rfl) ?_
  refine N_iinc (v := 1) (lv' := [some (.ref 237), some (.int 10)]) (dd dt_9_init 136 rfl) (by decide) rfl rfl ic_1 rfl ?_
  refine N_goto (dd dt_9_init 137 rfl) (tgt := 239) rfl ?_
  refine N_iload_n (dd dt_9_init 126 rfl) 1 rfl rfl ?_
  refine N_bipush (v := 16) (dd dt_9_init 127 rfl) (by decide) ?_
  refine N_cmpge (dd dt_9_init 128 rfl) (tgt := 264) rfl (fun q => absurd q (by decide)) (fun _ => ?_)
  refine N_aload_n (dd dt_9_init 129 rfl) 0 rfl rfl ?_
  refine N_getR (C0 := RX9) (T := TX9) (N := 19) (k := 10) (b := 247) rfl (by decide) iw_9 (by decide) rfl rfl fl_9_53 rfl (by decide) rfl (by decide) (dd dt_9_init 130 rfl) ?_
  refine N_iload_n (dd dt_9_init 131 rfl) 1 rfl rfl ?_
  refine N_new (ci := 1) (a := 307) (C1 := RX1) (T := TX1) (N := 12) (rc := 23) (rs := 1101) (by decide) tyX1 tyX1_ok rfl (by decide) iw_1 rfl (by decide) ci_9_51 ist_1 izt_1 rfl rfl (dd dt_9_init 132 rfl) ?_
  refine N_dup (dd dt_9_init 133 rfl) rfl ?_
  refine N_callN (mc := 0) (ms := 0) (rc := 23) (rs := 1101) (c_1 (by decide)) cal_1_init rfl rfl in_1_init mi_9_109 (by decide) rfl (by decide) (dd dt_9_init 134 rfl) ?_
  refine N_aast (a := 247) (b := 307) (ci := 1) (cr := 26) (t0 := 6) (by decide) rfl rfl (by decide) (by decide) rfl rfl (by decide) rfl (dd dt_9_init 135 rfl) ?_
  refine N_iinc (v := 1) (lv' := [some (.ref 237), some (.int 11)]) (dd dt_9_init 136 rfl) (by decide) rfl rfl ic_1 rfl ?_
  refine N_goto (dd dt_9_init 137 rfl) (tgt := 239) rfl ?_
  refine N_iload_n (dd dt_9_init 126 rfl) 1 rfl rfl ?_
  refine N_bipush (v := 16) (dd dt_9_init 127 rfl) (by decide) ?_
  refine N_cmpge (dd dt_9_init 128 rfl) (tgt := 264) rfl (fun q => absurd q (by decide)) (fun _ => ?_)
  refine N_aload_n (dd dt_9_init 129 rfl) 0 rfl rfl ?_
  refine N_getR (C0 := RX9) (T := TX9) (N := 19) (k := 10) (b := 247) rfl (by decide) iw_9 (by decide) rfl rfl fl_9_53 rfl (by decide) rfl (by decide) (dd dt_9_init 130 rfl) ?_
  refine N_iload_n (dd dt_9_init 131 rfl) 1 rfl rfl ?_
  refine N_new (ci := 1) (a := 308) (C1 := RX1) (T := TX1) (N := 12) (rc := 22) (rs := 1089) (by decide) tyX1 tyX1_ok rfl (by decide) iw_1 rfl (by decide) ci_9_51 ist_1 izt_1 rfl rfl (dd dt_9_init 132 rfl) ?_
  refine N_dup (dd dt_9_init 133 rfl) rfl ?_
  refine N_callN (mc := 0) (ms := 0) (rc := 22) (rs := 1089) (c_1 (by decide)) cal_1_init rfl rfl in_1_init mi_9_109 (by decide) rfl (by decide) (dd dt_9_init 134 rfl) ?_
  refine N_aast (a := 247) (b := 308) (ci := 1) (cr := 26) (t0 := 6) (by decide) rfl rfl (by decide) (by decide) rfl rfl (by decide) rfl (dd dt_9_init 135 rfl) ?_
  refine N_iinc (v := 1) (lv' := [some (.ref 237), some (.int 12)]) (dd dt_9_init 136 rfl) (by decide) rfl rfl ic_1 rfl ?_
  refine N_goto (dd dt_9_init 137 rfl) (tgt := 239) rfl ?_
  refine N_iload_n (dd dt_9_init 126 rfl) 1 rfl rfl ?_
  refine N_bipush (v := 16) (dd dt_9_init 127 rfl) (by decide) ?_
  refine N_cmpge (dd dt_9_init 128 rfl) (tgt := 264) rfl (fun q => absurd q (by decide)) (fun _ => ?_)
  refine N_aload_n (dd dt_9_init 129 rfl) 0 rfl rfl ?_
  refine N_getR (C0 := RX9) (T := TX9) (N := 19) (k := 10) (b := 247) rfl (by decide) iw_9 (by decide) rfl rfl fl_9_53 rfl (by decide) rfl (by decide) (dd dt_9_init 130 rfl) ?_
  refine N_iload_n (dd dt_9_init 131 rfl) 1 rfl rfl ?_
  refine N_new (ci := 1) (a := 309) (C1 := RX1) (T := TX1) (N := 12) (rc := 21) (rs := 1077) (by decide) tyX1 tyX1_ok rfl (by decide) iw_1 rfl (by decide) ci_9_51 ist_1 izt_1 rfl rfl (dd dt_9_init 132 rfl) ?_
  refine N_dup (dd dt_9_init 133 rfl) rfl ?_
  refine N_callN (mc := 0) (ms := 0) (rc := 21) (rs := 1077) (c_1 (by decide)) cal_1_init rfl rfl in_1_init mi_9_109 (by decide) rfl (by decide) (dd dt_9_init 134 rfl) ?_
  refine N_aast (a := 247) (b := 309) (ci := 1) (cr := 26) (t0 := 6) (by decide) rfl rfl (by decide) (by decide) rfl rfl (by decide) rfl (dd dt_9_init 135 rfl) ?_
  refine N_iinc (v := 1) (lv' := [some (.ref 237), some (.int 13)]) (dd dt_9_init 136 rfl) (by decide) rfl rfl ic_1 rfl ?_
  refine N_goto (dd dt_9_init 137 rfl) (tgt := 239) rfl ?_
  refine N_iload_n (dd dt_9_init 126 rfl) 1 rfl rfl ?_
  refine N_bipush (v := 16) (dd dt_9_init 127 rfl) (by decide) ?_
  refine N_cmpge (dd dt_9_init 128 rfl) (tgt := 264) rfl (fun q => absurd q (by decide)) (fun _ => ?_)
  refine N_aload_n (dd dt_9_init 129 rfl) 0 rfl rfl ?_
  refine N_getR (C0 := RX9) (T := TX9) (N := 19) (k := 10) (b := 247) rfl (by decide) iw_9 (by decide) rfl rfl fl_9_53 rfl (by decide) rfl (by decide) (dd dt_9_init 130 rfl) ?_
  refine N_iload_n (dd dt_9_init 131 rfl) 1 rfl rfl ?_
  refine N_new (ci := 1) (a := 310) (C1 := RX1) (T := TX1) (N := 12) (rc := 20) (rs := 1065) (by decide) tyX1 tyX1_ok rfl (by decide) iw_1 rfl (by decide) ci_9_51 ist_1 izt_1 rfl rfl (dd dt_9_init 132 rfl) ?_
  refine N_dup (dd dt_9_init 133 rfl) rfl ?_
  refine N_callN (mc := 0) (ms := 0) (rc := 20) (rs := 1065) (c_1 (by decide)) cal_1_init rfl rfl in_1_init mi_9_109 (by decide) rfl (by decide) (dd dt_9_init 134 rfl) ?_
  refine N_aast (a := 247) (b := 310) (ci := 1) (cr := 26) (t0 := 6) (by decide) rfl rfl (by decide) (by decide) rfl rfl (by decide) rfl (dd dt_9_init 135 rfl) ?_
  refine N_iinc (v := 1) (lv' := [some (.ref 237), some (.int 14)]) (dd dt_9_init 136 rfl) (by decide) rfl rfl ic_1 rfl ?_
  refine N_goto (dd dt_9_init 137 rfl) (tgt := 239) rfl ?_
  refine N_iload_n (dd dt_9_init 126 rfl) 1 rfl rfl ?_
  refine N_bipush (v := 16) (dd dt_9_init 127 rfl) (by decide) ?_
  refine N_cmpge (dd dt_9_init 128 rfl) (tgt := 264) rfl (fun q => absurd q (by decide)) (fun _ => ?_)
  refine N_aload_n (dd dt_9_init 129 rfl) 0 rfl rfl ?_
  refine N_getR (C0 := RX9) (T := TX9) (N := 19) (k := 10) (b := 247) rfl (by decide) iw_9 (by decide) rfl rfl fl_9_53 rfl (by decide) rfl (by decide) (dd dt_9_init 130 rfl) ?_
  refine N_iload_n (dd dt_9_init 131 rfl) 1 rfl rfl ?_
  refine N_new (ci := 1) (a := 311) (C1 := RX1) (T := TX1) (N := 12) (rc := 19) (rs := 1053) (by decide) tyX1 tyX1_ok rfl (by decide) iw_1 rfl (by decide) ci_9_51 ist_1 izt_1 rfl rfl (dd dt_9_init 132 rfl) ?_
  refine N_dup (dd dt_9_init 133 rfl) rfl ?_
  refine N_callN (mc := 0) (ms := 0) (rc := 19) (rs := 1053) (c_1 (by decide)) cal_1_init rfl rfl in_1_init mi_9_109 (by decide) rfl (by decide) (dd dt_9_init 134 rfl) ?_
  refine N_aast (a := 247) (b := 311) (ci := 1) (cr := 26) (t0 := 6) (by decide) rfl rfl (by decide) (by decide) rfl rfl (by decide) rfl (dd dt_9_init 135 rfl) ?_
  refine N_iinc (v := 1) (lv' := [some (.ref 237), some (.int 15)]) (dd dt_9_init 136 rfl) (by decide) rfl rfl ic_1 rfl ?_
  refine N_goto (dd dt_9_init 137 rfl) (tgt := 239) rfl ?_
  refine N_iload_n (dd dt_9_init 126 rfl) 1 rfl rfl ?_
  refine N_bipush (v := 16) (dd dt_9_init 127 rfl) (by decide) ?_
  refine N_cmpge (dd dt_9_init 128 rfl) (tgt := 264) rfl (fun q => absurd q (by decide)) (fun _ => ?_)
  refine N_aload_n (dd dt_9_init 129 rfl) 0 rfl rfl ?_
  refine N_getR (C0 := RX9) (T := TX9) (N := 19) (k := 10) (b := 247) rfl (by decide) iw_9 (by decide) rfl rfl fl_9_53 rfl (by decide) rfl (by decide) (dd dt_9_init 130 rfl) ?_
  refine N_iload_n (dd dt_9_init 131 rfl) 1 rfl rfl ?_
  refine N_new (ci := 1) (a := 312) (C1 := RX1) (T := TX1) (N := 12) (rc := 18) (rs := 1041) (by decide) tyX1 tyX1_ok rfl (by decide) iw_1 rfl (by decide) ci_9_51 ist_1 izt_1 rfl rfl (dd dt_9_init 132 rfl) ?_
  refine N_dup (dd dt_9_init 133 rfl) rfl ?_
  refine N_callN (mc := 0) (ms := 0) (rc := 18) (rs := 1041) (c_1 (by decide)) cal_1_init rfl rfl in_1_init mi_9_109 (by decide) rfl (by decide) (dd dt_9_init 134 rfl) ?_
  refine N_aast (a := 247) (b := 312) (ci := 1) (cr := 26) (t0 := 6) (by decide) rfl rfl (by decide) (by decide) rfl rfl (by decide) rfl (dd dt_9_init 135 rfl) ?_
  refine N_iinc (v := 1) (lv' := [some (.ref 237), some (.int 16)]) (dd dt_9_init 136 rfl) (by decide) rfl rfl ic_1 rfl ?_
  refine N_goto (dd dt_9_init 137 rfl) (tgt := 239) rfl ?_
  refine N_iload_n (dd dt_9_init 126 rfl) 1 rfl rfl ?_
  refine N_bipush (v := 16) (dd dt_9_init 127 rfl) (by decide) ?_
  refine N_cmpge (dd dt_9_init 128 rfl) (tgt := 264) rfl (fun _ => ?_) (fun q => absurd (by decide) q)
  refine N_iconst (v := 0) (dd dt_9_init 138 rfl) (by decide) ?_
  refine N_istore_n (lv' := [some (.ref 237), some (.int 0)]) (dd dt_9_init 139 rfl) 1 rfl (by decide) rfl rfl ?_
  refine N_iload_n (dd dt_9_init 140 rfl) 1 rfl rfl ?_
  refine N_iconst (v := 3) (dd dt_9_init 141 rfl) (by decide) ?_
  refine N_cmpge (dd dt_9_init 142 rfl) (tgt := 290) rfl (fun q => absurd q (by decide)) (fun _ => ?_)
  refine N_aload_n (dd dt_9_init 143 rfl) 0 rfl rfl ?_
  refine N_getR (C0 := RX9) (T := TX9) (N := 19) (k := 11) (b := 248) rfl (by decide) iw_9 (by decide) rfl rfl fl_9_59 rfl (by decide) rfl (by decide) (dd dt_9_init 144 rfl) ?_
  refine N_iload_n (dd dt_9_init 145 rfl) 1 rfl rfl ?_
  refine N_new (ci := 5) (a := 313) (C1 := RX5) (T := TX5) (N := 7) (rc := 17) (rs := 1034) (by decide) tyX5 tyX5_ok rfl (by decide) iw_5 rfl (by decide) ci_9_57 ist_5 izt_5 rfl rfl (dd dt_9_init 146 rfl) ?_
  refine N_dup (dd dt_9_init 147 rfl) rfl ?_
  refine N_callN (mc := 5) (ms := 340) (rc := 12) (rs := 694) (c_5 (fun k => by rw [rstep_ne (by decide), rstep_ne (by decide), rstep_ne (by decide), rstep_ne (by decide), rstep_ne (by decide), rstep_ne (by decide), up_ne (by decide)]; exact hz _ (by decide) (by decide) k) (by decide)) cal_5_init rfl rfl in_5_init mi_9_110 (by decide) rfl (by decide) (dd dt_9_init 148 rfl) ?_
  refine N_aast (a := 248) (b := 313) (ci := 5) (cr := 27) (t0 := 7) (by decide) rfl rfl (by decide) (by decide) rfl rfl (by decide) rfl (dd dt_9_init 149 rfl) ?_
  refine N_iinc (v := 1) (lv' := [some (.ref 237), some (.int 1)]) (dd dt_9_init 150 rfl) (by decide) rfl rfl ic_1 rfl ?_
  refine N_goto (dd dt_9_init 151 rfl) (tgt := 266) rfl ?_
  refine N_iload_n (dd dt_9_init 140 rfl) 1 rfl rfl ?_
  refine N_iconst (v := 3) (dd dt_9_init 141 rfl) (by decide) ?_
  refine N_cmpge (dd dt_9_init 142 rfl) (tgt := 290) rfl (fun q => absurd q (by decide)) (fun _ => ?_)
  refine N_aload_n (dd dt_9_init 143 rfl) 0 rfl rfl ?_
  refine N_getR (C0 := RX9) (T := TX9) (N := 19) (k := 11) (b := 248) rfl (by decide) iw_9 (by decide) rfl rfl fl_9_59 rfl (by decide) rfl (by decide) (dd dt_9_init 144 rfl) ?_
  refine N_iload_n (dd dt_9_init 145 rfl) 1 rfl rfl ?_
  refine N_new (ci := 5) (a := 319) (C1 := RX5) (T := TX5) (N := 7) (rc := 11) (rs := 687) (by decide) tyX5 tyX5_ok rfl (by decide) iw_5 rfl (by decide) ci_9_57 ist_5 izt_5 rfl rfl (dd dt_9_init 146 rfl) ?_
  refine N_dup (dd dt_9_init 147 rfl) rfl ?_
  refine N_callN (mc := 5) (ms := 340) (rc := 6) (rs := 347) (c_5 (fun k => by rw [rstep_ne (by decide), rstep_ne (by decide), rstep_ne (by decide), rstep_ne (by decide), rstep_ne (by decide), rstep_ne (by decide), up_ne (by decide)]; exact hz _ (by decide) (by decide) k) (by decide)) cal_5_init rfl rfl in_5_init mi_9_110 (by decide) rfl (by decide) (dd dt_9_init 148 rfl) ?_
  refine N_aast (a := 248) (b := 319) (ci := 5) (cr := 27) (t0 := 7) (by decide) rfl rfl (by decide) (by decide) rfl rfl (by decide) rfl (dd dt_9_init 149 rfl) ?_
  refine N_iinc (v := 1) (lv' := [some (.ref 237), some (.int 2)]) (dd dt_9_init 150 rfl) (by decide) rfl rfl ic_1 rfl ?_
  refine N_goto (dd dt_9_init 151 rfl) (tgt := 266) rfl ?_
  refine N_iload_n (dd dt_9_init 140 rfl) 1 rfl rfl ?_
  refine N_iconst (v := 3) (dd dt_9_init 141 rfl) (by decide) ?_
  refine N_cmpge (dd dt_9_init 142 rfl) (tgt := 290) rfl (fun q => absurd q (by decide)) (fun _ => ?_)
  refine N_aload_n (dd dt_9_init 143 rfl) 0 rfl rfl ?_
  refine N_getR (C0 := RX9) (T := TX9) (N := 19) (k := 11) (b := 248) rfl (by decide) iw_9 (by decide) rfl rfl fl_9_59 rfl (by decide) rfl (by decide) (dd dt_9_init 144 rfl) ?_
  refine N_iload_n (dd dt_9_init 145 rfl) 1 rfl rfl ?_
  refine N_new (ci := 5) (a := 325) (C1 := RX5) (T := TX5) (N := 7) (rc := 5) (rs := 340) (by decide) tyX5 tyX5_ok rfl (by decide) iw_5 rfl (by decide) ci_9_57 ist_5 izt_5 rfl rfl (dd dt_9_init 146 rfl) ?_
  refine N_dup (dd dt_9_init 147 rfl) rfl ?_
  refine N_callN (mc := 5) (ms := 340) (rc := 0) (rs := 0) (c_5 (fun k => by rw [rstep_ne (by decide), rstep_ne (by decide), rstep_ne (by decide), rstep_ne (by decide), rstep_ne (by decide), rstep_ne (by decide), up_ne (by decide)]; exact hz _ (by decide) (by decide) k) (by decide)) cal_5_init rfl rfl in_5_init mi_9_110 (by decide) rfl (by decide) (dd dt_9_init 148 rfl) ?_
  refine N_aast (a := 248) (b := 325) (ci := 5) (cr := 27) (t0 := 7) (by decide) rfl rfl (by decide) (by decide) rfl rfl (by decide) rfl (dd dt_9_init 149 rfl) ?_
  refine N_iinc (v := 1) (lv' := [some (.ref 237), some (.int 3)]) (dd dt_9_init 150 rfl) (by decide) rfl rfl ic_1 rfl ?_
  refine N_goto (dd dt_9_init 151 rfl) (tgt := 266) rfl ?_
  refine N_iload_n (dd dt_9_init 140 rfl) 1 rfl rfl ?_
  refine N_iconst (v := 3) (dd dt_9_init 141 rfl) (by decide) ?_
  refine N_cmpge (dd dt_9_init 142 rfl) (tgt := 290) rfl (fun _ => ?_) (fun q => absurd (by decide) q)
  exact N_vret rfl rfl rfl rfl (by decide) (dd dt_9_init 152 rfl)
