/-! the constructors of the small classes -/
theorem up_id {μ : mm} {a k : Nat} {x : Int32} (h : μ a k = x) : up μ a k x = μ := by
  subst h
  funext b j
  unfold up
  by_cases e : b = a
  · rw [if_pos e, e]
    unfold upd
    by_cases f : j = k
    · rw [if_pos f, f]
    · rw [if_neg f]
  · rw [if_neg e]
theorem c_1 {l : Launch} {E : ce} {d a cn : Nat} {pd : List Nat} {μ : mm} (h1 : 1 ≤ cn) : Cn l E d yX1_init m_1_init [.ref a] cn pd μ 0 0 cn pd μ := by
  refine Cn_of (by decide) rfl (fun _ _ => rfl) (by decide) (Nat.le_of_ble_eq_true rfl) rfl ?_
  refine N_aload_n (dd dt_1_init 0 rfl) 0 rfl rfl ?_
  refine N_oinit (by decide) mi_1_1 oi_in oi_cd (dd dt_1_init 1 rfl) ?_
  exact N_vret rfl rfl rfl rfl h1 (dd dt_1_init 2 rfl)
theorem c_4 {l : Launch} {E : ce} {d a cn : Nat} {pd : List Nat} {μ : mm} (h1 : 1 ≤ cn) : Cn l E d yX4_init m_4_init [.ref a] cn pd μ 0 0 cn pd μ := by
  refine Cn_of (by decide) rfl (fun _ _ => rfl) (by decide) (Nat.le_of_ble_eq_true rfl) rfl ?_
  refine N_aload_n (dd dt_4_init 0 rfl) 0 rfl rfl ?_
  refine N_oinit (by decide) mi_4_1 oi_in oi_cd (dd dt_4_init 1 rfl) ?_
  exact N_vret rfl rfl rfl rfl h1 (dd dt_4_init 2 rfl)
theorem c_6 {l : Launch} {E : ce} {d a cn : Nat} {pd : List Nat} {μ : mm} (h1 : 1 ≤ cn) : Cn l E d yX6_init m_6_init [.ref a] cn pd μ 0 0 cn pd μ := by
  refine Cn_of (by decide) rfl (fun _ _ => rfl) (by decide) (Nat.le_of_ble_eq_true rfl) rfl ?_
  refine N_aload_n (dd dt_6_init 0 rfl) 0 rfl rfl ?_
  refine N_oinit (by decide) mi_6_1 oi_in oi_cd (dd dt_6_init 1 rfl) ?_
  exact N_vret rfl rfl rfl rfl h1 (dd dt_6_init 2 rfl)
abbrev bf_5 (a cn : Nat) : Prop := kd a = 5 ∧ od a < cn ∧ 1 ≤ cn ∧ cn + 5 < 332 ∧ (oi (cn) = rf a 1 ∧ kd (rf a 1) = 20 ∧ len (rf a 1) = 10) ∧ (oi (cn + 1) = rf a 2 ∧ kd (rf a 2) = 20 ∧ len (rf a 2) = 10) ∧ (oi (cn + 2) = rf a 3 ∧ kd (rf a 3) = 20 ∧ len (rf a 3) = 10) ∧ (oi (cn + 3) = rf a 4 ∧ kd (rf a 4) = 20 ∧ len (rf a 4) = 10) ∧ (oi (cn + 4) = rf a 6 ∧ kd (rf a 6) = 20 ∧ len (rf a 6) = 300)
set_option maxHeartbeats 4000000 in
theorem c_5 {l : Launch} {E : ce} {d a cn : Nat} {pd : List Nat} {μ : mm} (hz5 : ∀ k, μ a k = 0) (hf : bf_5 a cn) : Cn l E d yX5_init m_5_init [.ref a] cn pd μ 5 340 (cn + 5) pd μ := by
  have hz := hz5
  obtain ⟨ha, hoa, h1, ht, ⟨g0, k0, l0⟩, ⟨g1, k1, l1⟩, ⟨g2, k2, l2⟩, ⟨g3, k3, l3⟩, ⟨g4, k4, l4⟩⟩ := hf
  refine Cn_of (by decide) rfl (fun _ _ => rfl) (by decide) (Nat.le_of_ble_eq_true rfl) rfl ?_
  refine N_aload_n (dd dt_5_init 0 rfl) 0 rfl rfl ?_
  refine N_oinit (by decide) mi_5_1 oi_in oi_cd (dd dt_5_init 1 rfl) ?_
  refine N_aload_n (dd dt_5_init 2 rfl) 0 rfl rfl ?_
  refine N_iconst (v := 0) (dd dt_5_init 3 rfl) (by decide) ?_
  refine N_put (C0 := RX5) (T := TX5) (N := 7) (k := 0) tyX5 tyX5_ok nmX5 rfl (by decide) iw_5 (by decide) rfl rfl rfl rfl rfl rfl fl_5_7 ha (by omega) (up_id (hz 0)) (dd dt_5_init 4 rfl) ?_
  refine N_aload_n (dd dt_5_init 5 rfl) 0 rfl rfl ?_
  refine N_bipush (v := 10) (dd dt_5_init 6 rfl) (by decide) ?_
  refine N_newa_int (N := 10) (rc := 4) (rs := 330) (by omega) aw_int g0 k0 l0 (by decide) (by decide) (by decide) (dd dt_5_init 7 rfl) ?_
  refine N_putR (C0 := RX5) (T := TX5) (N := 7) (k := 1) tyX5 tyX5_ok nmX5 rfl (by decide) iw_5 (by decide) rfl rfl rfl rfl rfl (fun _ => rfl) (fun _ => rfl) (by decide) (by decide) fl_5_13 ha (by omega) rfl (dd dt_5_init 8 rfl) ?_
  refine N_aload_n (dd dt_5_init 9 rfl) 0 rfl rfl ?_
  refine N_bipush (v := 10) (dd dt_5_init 10 rfl) (by decide) ?_
  refine N_newa_int (N := 10) (rc := 3) (rs := 320) (by omega) aw_int g1 k1 l1 (by decide) (by decide) (by decide) (dd dt_5_init 11 rfl) ?_
  refine N_putR (C0 := RX5) (T := TX5) (N := 7) (k := 2) tyX5 tyX5_ok nmX5 rfl (by decide) iw_5 (by decide) rfl rfl rfl rfl rfl (fun _ => rfl) (fun _ => rfl) (by decide) (by decide) fl_5_17 ha (by omega) rfl (dd dt_5_init 12 rfl) ?_
  refine N_aload_n (dd dt_5_init 13 rfl) 0 rfl rfl ?_
  refine N_bipush (v := 10) (dd dt_5_init 14 rfl) (by decide) ?_
  refine N_newa_int (N := 10) (rc := 2) (rs := 310) (by omega) aw_int g2 k2 l2 (by decide) (by decide) (by decide) (dd dt_5_init 15 rfl) ?_
  refine N_putR (C0 := RX5) (T := TX5) (N := 7) (k := 3) tyX5 tyX5_ok nmX5 rfl (by decide) iw_5 (by decide) rfl rfl rfl rfl rfl (fun _ => rfl) (fun _ => rfl) (by decide) (by decide) fl_5_20 ha (by omega) rfl (dd dt_5_init 16 rfl) ?_
  refine N_aload_n (dd dt_5_init 17 rfl) 0 rfl rfl ?_
  refine N_bipush (v := 10) (dd dt_5_init 18 rfl) (by decide) ?_
  refine N_newa_int (N := 10) (rc := 1) (rs := 300) (by omega) aw_int g3 k3 l3 (by decide) (by decide) (by decide) (dd dt_5_init 19 rfl) ?_
  refine N_putR (C0 := RX5) (T := TX5) (N := 7) (k := 4) tyX5 tyX5_ok nmX5 rfl (by decide) iw_5 (by decide) rfl rfl rfl rfl rfl (fun _ => rfl) (fun _ => rfl) (by decide) (by decide) fl_5_23 ha (by omega) rfl (dd dt_5_init 20 rfl) ?_
  refine N_aload_n (dd dt_5_init 21 rfl) 0 rfl rfl ?_
  refine N_iconst (v := 0) (dd dt_5_init 22 rfl) (by decide) ?_
  refine N_put (C0 := RX5) (T := TX5) (N := 7) (k := 5) tyX5 tyX5_ok nmX5 rfl (by decide) iw_5 (by decide) rfl rfl rfl rfl rfl rfl fl_5_26 ha (by omega) (up_id (hz 5)) (dd dt_5_init 23 rfl) ?_
  refine N_aload_n (dd dt_5_init 24 rfl) 0 rfl rfl ?_
  refine N_sipush (v := 300) (dd dt_5_init 25 rfl) (by decide) ?_
  refine N_newa_int (N := 300) (rc := 0) (rs := 0) (by omega) aw_int g4 k4 l4 (by decide) (by decide) (by decide) (dd dt_5_init 26 rfl) ?_
  refine N_putR (C0 := RX5) (T := TX5) (N := 7) (k := 6) tyX5 tyX5_ok nmX5 rfl (by decide) iw_5 (by decide) rfl rfl rfl rfl rfl (fun _ => rfl) (fun _ => rfl) (by decide) (by decide) fl_5_31 ha (by omega) rfl (dd dt_5_init 27 rfl) ?_
  exact N_vret rfl rfl rfl rfl (by omega) (dd dt_5_init 28 rfl)
abbrev bf_10 (a cn : Nat) : Prop := kd a = 10 ∧ od a < cn ∧ 1 ≤ cn ∧ cn + 2 < 332 ∧ (oi (cn) = rf a 3 ∧ kd (rf a 3) = 20 ∧ len (rf a 3) = 6) ∧ (oi (cn + 1) = rf a 4 ∧ kd (rf a 4) = 20 ∧ len (rf a 4) = 6)
set_option maxHeartbeats 4000000 in
theorem c_10 {l : Launch} {E : ce} {d a cn : Nat} {pd : List Nat} {μ : mm} (hz : ∀ k, μ a k = 0) (hf : bf_10 a cn) : Cn l E d yX10_init m_10_init [.ref a] cn pd μ 2 12 (cn + 2) pd μ := by
  obtain ⟨ha, hoa, h1, ht, ⟨g0, k0, l0⟩, ⟨g1, k1, l1⟩⟩ := hf
  refine Cn_of (by decide) rfl (fun _ _ => rfl) (by decide) (Nat.le_of_ble_eq_true rfl) rfl ?_
  refine N_aload_n (dd dt_10_init 0 rfl) 0 rfl rfl ?_
  refine N_oinit (by decide) mi_10_3 oi_in oi_cd (dd dt_10_init 1 rfl) ?_
  refine N_aload_n (dd dt_10_init 2 rfl) 0 rfl rfl ?_
  refine N_iconst (v := 0) (dd dt_10_init 3 rfl) (by decide) ?_
  refine N_put (C0 := RX10) (T := TX10) (N := 5) (k := 0) tyX10 tyX10_ok nmX10 rfl (by decide) iw_10 (by decide) rfl rfl rfl rfl rfl rfl fl_10_9 ha (by omega) (up_id (hz 0)) (dd dt_10_init 4 rfl) ?_
  refine N_aload_n (dd dt_10_init 5 rfl) 0 rfl rfl ?_
  refine N_iconst (v := 0) (dd dt_10_init 6 rfl) (by decide) ?_
  refine N_put (C0 := RX10) (T := TX10) (N := 5) (k := 1) tyX10 tyX10_ok nmX10 rfl (by decide) iw_10 (by decide) rfl rfl rfl rfl rfl rfl fl_10_15 ha (by omega) (up_id (hz 1)) (dd dt_10_init 7 rfl) ?_
  refine N_aload_n (dd dt_10_init 8 rfl) 0 rfl rfl ?_
  refine N_iconst (v := 0) (dd dt_10_init 9 rfl) (by decide) ?_
  refine N_put (C0 := RX10) (T := TX10) (N := 5) (k := 2) tyX10 tyX10_ok nmX10 rfl (by decide) iw_10 (by decide) rfl rfl rfl rfl rfl rfl fl_10_18 ha (by omega) (up_id (hz 2)) (dd dt_10_init 10 rfl) ?_
  refine N_aload_n (dd dt_10_init 11 rfl) 0 rfl rfl ?_
  refine N_bipush (v := 6) (dd dt_10_init 12 rfl) (by decide) ?_
  refine N_newa_int (N := 6) (rc := 1) (rs := 6) (by omega) aw_int g0 k0 l0 (by decide) (by decide) (by decide) (dd dt_10_init 13 rfl) ?_
  refine N_putR (C0 := RX10) (T := TX10) (N := 5) (k := 3) tyX10 tyX10_ok nmX10 rfl (by decide) iw_10 (by decide) rfl rfl rfl rfl rfl (fun _ => rfl) (fun _ => rfl) (by decide) (by decide) fl_10_21 ha (by omega) rfl (dd dt_10_init 14 rfl) ?_
  refine N_aload_n (dd dt_10_init 15 rfl) 0 rfl rfl ?_
  refine N_bipush (v := 6) (dd dt_10_init 16 rfl) (by decide) ?_
  refine N_newa_int (N := 6) (rc := 0) (rs := 0) (by omega) aw_int g1 k1 l1 (by decide) (by decide) (by decide) (dd dt_10_init 17 rfl) ?_
  refine N_putR (C0 := RX10) (T := TX10) (N := 5) (k := 4) tyX10 tyX10_ok nmX10 rfl (by decide) iw_10 (by decide) rfl rfl rfl rfl rfl (fun _ => rfl) (fun _ => rfl) (by decide) (by decide) fl_10_25 ha (by omega) rfl (dd dt_10_init 18 rfl) ?_
  exact N_vret rfl rfl rfl rfl (by omega) (dd dt_10_init 19 rfl)
abbrev bf_7 (a cn : Nat) : Prop := kd a = 7 ∧ od a < cn ∧ 1 ≤ cn ∧ cn + 6 < 332 ∧ (oi (cn) = rf a 1 ∧ kd (rf a 1) = 20 ∧ len (rf a 1) = 12) ∧ (oi (cn + 1) = rf a 2 ∧ kd (rf a 2) = 20 ∧ len (rf a 2) = 12) ∧ (oi (cn + 2) = rf a 3 ∧ kd (rf a 3) = 20 ∧ len (rf a 3) = 12) ∧ (oi (cn + 3) = rf a 5 ∧ kd (rf a 5) = 20 ∧ len (rf a 5) = 12) ∧ (oi (cn + 4) = rf a 6 ∧ kd (rf a 6) = 20 ∧ len (rf a 6) = 12) ∧ (oi (cn + 5) = rf a 7 ∧ kd (rf a 7) = 22 ∧ len (rf a 7) = 12)
set_option maxHeartbeats 4000000 in
theorem c_7 {l : Launch} {E : ce} {d a cn : Nat} {pd : List Nat} {μ : mm} (hz : ∀ k, μ a k = 0) (hf : bf_7 a cn) : Cn l E d yX7_init m_7_init [.ref a] cn pd μ 6 72 (cn + 6) pd μ := by
  obtain ⟨ha, hoa, h1, ht, ⟨g0, k0, l0⟩, ⟨g1, k1, l1⟩, ⟨g2, k2, l2⟩, ⟨g3, k3, l3⟩, ⟨g4, k4, l4⟩, ⟨g5, k5, l5⟩⟩ := hf
  refine Cn_of (by decide) rfl (fun _ _ => rfl) (by decide) (Nat.le_of_ble_eq_true rfl) rfl ?_
  refine N_aload_n (dd dt_7_init 0 rfl) 0 rfl rfl ?_
  refine N_oinit (by decide) mi_7_3 oi_in oi_cd (dd dt_7_init 1 rfl) ?_
  refine N_aload_n (dd dt_7_init 2 rfl) 0 rfl rfl ?_
  refine N_iconst (v := 0) (dd dt_7_init 3 rfl) (by decide) ?_
  refine N_put (C0 := RX7) (T := TX7) (N := 10) (k := 0) tyX7 tyX7_ok nmX7 rfl (by decide) iw_7 (by decide) rfl rfl rfl rfl rfl rfl fl_7_9 ha (by omega) (up_id (hz 0)) (dd dt_7_init 4 rfl) ?_
  refine N_aload_n (dd dt_7_init 5 rfl) 0 rfl rfl ?_
  refine N_bipush (v := 12) (dd dt_7_init 6 rfl) (by decide) ?_
  refine N_newa_int (N := 12) (rc := 5) (rs := 60) (by omega) aw_int g0 k0 l0 (by decide) (by decide) (by decide) (dd dt_7_init 7 rfl) ?_
  refine N_putR (C0 := RX7) (T := TX7) (N := 10) (k := 1) tyX7 tyX7_ok nmX7 rfl (by decide) iw_7 (by decide) rfl rfl rfl rfl rfl (fun _ => rfl) (fun _ => rfl) (by decide) (by decide) fl_7_15 ha (by omega) rfl (dd dt_7_init 8 rfl) ?_
  refine N_aload_n (dd dt_7_init 9 rfl) 0 rfl rfl ?_
  refine N_bipush (v := 12) (dd dt_7_init 10 rfl) (by decide) ?_
  refine N_newa_int (N := 12) (rc := 4) (rs := 48) (by omega) aw_int g1 k1 l1 (by decide) (by decide) (by decide) (dd dt_7_init 11 rfl) ?_
  refine N_putR (C0 := RX7) (T := TX7) (N := 10) (k := 2) tyX7 tyX7_ok nmX7 rfl (by decide) iw_7 (by decide) rfl rfl rfl rfl rfl (fun _ => rfl) (fun _ => rfl) (by decide) (by decide) fl_7_19 ha (by omega) rfl (dd dt_7_init 12 rfl) ?_
  refine N_aload_n (dd dt_7_init 13 rfl) 0 rfl rfl ?_
  refine N_bipush (v := 12) (dd dt_7_init 14 rfl) (by decide) ?_
  refine N_newa_int (N := 12) (rc := 3) (rs := 36) (by omega) aw_int g2 k2 l2 (by decide) (by decide) (by decide) (dd dt_7_init 15 rfl) ?_
  refine N_putR (C0 := RX7) (T := TX7) (N := 10) (k := 3) tyX7 tyX7_ok nmX7 rfl (by decide) iw_7 (by decide) rfl rfl rfl rfl rfl (fun _ => rfl) (fun _ => rfl) (by decide) (by decide) fl_7_22 ha (by omega) rfl (dd dt_7_init 16 rfl) ?_
  refine N_aload_n (dd dt_7_init 17 rfl) 0 rfl rfl ?_
  refine N_iconst (v := 0) (dd dt_7_init 18 rfl) (by decide) ?_
  refine N_put (C0 := RX7) (T := TX7) (N := 10) (k := 4) tyX7 tyX7_ok nmX7 rfl (by decide) iw_7 (by decide) rfl rfl rfl rfl rfl rfl fl_7_25 ha (by omega) (up_id (hz 4)) (dd dt_7_init 19 rfl) ?_
  refine N_aload_n (dd dt_7_init 20 rfl) 0 rfl rfl ?_
  refine N_bipush (v := 12) (dd dt_7_init 21 rfl) (by decide) ?_
  refine N_newa_int (N := 12) (rc := 2) (rs := 24) (by omega) aw_int g3 k3 l3 (by decide) (by decide) (by decide) (dd dt_7_init 22 rfl) ?_
  refine N_putR (C0 := RX7) (T := TX7) (N := 10) (k := 5) tyX7 tyX7_ok nmX7 rfl (by decide) iw_7 (by decide) rfl rfl rfl rfl rfl (fun _ => rfl) (fun _ => rfl) (by decide) (by decide) fl_7_28 ha (by omega) rfl (dd dt_7_init 23 rfl) ?_
  refine N_aload_n (dd dt_7_init 24 rfl) 0 rfl rfl ?_
  refine N_bipush (v := 12) (dd dt_7_init 25 rfl) (by decide) ?_
  refine N_newa_int (N := 12) (rc := 1) (rs := 12) (by omega) aw_int g4 k4 l4 (by decide) (by decide) (by decide) (dd dt_7_init 26 rfl) ?_
  refine N_putR (C0 := RX7) (T := TX7) (N := 10) (k := 6) tyX7 tyX7_ok nmX7 rfl (by decide) iw_7 (by decide) rfl rfl rfl rfl rfl (fun _ => rfl) (fun _ => rfl) (by decide) (by decide) fl_7_31 ha (by omega) rfl (dd dt_7_init 27 rfl) ?_
  refine N_aload_n (dd dt_7_init 28 rfl) 0 rfl rfl ?_
  refine N_bipush (v := 12) (dd dt_7_init 29 rfl) (by decide) ?_
  refine N_newa_bool (N := 12) (rc := 0) (rs := 0) (by omega) aw_boolean g5 k5 l5 (by decide) (by decide) (by decide) (dd dt_7_init 30 rfl) ?_
  refine N_putR (C0 := RX7) (T := TX7) (N := 10) (k := 7) tyX7 tyX7_ok nmX7 rfl (by decide) iw_7 (by decide) rfl rfl rfl rfl rfl (fun _ => rfl) (fun _ => rfl) (by decide) (by decide) fl_7_34 ha (by omega) rfl (dd dt_7_init 31 rfl) ?_
  refine N_aload_n (dd dt_7_init 32 rfl) 0 rfl rfl ?_
  refine N_iconst (v := 0) (dd dt_7_init 33 rfl) (by decide) ?_
  refine N_put (C0 := RX7) (T := TX7) (N := 10) (k := 8) tyX7 tyX7_ok nmX7 rfl (by decide) iw_7 (by decide) rfl rfl rfl rfl rfl rfl fl_7_38 ha (by omega) (up_id (hz 8)) (dd dt_7_init 34 rfl) ?_
  refine N_aload_n (dd dt_7_init 35 rfl) 0 rfl rfl ?_
  refine N_iconst (v := 0) (dd dt_7_init 36 rfl) (by decide) ?_
  refine N_put (C0 := RX7) (T := TX7) (N := 10) (k := 9) tyX7 tyX7_ok nmX7 rfl (by decide) iw_7 (by decide) rfl rfl rfl rfl rfl rfl fl_7_41 ha (by omega) (up_id (hz 9)) (dd dt_7_init 37 rfl) ?_
  exact N_vret rfl rfl rfl rfl (by omega) (dd dt_7_init 38 rfl)
abbrev bf_3 (a cn : Nat) : Prop := kd a = 3 ∧ od a < cn ∧ 1 ≤ cn ∧ cn + 13 < 332 ∧ (oi (cn) = rf a 3 ∧ kd (rf a 3) = 20 ∧ len (rf a 3) = 4) ∧ (oi (cn + 1) = rf a 4 ∧ kd (rf a 4) = 20 ∧ len (rf a 4) = 8) ∧ (oi (cn + 2) = rf a 5 ∧ kd (rf a 5) = 20 ∧ len (rf a 5) = 8) ∧ (oi (cn + 3) = rf a 6 ∧ kd (rf a 6) = 23 ∧ len (rf a 6) = 9 ∧ (∀ i, i < 9 → rf (rf a 6) i = oi (cn + 4 + i) ∧ kd (rf (rf a 6) i) = 20 ∧ len (rf (rf a 6) i) = 16))
set_option maxHeartbeats 4000000 in
theorem c_3 {l : Launch} {E : ce} {d a cn : Nat} {pd : List Nat} {μ : mm} (hz : ∀ k, μ a k = 0) (hf : bf_3 a cn) : Cn l E d yX3_init m_3_init [.ref a] cn pd μ 13 173 (cn + 13) pd (up μ a 0 9) := by
  obtain ⟨ha, hoa, h1, ht, ⟨g0, k0, l0⟩, ⟨g1, k1, l1⟩, ⟨g2, k2, l2⟩, ⟨g3, k3, l3, r3⟩⟩ := hf
  refine Cn_of (by decide) rfl (fun _ _ => rfl) (by decide) (Nat.le_of_ble_eq_true rfl) rfl ?_
  refine N_aload_n (dd dt_3_init 0 rfl) 0 rfl rfl ?_
  refine N_oinit (by decide) mi_3_3 oi_in oi_cd (dd dt_3_init 1 rfl) ?_
  refine N_aload_n (dd dt_3_init 2 rfl) 0 rfl rfl ?_
  refine N_bipush (v := 9) (dd dt_3_init 3 rfl) (by decide) ?_
  refine N_put (C0 := RX3) (T := TX3) (N := 7) (k := 0) tyX3 tyX3_ok nmX3 rfl (by decide) iw_3 (by decide) rfl rfl rfl rfl rfl rfl fl_3_9 ha (by omega) (rfl) (dd dt_3_init 4 rfl) ?_
  refine N_aload_n (dd dt_3_init 5 rfl) 0 rfl rfl ?_
  refine N_iconst (v := 0) (dd dt_3_init 6 rfl) (by decide) ?_
  refine N_put (C0 := RX3) (T := TX3) (N := 7) (k := 1) tyX3 tyX3_ok nmX3 rfl (by decide) iw_3 (by decide) rfl rfl rfl rfl rfl rfl fl_3_15 ha (by omega) (up_id (by simp [up, upd, hz])) (dd dt_3_init 7 rfl) ?_
  refine N_aload_n (dd dt_3_init 8 rfl) 0 rfl rfl ?_
  refine N_iconst (v := 0) (dd dt_3_init 9 rfl) (by decide) ?_
  refine N_put (C0 := RX3) (T := TX3) (N := 7) (k := 2) tyX3 tyX3_ok nmX3 rfl (by decide) iw_3 (by decide) rfl rfl rfl rfl rfl rfl fl_3_18 ha (by omega) (up_id (by simp [up, upd, hz])) (dd dt_3_init 10 rfl) ?_
  refine N_aload_n (dd dt_3_init 11 rfl) 0 rfl rfl ?_
  refine N_iconst (v := 4) (dd dt_3_init 12 rfl) (by decide) ?_
  refine N_newa_int (N := 4) (rc := 12) (rs := 169) (by omega) aw_int g0 k0 l0 (by decide) (by decide) (by decide) (dd dt_3_init 13 rfl) ?_
  refine N_putR (C0 := RX3) (T := TX3) (N := 7) (k := 3) tyX3 tyX3_ok nmX3 rfl (by decide) iw_3 (by decide) rfl rfl rfl rfl rfl (fun _ => rfl) (fun _ => rfl) (by decide) (by decide) fl_3_21 ha (by omega) rfl (dd dt_3_init 14 rfl) ?_
  refine N_aload_n (dd dt_3_init 15 rfl) 0 rfl rfl ?_
  refine N_bipush (v := 8) (dd dt_3_init 16 rfl) (by decide) ?_
  refine N_newa_int (N := 8) (rc := 11) (rs := 161) (by omega) aw_int g1 k1 l1 (by decide) (by decide) (by decide) (dd dt_3_init 17 rfl) ?_
  refine N_putR (C0 := RX3) (T := TX3) (N := 7) (k := 4) tyX3 tyX3_ok nmX3 rfl (by decide) iw_3 (by decide) rfl rfl rfl rfl rfl (fun _ => rfl) (fun _ => rfl) (by decide) (by decide) fl_3_25 ha (by omega) rfl (dd dt_3_init 18 rfl) ?_
  refine N_aload_n (dd dt_3_init 19 rfl) 0 rfl rfl ?_
  refine N_bipush (v := 8) (dd dt_3_init 20 rfl) (by decide) ?_
  refine N_newa_int (N := 8) (rc := 10) (rs := 153) (by omega) aw_int g2 k2 l2 (by decide) (by decide) (by decide) (dd dt_3_init 21 rfl) ?_
  refine N_putR (C0 := RX3) (T := TX3) (N := 7) (k := 5) tyX3 tyX3_ok nmX3 rfl (by decide) iw_3 (by decide) rfl rfl rfl rfl rfl (fun _ => rfl) (fun _ => rfl) (by decide) (by decide) fl_3_28 ha (by omega) rfl (dd dt_3_init 22 rfl) ?_
  refine N_aload_n (dd dt_3_init 23 rfl) 0 rfl rfl ?_
  refine N_bipush (v := 9) (dd dt_3_init 24 rfl) (by decide) ?_
  refine N_bipush (v := 16) (dd dt_3_init 25 rfl) (by decide) ?_
  refine N_multi (N := 9) (L := 16) (rc := 0) (rs := 0) (by omega) (by omega) ci_3_31 aw_int g3 k3 l3 r3 (by decide) (by decide) (by decide) (by decide) (by decide) (dd dt_3_init 26 rfl) ?_
  refine N_putR (C0 := RX3) (T := TX3) (N := 7) (k := 6) tyX3 tyX3_ok nmX3 rfl (by decide) iw_3 (by decide) rfl rfl rfl rfl rfl (fun _ => rfl) (fun _ => rfl) (by decide) (by decide) fl_3_33 ha (by omega) rfl (dd dt_3_init 27 rfl) ?_
  exact N_vret rfl rfl rfl rfl (by omega) (dd dt_3_init 28 rfl)
abbrev bf_2 (a cn : Nat) : Prop := kd a = 2 ∧ od a < cn ∧ 1 ≤ cn ∧ cn + 12 < 332 ∧ (oi (cn) = rf a 1 ∧ kd (rf a 1) = 20 ∧ len (rf a 1) = 9) ∧ (oi (cn + 1) = rf a 2 ∧ kd (rf a 2) = 23 ∧ len (rf a 2) = 9 ∧ (∀ i, i < 9 → rf (rf a 2) i = oi (cn + 2 + i) ∧ kd (rf (rf a 2) i) = 20 ∧ len (rf (rf a 2) i) = 4)) ∧ (oi (cn + 11) = rf a 5 ∧ kd (rf a 5) = 20 ∧ len (rf a 5) = 4)
set_option maxHeartbeats 4000000 in
theorem c_2 {l : Launch} {E : ce} {d a cn : Nat} {pd : List Nat} {μ : mm} (hz : ∀ k, μ a k = 0) (hf : bf_2 a cn) : Cn l E d yX2_init m_2_init [.ref a] cn pd μ 12 58 (cn + 12) pd μ := by
  obtain ⟨ha, hoa, h1, ht, ⟨g0, k0, l0⟩, ⟨g1, k1, l1, r1⟩, ⟨g2, k2, l2⟩⟩ := hf
  refine Cn_of (by decide) rfl (fun _ _ => rfl) (by decide) (Nat.le_of_ble_eq_true rfl) rfl ?_
  refine N_aload_n (dd dt_2_init 0 rfl) 0 rfl rfl ?_
  refine N_oinit (by decide) mi_2_3 oi_in oi_cd (dd dt_2_init 1 rfl) ?_
  refine N_aload_n (dd dt_2_init 2 rfl) 0 rfl rfl ?_
  refine N_iconst (v := 0) (dd dt_2_init 3 rfl) (by decide) ?_
  refine N_put (C0 := RX2) (T := TX2) (N := 6) (k := 0) tyX2 tyX2_ok nmX2 rfl (by decide) iw_2 (by decide) rfl rfl rfl rfl rfl rfl fl_2_9 ha (by omega) (up_id (hz 0)) (dd dt_2_init 4 rfl) ?_
  refine N_aload_n (dd dt_2_init 5 rfl) 0 rfl rfl ?_
  refine N_bipush (v := 9) (dd dt_2_init 6 rfl) (by decide) ?_
  refine N_newa_int (N := 9) (rc := 11) (rs := 49) (by omega) aw_int g0 k0 l0 (by decide) (by decide) (by decide) (dd dt_2_init 7 rfl) ?_
  refine N_putR (C0 := RX2) (T := TX2) (N := 6) (k := 1) tyX2 tyX2_ok nmX2 rfl (by decide) iw_2 (by decide) rfl rfl rfl rfl rfl (fun _ => rfl) (fun _ => rfl) (by decide) (by decide) fl_2_15 ha (by omega) rfl (dd dt_2_init 8 rfl) ?_
  refine N_aload_n (dd dt_2_init 9 rfl) 0 rfl rfl ?_
  refine N_bipush (v := 9) (dd dt_2_init 10 rfl) (by decide) ?_
  refine N_iconst (v := 4) (dd dt_2_init 11 rfl) (by decide) ?_
  refine N_multi (N := 9) (L := 4) (rc := 1) (rs := 4) (by omega) (by omega) ci_2_19 aw_int g1 k1 l1 r1 (by decide) (by decide) (by decide) (by decide) (by decide) (dd dt_2_init 12 rfl) ?_
  refine N_putR (C0 := RX2) (T := TX2) (N := 6) (k := 2) tyX2 tyX2_ok nmX2 rfl (by decide) iw_2 (by decide) rfl rfl rfl rfl rfl (fun _ => rfl) (fun _ => rfl) (by decide) (by decide) fl_2_21 ha (by omega) rfl (dd dt_2_init 13 rfl) ?_
  refine N_aload_n (dd dt_2_init 14 rfl) 0 rfl rfl ?_
  refine N_iconst (v := 0) (dd dt_2_init 15 rfl) (by decide) ?_
  refine N_put (C0 := RX2) (T := TX2) (N := 6) (k := 3) tyX2 tyX2_ok nmX2 rfl (by decide) iw_2 (by decide) rfl rfl rfl rfl rfl rfl fl_2_24 ha (by omega) (up_id (hz 3)) (dd dt_2_init 16 rfl) ?_
  refine N_aload_n (dd dt_2_init 17 rfl) 0 rfl rfl ?_
  refine N_iconst (v := 0) (dd dt_2_init 18 rfl) (by decide) ?_
  refine N_put (C0 := RX2) (T := TX2) (N := 6) (k := 4) tyX2 tyX2_ok nmX2 rfl (by decide) iw_2 (by decide) rfl rfl rfl rfl rfl rfl fl_2_27 ha (by omega) (up_id (hz 4)) (dd dt_2_init 19 rfl) ?_
  refine N_aload_n (dd dt_2_init 20 rfl) 0 rfl rfl ?_
  refine N_iconst (v := 4) (dd dt_2_init 21 rfl) (by decide) ?_
  refine N_newa_int (N := 4) (rc := 0) (rs := 0) (by omega) aw_int g2 k2 l2 (by decide) (by decide) (by decide) (dd dt_2_init 22 rfl) ?_
  refine N_putR (C0 := RX2) (T := TX2) (N := 6) (k := 5) tyX2 tyX2_ok nmX2 rfl (by decide) iw_2 (by decide) rfl rfl rfl rfl rfl (fun _ => rfl) (fun _ => rfl) (by decide) (by decide) fl_2_30 ha (by omega) rfl (dd dt_2_init 23 rfl) ?_
  exact N_vret rfl rfl rfl rfl (by omega) (dd dt_2_init 24 rfl)
abbrev bf_0 (a cn : Nat) : Prop := kd a = 0 ∧ od a < cn ∧ 1 ≤ cn ∧ cn + 1 < 332 ∧ (oi (cn) = rf a 0 ∧ kd (rf a 0) = 20 ∧ len (rf a 0) = 30)
set_option maxHeartbeats 4000000 in
theorem c_0 {l : Launch} {E : ce} {d a cn : Nat} {pd : List Nat} {μ : mm} (hz : ∀ k, μ a k = 0) (hf : bf_0 a cn) : Cn l E d yX0_init m_0_init [.ref a] cn pd μ 1 30 (cn + 1) pd μ := by
  obtain ⟨ha, hoa, h1, ht, ⟨g0, k0, l0⟩⟩ := hf
  refine Cn_of (by decide) rfl (fun _ _ => rfl) (by decide) (Nat.le_of_ble_eq_true rfl) rfl ?_
  refine N_aload_n (dd dt_0_init 0 rfl) 0 rfl rfl ?_
  refine N_oinit (by decide) mi_0_3 oi_in oi_cd (dd dt_0_init 1 rfl) ?_
  refine N_aload_n (dd dt_0_init 2 rfl) 0 rfl rfl ?_
  refine N_bipush (v := 30) (dd dt_0_init 3 rfl) (by decide) ?_
  refine N_newa_int (N := 30) (rc := 0) (rs := 0) (by omega) aw_int g0 k0 l0 (by decide) (by decide) (by decide) (dd dt_0_init 4 rfl) ?_
  refine N_putR (C0 := RX0) (T := TX0) (N := 7) (k := 0) tyX0 tyX0_ok nmX0 rfl (by decide) iw_0 (by decide) rfl rfl rfl rfl rfl (fun _ => rfl) (fun _ => rfl) (by decide) (by decide) fl_0_11 ha (by omega) rfl (dd dt_0_init 5 rfl) ?_
  refine N_aload_n (dd dt_0_init 6 rfl) 0 rfl rfl ?_
  refine N_iconst (v := 0) (dd dt_0_init 7 rfl) (by decide) ?_
  refine N_put (C0 := RX0) (T := TX0) (N := 7) (k := 1) tyX0 tyX0_ok nmX0 rfl (by decide) iw_0 (by decide) rfl rfl rfl rfl rfl rfl fl_0_15 ha (by omega) (up_id (hz 1)) (dd dt_0_init 8 rfl) ?_
  refine N_aload_n (dd dt_0_init 9 rfl) 0 rfl rfl ?_
  refine N_iconst (v := 0) (dd dt_0_init 10 rfl) (by decide) ?_
  refine N_put (C0 := RX0) (T := TX0) (N := 7) (k := 2) tyX0 tyX0_ok nmX0 rfl (by decide) iw_0 (by decide) rfl rfl rfl rfl rfl rfl fl_0_19 ha (by omega) (up_id (hz 2)) (dd dt_0_init 11 rfl) ?_
  refine N_aload_n (dd dt_0_init 12 rfl) 0 rfl rfl ?_
  refine N_iconst (v := 0) (dd dt_0_init 13 rfl) (by decide) ?_
  refine N_put (C0 := RX0) (T := TX0) (N := 7) (k := 3) tyX0 tyX0_ok nmX0 rfl (by decide) iw_0 (by decide) rfl rfl rfl rfl rfl rfl fl_0_22 ha (by omega) (up_id (hz 3)) (dd dt_0_init 14 rfl) ?_
  refine N_aload_n (dd dt_0_init 15 rfl) 0 rfl rfl ?_
  refine N_iconst (v := 0) (dd dt_0_init 16 rfl) (by decide) ?_
  refine N_put (C0 := RX0) (T := TX0) (N := 7) (k := 4) tyX0 tyX0_ok nmX0 rfl (by decide) iw_0 (by decide) rfl rfl rfl rfl rfl rfl fl_0_25 ha (by omega) (up_id (hz 4)) (dd dt_0_init 17 rfl) ?_
  refine N_aload_n (dd dt_0_init 18 rfl) 0 rfl rfl ?_
  refine N_iconst (v := 0) (dd dt_0_init 19 rfl) (by decide) ?_
  refine N_put (C0 := RX0) (T := TX0) (N := 7) (k := 5) tyX0 tyX0_ok nmX0 rfl (by decide) iw_0 (by decide) rfl rfl rfl rfl rfl rfl fl_0_28 ha (by omega) (up_id (hz 5)) (dd dt_0_init 20 rfl) ?_
  refine N_aload_n (dd dt_0_init 21 rfl) 0 rfl rfl ?_
  refine N_iconst (v := 0) (dd dt_0_init 22 rfl) (by decide) ?_
  refine N_put (C0 := RX0) (T := TX0) (N := 7) (k := 6) tyX0 tyX0_ok nmX0 rfl (by decide) iw_0 (by decide) rfl rfl rfl rfl rfl rfl fl_0_31 ha (by omega) (up_id (hz 6)) (dd dt_0_init 23 rfl) ?_
  exact N_vret rfl rfl rfl rfl (by omega) (dd dt_0_init 24 rfl)
abbrev bf_8 (a cn : Nat) : Prop := kd a = 8 ∧ od a < cn ∧ 1 ≤ cn ∧ cn + 10 < 332 ∧ (oi (cn) = rf a 0 ∧ kd (rf a 0) = 21 ∧ len (rf a 0) = 300) ∧ (oi (cn + 1) = rf a 2 ∧ kd (rf a 2) = 5 ∧ bf_5 (rf a 2) (cn + 2)) ∧ (oi (cn + 7) = rf a 3 ∧ kd (rf a 3) = 20 ∧ len (rf a 3) = 301) ∧ (oi (cn + 8) = rf a 4 ∧ kd (rf a 4) = 20 ∧ len (rf a 4) = 301) ∧ (oi (cn + 9) = rf a 5 ∧ kd (rf a 5) = 20 ∧ len (rf a 5) = 301)
set_option maxHeartbeats 4000000 in
theorem c_8 {l : Launch} {E : ce} {d a cn : Nat} {pd : List Nat} {μ : mm} (hz : ∀ k, μ a k = 0) (hz5 : ∀ k, μ (rf a 2) k = 0) (hf : bf_8 a cn) : Cn l E (d + 1) yX8_init m_8_init [.ref a] cn pd μ 10 1550 (cn + 10) pd (up μ a 7 (-1)) := by
  obtain ⟨ha, hoa, h1, ht, ⟨g0, k0, l0⟩, ⟨g1, k1, l1⟩, ⟨g2, k2, l2⟩, ⟨g3, k3, l3⟩, ⟨g4, k4, l4⟩⟩ := hf
  refine Cn_of (by decide) rfl (fun _ _ => rfl) (by decide) (Nat.le_of_ble_eq_true rfl) rfl ?_
  refine N_aload_n (dd dt_8_init 0 rfl) 0 rfl rfl ?_
  refine N_oinit (by decide) mi_8_1 oi_in oi_cd (dd dt_8_init 1 rfl) ?_
  refine N_aload_n (dd dt_8_init 2 rfl) 0 rfl rfl ?_
  refine N_sipush (v := 300) (dd dt_8_init 3 rfl) (by decide) ?_
  refine N_newa_byte (N := 300) (rc := 9) (rs := 1250) (by omega) aw_byte g0 k0 l0 (by decide) (by decide) (by decide) (dd dt_8_init 4 rfl) ?_
  refine N_putR (C0 := RX8) (T := TX8) (N := 8) (k := 0) tyX8 tyX8_ok nmX8 rfl (by decide) iw_8 (by decide) rfl rfl rfl rfl rfl (fun _ => rfl) (fun _ => rfl) (by decide) (by decide) fl_8_9 ha (by omega) rfl (dd dt_8_init 5 rfl) ?_
  refine N_aload_n (dd dt_8_init 6 rfl) 0 rfl rfl ?_
  refine N_iconst (v := 0) (dd dt_8_init 7 rfl) (by decide) ?_
  refine N_put (C0 := RX8) (T := TX8) (N := 8) (k := 1) tyX8 tyX8_ok nmX8 rfl (by decide) iw_8 (by decide) rfl rfl rfl rfl rfl rfl fl_8_13 ha (by omega) (up_id (hz 1)) (dd dt_8_init 8 rfl) ?_
  refine N_aload_n (dd dt_8_init 9 rfl) 0 rfl rfl ?_
  refine N_new (ci := 5) (C1 := RX5) (T := TX5) (N := 7) (rc := 8) (rs := 1243) (by omega) tyX5 tyX5_ok rfl (by decide) iw_5 rfl (by decide) ci_8_17 ist_5 izt_5 g1 k1 (dd dt_8_init 10 rfl) ?_
  refine N_dup (dd dt_8_init 11 rfl) rfl ?_
  refine N_callN (mc := 5) (ms := 340) (rc := 3) (rs := 903) (c_5 (hz5 : ∀ k, μ (rf a 2) k = 0) l1) cal_5_init rfl rfl in_5_init mi_8_19 (by omega) rfl (Nat.le_of_ble_eq_true rfl) (dd dt_8_init 12 rfl) ?_
  refine N_putR (C0 := RX8) (T := TX8) (N := 8) (k := 2) tyX8 tyX8_ok nmX8 rfl (by decide) iw_8 (by decide) rfl rfl rfl rfl rfl (fun _ => rfl) (fun _ => rfl) (by decide) (by decide) fl_8_20 ha (by omega) rfl (dd dt_8_init 13 rfl) ?_
  refine N_aload_n (dd dt_8_init 14 rfl) 0 rfl rfl ?_
  refine N_sipush (v := 301) (dd dt_8_init 15 rfl) (by decide) ?_
  refine N_newa_int (N := 301) (rc := 2) (rs := 602) (by omega) aw_int g2 k2 l2 (by decide) (by decide) (by decide) (dd dt_8_init 16 rfl) ?_
  refine N_putR (C0 := RX8) (T := TX8) (N := 8) (k := 3) tyX8 tyX8_ok nmX8 rfl (by decide) iw_8 (by decide) rfl rfl rfl rfl rfl (fun _ => rfl) (fun _ => rfl) (by decide) (by decide) fl_8_24 ha (by omega) rfl (dd dt_8_init 17 rfl) ?_
  refine N_aload_n (dd dt_8_init 18 rfl) 0 rfl rfl ?_
  refine N_sipush (v := 301) (dd dt_8_init 19 rfl) (by decide) ?_
  refine N_newa_int (N := 301) (rc := 1) (rs := 301) (by omega) aw_int g3 k3 l3 (by decide) (by decide) (by decide) (dd dt_8_init 20 rfl) ?_
  refine N_putR (C0 := RX8) (T := TX8) (N := 8) (k := 4) tyX8 tyX8_ok nmX8 rfl (by decide) iw_8 (by decide) rfl rfl rfl rfl rfl (fun _ => rfl) (fun _ => rfl) (by decide) (by decide) fl_8_28 ha (by omega) rfl (dd dt_8_init 21 rfl) ?_
  refine N_aload_n (dd dt_8_init 22 rfl) 0 rfl rfl ?_
  refine N_sipush (v := 301) (dd dt_8_init 23 rfl) (by decide) ?_
  refine N_newa_int (N := 301) (rc := 0) (rs := 0) (by omega) aw_int g4 k4 l4 (by decide) (by decide) (by decide) (dd dt_8_init 24 rfl) ?_
  refine N_putR (C0 := RX8) (T := TX8) (N := 8) (k := 5) tyX8 tyX8_ok nmX8 rfl (by decide) iw_8 (by decide) rfl rfl rfl rfl rfl (fun _ => rfl) (fun _ => rfl) (by decide) (by decide) fl_8_31 ha (by omega) rfl (dd dt_8_init 25 rfl) ?_
  refine N_aload_n (dd dt_8_init 26 rfl) 0 rfl rfl ?_
  refine N_iconst (v := 0) (dd dt_8_init 27 rfl) (by decide) ?_
  refine N_put (C0 := RX8) (T := TX8) (N := 8) (k := 6) tyX8 tyX8_ok nmX8 rfl (by decide) iw_8 (by decide) rfl rfl rfl rfl rfl rfl fl_8_34 ha (by omega) (up_id (hz 6)) (dd dt_8_init 28 rfl) ?_
  refine N_aload_n (dd dt_8_init 29 rfl) 0 rfl rfl ?_
  refine N_iconst (v := (-1)) (dd dt_8_init 30 rfl) (by decide) ?_
  refine N_put (C0 := RX8) (T := TX8) (N := 8) (k := 7) tyX8 tyX8_ok nmX8 rfl (by decide) iw_8 (by decide) rfl rfl rfl rfl rfl rfl fl_8_37 ha (by omega) (rfl) (dd dt_8_init 31 rfl) ?_
  exact N_vret rfl rfl rfl rfl (by omega) (dd dt_8_init 32 rfl)
