/-! ROWS, and a shop's numbers -/
theorem bit_of {b : Int32} (h : 0 ≤ b ∧ b ≤ 1) : ∃ k : Nat, k ≤ 1 ∧ b = nI k := nI_of2 (M := 1) (by decide) (Int32.not_lt.mpr h.1) h.2
theorem ix2 (j k : Nat) : (2 * nI j + nI k : Int32) = nI (2 * j + k) := by rw [show (2 : Int32) = nI 2 from rfl, pk_mul, nI_add]
theorem T_row {μ ν : mm} (a b : Int32) (h : Cp μ ν) : Ok (f_11_row 23 a b μ) fun z => Ok (f_12_row 0 a b ν) fun w => z = w := by
  obtain ⟨r, t, hrt, ht, e1, e2, hk, -⟩ := h.2.2.2.2.1
  by_cases c1 : 0 ≤ a ∧ a ≤ nI r - 1
  · by_cases c2 : 0 ≤ b ∧ b ≤ 1
    · obtain ⟨j, hj, rfl⟩ := in_of (by omega) c1
      obtain ⟨k, hk1, rfl⟩ := bit_of c2
      have l1 : ld μ 37 (nI (2 * j + k)) = some (μ 37 (2 * j + k)) := ld_nI (by rw [len_37]; omega) (by decide)
      have l2 : ld ν 5 (nI (2 * j + k)) = some (ν 5 (2 * j + k)) := ld_nI (by rw [len_5]; omega) (by decide)
      refine Ok_of (y := μ 37 (2 * j + k)) (by simp [f_11_row, f_11_hasRow, isIn_eq, e1, c1, c2, rf_23_6, ix2, l1]) ?_
      refine Ok_of (y := ν 5 (2 * j + k)) (by simp [f_12_row, f_12_isRow, within_eq, e2, c1, c2, rf_0_6, ix2, l2]) ?_
      exact hk _ (by omega)
    · exact Ok_of (y := -9) (by simp [f_11_row, f_11_hasRow, isIn_eq, e1, c1, c2]) (Ok_of (y := -9) (by simp [f_12_row, f_12_isRow, within_eq, e2, c1, c2]) rfl)
  · exact Ok_of (y := -9) (by simp [f_11_row, f_11_hasRow, isIn_eq, e1, c1]) (Ok_of (y := -9) (by simp [f_12_row, f_12_isRow, within_eq, e2, c1]) rfl)
/-- a call that changes ROWS alone -/
theorem Cp_rows {μ μ' ν ν' : mm} (h : Cp μ ν) (hm : ∀ b, b ≠ 23 → b ≠ 37 → b ≠ 38 → μ' b = μ b) (hm3 : μ' 23 3 = μ 23 3) (hn : ∀ b, b ≠ 0 → b ≠ 5 → b ≠ 6 → ν' b = ν b) (hn3 : ν' 0 3 = ν 0 3 ∧ ν' 0 5 = ν 0 5 ∧ ν' 0 33 = ν 0 33) (hR : Rw μ' ν') : Cp μ' ν' := by
  obtain ⟨hV, hI, ⟨k1, k2, k3⟩, ht, -, hs, hv, hc⟩ := h
  refine ⟨?_, ?_, ⟨by rw [hm3, hn3.1]; exact k1, by rw [hm3]; exact k2, fun e => ?_⟩, ?_, hR, ?_, ?_, ?_⟩
  · rw [hn 1 (by omega) (by omega) (by omega)]
    exact VP_congr (fun _ _ => rfl) (fun b h1 h2 => hm b (by omega) (by omega) (by omega)) (IV_nn hI) hV
  · rw [hn 1 (by omega) (by omega) (by omega)]
    exact hI
  · rw [hm3] at e
    obtain ⟨q1, q2⟩ := k3 e
    rw [hn 2 (by omega) (by omega) (by omega)]
    exact ⟨VP_congr (fun _ _ => rfl) (fun b h1 h2 => hm b (by omega) (by omega) (by omega)) (IV_nn q2) q1, q2⟩
  · unfold Tp
    rw [hm 24 (by omega) (by omega) (by omega), hm 25 (by omega) (by omega) (by omega), hn3.2.1, hn 4 (by omega) (by omega) (by omega)]
    exact ht
  · intro s hs1
    rw [hm 39 (by omega) (by omega) (by omega), hm 40 (by omega) (by omega) (by omega), hm (42 + s) (by omega) (by omega) (by omega), hn 16 (by omega) (by omega) (by omega), hn 17 (by omega) (by omega) (by omega), hn 18 (by omega) (by omega) (by omega)]
    exact hs s hs1
  · intro s hs1
    rw [hm 46 (by omega) (by omega) (by omega), hm 47 (by omega) (by omega) (by omega), hm 48 (by omega) (by omega) (by omega), hn 19 (by omega) (by omega) (by omega), hn 20 (by omega) (by omega) (by omega), hn 21 (by omega) (by omega) (by omega)]
    exact hv s hs1
  · unfold Tc
    rw [hm 35 (by omega) (by omega) (by omega), hm 36 (by omega) (by omega) (by omega), hn3.2.2, hn 22 (by omega) (by omega) (by omega)]
    exact hc
theorem T_alterRow {μ ν : mm} (a b v : Int32) (h : Cp μ ν) : Ok (f_11_alterRow 23 a b v μ) fun z => Ok (f_12_alterRow 0 a b v ν) fun w => z.1 = w.1 ∧ Cp z.2 w.2 := by
  obtain ⟨r, t, hrt, ht, e1, e2, hk, hd⟩ := h.2.2.2.2.1
  by_cases c1 : 0 ≤ a ∧ a ≤ nI r - 1
  · by_cases c2 : 0 ≤ b ∧ b ≤ 1
    · obtain ⟨j, hj, rfl⟩ := in_of (by omega) c1
      obtain ⟨k, hk1, rfl⟩ := bit_of c2
      have l1 : ld μ 37 (nI (2 * j + k)) = some (μ 37 (2 * j + k)) := ld_nI (by rw [len_37]; omega) (by decide)
      have l2 : ld ν 5 (nI (2 * j + k)) = some (ν 5 (2 * j + k)) := ld_nI (by rw [len_5]; omega) (by decide)
      have s1 : sto μ 37 (nI (2 * j + k)) v = some (up μ 37 (2 * j + k) v) := sto_nI (by rw [len_37]; omega) (by decide)
      have s2 : sto ν 5 (nI (2 * j + k)) v = some (up ν 5 (2 * j + k) v) := sto_nI (by rw [len_5]; omega) (by decide)
      refine Ok_of (y := (μ 37 (2 * j + k), up μ 37 (2 * j + k) v)) (by simp [f_11_alterRow, f_11_hasRow, isIn_eq, e1, c1, c2, rf_23_6, ix2, l1, s1]) ?_
      refine Ok_of (y := (ν 5 (2 * j + k), up ν 5 (2 * j + k) v)) (by simp [f_12_alterRow, f_12_isRow, within_eq, e2, c1, c2, rf_0_6, ix2, l2, s2]) ?_
      refine ⟨hk _ (by omega), Cp_rows h (fun b h1 h2 h3 => up_ne h2) (by simp [up_app]) (fun b h1 h2 h3 => up_ne h2) ⟨by simp [up_app], by simp [up_app], by simp [up_app]⟩ ?_⟩
      show Rw (up μ 37 (2 * j + k) v) (up ν 5 (2 * j + k) v)
      refine ⟨r, t, hrt, ht, by rw [up_nc (by decide)]; exact e1, by rw [up_nc (by decide)]; exact e2, ?_, ?_⟩
      · intro i hi
        have := hk i hi
        simp only [up_app]
        grind
      · rw [up_ne (a := 37) (b := 23) (by decide), up_ne (a := 37) (b := 38) (by decide), up_ne (a := 5) (b := 0) (by decide), up_ne (a := 5) (b := 6) (by decide)]
        exact hd
    · exact Ok_of (y := (-9, μ)) (by simp [f_11_alterRow, f_11_hasRow, isIn_eq, e1, c1, c2]) (Ok_of (y := (-9, ν)) (by simp [f_12_alterRow, f_12_isRow, within_eq, e2, c1, c2]) ⟨rfl, h⟩)
  · exact Ok_of (y := (-9, μ)) (by simp [f_11_alterRow, f_11_hasRow, isIn_eq, e1, c1]) (Ok_of (y := (-9, ν)) (by simp [f_12_alterRow, f_12_isRow, within_eq, e2, c1]) ⟨rfl, h⟩)
theorem T_dropRow {μ ν : mm} (h : Cp μ ν) : Ok (f_11_dropRow 23 μ) fun z => Ok (f_12_dropRow 0 ν) fun w => z.1 = w.1 ∧ Cp z.2 w.2 := by
  obtain ⟨r, t, hrt, ht, e1, e2, hk, hd⟩ := h.2.2.2.2.1
  cases r with
  | zero =>
    have c1 : μ 23 8 = 0 := e1
    have c2 : ν 0 8 = 0 := e2
    exact Ok_of (y := (-3, μ)) (by simp [f_11_dropRow, c1]) (Ok_of (y := (-3, ν)) (by simp [f_12_dropRow, c2]) ⟨rfl, h⟩)
  | succ r =>
    have c0 : ¬ nI (r + 1) = 0 := nI_ne0 (by omega) (by omega)
    refine Ok_of (y := (nI r, up μ 23 8 (nI r))) (by simp [f_11_dropRow, e1, c0, pf_eq, up_app, nI_pred]) ?_
    refine Ok_of (y := (nI r, up ν 0 8 (nI r))) (by simp [f_12_dropRow, e2, c0, pf_eq, up_app, nI_pred]) ?_
    refine ⟨rfl, Cp_rows h (fun b h1 h2 h3 => up_ne h1) (by simp [up_app]) (fun b h1 h2 h3 => up_ne h1) ⟨by simp [up_app], by simp [up_app], by simp [up_app]⟩ ?_⟩
    show Rw (up μ 23 8 (nI r)) (up ν 0 8 (nI r))
    refine ⟨r, t, by omega, ht, up_at, up_at, ?_, ?_⟩
    · intro i hi
      rw [up_nc (by decide), up_nc (by decide)]
      exact hk i (by omega)
    · rw [up_ns (by decide), up_ns (by decide), up_ns (by decide), up_ne (a := 23) (b := 38) (by decide), up_ne (a := 0) (b := 6) (by decide)]
      rcases hd with ⟨-, -, q⟩ | q
      · omega
      · exact Or.inr q
