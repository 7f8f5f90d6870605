/-! one number of the valley changes -/
theorem so_in : ∀ k, k < 8 → so k = 0 ∨ so k = 12 ∨ so k = 15 ∨ so k = 22 := by decide +kernel
theorem so_inj : ∀ k, k < 18 → ∀ j, j < 18 → so k = so j ∧ ss k = ss j → k = j := by decide +kernel
theorem upd_hi {g : Nat → Int32} {k0 j : Nat} {x : Int32} (hk : k0 < 8) (h : 8 ≤ j) : upd g k0 x j = g j := by rw [upd_app, if_neg (by omega)]
theorem VP_scal {v k0 : Nat} {μ : mm} {g : Nat → Int32} {x : Int32} (hk : k0 < 8) (h : VP v μ g) : VP v (up μ (v + so k0) (ss k0) x) (upd g k0 x) := by
  obtain ⟨h1, h2, h3, h4, h5, h6, h7, h8, h9, h10, h11, h12⟩ := h
  have hs := so_in k0 hk
  have hm : ∀ b, (b ≠ v ∧ b ≠ v + 12 ∧ b ≠ v + 15 ∧ b ≠ v + 22) → up μ (v + so k0) (ss k0) x b = μ b := fun b hb => up_ne (by omega)
  refine ⟨?_, ?_, ?_, ?_, ?_, ?_, ?_, ?_, ?_, ?_, ?_, ?_⟩
  · intro k hk1
    have hv := h1 k hk1
    by_cases e : k = k0
    · subst e; simp [up_app, upd_app]
    · have hn := fun q => e (so_inj k hk1 k0 (by omega) q)
      clear h1 h2 h3 h4 h5 h6 h7 h8 h9 h10 h11 h12
      simp only [up_app, upd_app]
      grind
  · intro a b ha hb; rw [upd_hi hk (by omega), hm _ (by omega)]; exact h2 a b ha hb
  · intro p f hp hf; rw [upd_hi hk (by omega)] at hp; rw [upd_hi hk (by omega), hm _ (by omega)]; exact h3 p f hp hf
  · intro p f hp hf; rw [upd_hi hk (by omega)] at hp; rw [upd_hi hk (by omega), hm _ (by omega)]; exact h4 p f hp hf
  · intro p f hp hf; rw [upd_hi hk (by omega)] at hp; rw [upd_hi hk (by omega), hm _ (by omega)]; exact h5 p f hp hf
  · intro j hj; rw [upd_hi hk (by omega)] at hj; rw [upd_hi hk (by omega), upd_hi hk (by omega), upd_hi hk (by omega), hm _ (by omega), hm _ (by omega), hm _ (by omega)]; exact h6 j hj
  · intro j hj; rw [hm (v + 21) (by omega)]; refine ⟨(h7 j hj).1, fun hj2 => ?_⟩; rw [upd_hi hk (by omega)] at hj2; rw [upd_hi hk (by omega), upd_hi hk (by omega), upd_hi hk (by omega), hm _ (by omega), hm _ (by omega)]; exact (h7 j hj).2 hj2
  · intro j hj; rw [upd_hi hk (by omega)] at hj; rw [upd_hi hk (by omega), upd_hi hk (by omega), hm _ (by omega), hm _ (by omega)]; exact h8 j hj
  · intro j hj; rw [upd_hi hk (by omega)] at hj; rw [upd_hi hk (by omega), hm _ (by omega)]; exact h9 j hj
  · intro j hj; rw [upd_hi hk (by omega)] at hj; rw [upd_hi hk (by omega), hm _ (by omega)]; exact h10 j hj
  · intro c hc; rw [upd_hi hk (by omega)] at hc; obtain ⟨q1, q2⟩ := h11 c hc; refine ⟨?_, fun p hp => ?_⟩
    · rw [upd_hi hk (by omega), hm _ (by omega)]; exact q1
    · rw [upd_hi hk (by omega), hm _ (by omega)]; exact q2 p hp
  · intro s hs1
    refine RC_congr hs1 (fun k a b => ?_) (fun b a c => up_ne (by omega)) (h12 s hs1)
    rw [upd_app, if_neg (by omega)]
/-- which values a number may have -/
def rg (k : Nat) (x : Int32) : Prop := 0 ≤ x ∧ x ≤ [999, 99999, 99999, 1, 999, 9, 99999, 99999].getD k 0
theorem IV_scal {k0 : Nat} {g : Nat → Int32} {x : Int32} (hk : k0 < 8) (h0 : k0 ≠ 0) (hx : rg k0 x) (h : IV g) : IV (upd g k0 x) := by
  obtain ⟨i1, i2, i3, i4, i5, i6, i7, i8, i9, i10, i11, i12⟩ := h
  refine ⟨?_, ?_, ?_, ?_, ?_, ?_, ?_, ?_, ?_, ?_, ?_, ?_⟩
  · clear i2 i3 i4 i5 i6 i7 i8 i9 i10 i11 i12
    obtain ⟨j0, j1, j2, j3, j4, j5, j6, j7⟩ := i1
    have hc : k0 = 1 ∨ k0 = 2 ∨ k0 = 3 ∨ k0 = 4 ∨ k0 = 5 ∨ k0 = 6 ∨ k0 = 7 := by omega
    unfold rg at hx
    rcases hc with rfl | rfl | rfl | rfl | rfl | rfl | rfl
    · exact ⟨j0, hx, j2, j3, j4, j5, j6, j7⟩
    · exact ⟨j0, j1, hx, j3, j4, j5, j6, j7⟩
    · refine ⟨j0, j1, j2, ?_, j4, j5, j6, j7⟩
      have hx' : 0 ≤ x ∧ x ≤ 1 := hx
      simp only [upd_app]
      grind
    · exact ⟨j0, j1, j2, j3, hx, j5, j6, j7⟩
    · exact ⟨j0, j1, j2, j3, j4, hx, j6, j7⟩
    · exact ⟨j0, j1, j2, j3, j4, j5, hx, j7⟩
    · exact ⟨j0, j1, j2, j3, j4, j5, j6, hx⟩
  · have hu : ∀ j, 8 ≤ j → upd g k0 x j = g j := fun j hj => upd_hi hk hj; clear hx i1 i3 i4 i5 i6 i7 i8 i9 i10 i11 i12; generalize upd g k0 x = g2 at *; grind
  · have hu : ∀ j, 8 ≤ j → upd g k0 x j = g j := fun j hj => upd_hi hk hj; clear hx i1 i2 i4 i5 i6 i7 i8 i9 i10 i11 i12; generalize upd g k0 x = g2 at *; grind
  · have hu : ∀ j, 8 ≤ j → upd g k0 x j = g j := fun j hj => upd_hi hk hj
    intro p hp
    rw [hu 9 (by omega)] at hp
    have q := i4 p hp
    simp only [hu 8 (by omega), hu (56 + 7 * p) (by omega), hu (57 + 7 * p) (by omega), hu (58 + 7 * p) (by omega), hu (59 + 7 * p) (by omega), hu (60 + 7 * p) (by omega), hu (61 + 7 * p) (by omega), hu (62 + 7 * p) (by omega)]
    exact q
  · have hu : ∀ j, 8 ≤ j → upd g k0 x j = g j := fun j hj => upd_hi hk hj; clear hx i1 i2 i3 i4 i6 i7 i8 i9 i10 i11 i12; generalize upd g k0 x = g2 at *; grind
  · have hu : ∀ j, 8 ≤ j → upd g k0 x j = g j := fun j hj => upd_hi hk hj
    intro p hp
    rw [hu 11 (by omega)] at hp
    have q := i6 p hp
    simp only [hu 8 (by omega), hu 9 (by omega), hu (96 + 12 * p) (by omega), hu (97 + 12 * p) (by omega), hu (98 + 12 * p) (by omega), hu (99 + 12 * p) (by omega), hu (100 + 12 * p) (by omega), hu (101 + 12 * p) (by omega), hu (102 + 12 * p) (by omega), hu (103 + 12 * p) (by omega), hu (104 + 12 * p) (by omega), hu (105 + 12 * p) (by omega), hu (106 + 12 * p) (by omega), hu (107 + 12 * p) (by omega)]
    exact q
  · have hu : ∀ j, 8 ≤ j → upd g k0 x j = g j := fun j hj => upd_hi hk hj; clear hx i1 i2 i3 i4 i5 i6 i8 i9 i10 i11 i12; generalize upd g k0 x = g2 at *; grind
  · have hu : ∀ j, 8 ≤ j → upd g k0 x j = g j := fun j hj => upd_hi hk hj; clear hx i1 i2 i3 i4 i5 i6 i7 i9 i10 i11 i12; generalize upd g k0 x = g2 at *; grind
  · have hu : ∀ j, 8 ≤ j → upd g k0 x j = g j := fun j hj => upd_hi hk hj; have hz : upd g k0 x 0 = g 0 := by rw [upd_app, if_neg (by omega)]
    clear hx i1 i2 i3 i4 i5 i6 i7 i8 i10 i11 i12; generalize upd g k0 x = g2 at *; grind
  · have hu : ∀ j, 8 ≤ j → upd g k0 x j = g j := fun j hj => upd_hi hk hj; clear hx i1 i2 i3 i4 i5 i6 i7 i8 i9 i11 i12; generalize upd g k0 x = g2 at *; grind
  · have hu : ∀ j, 8 ≤ j → upd g k0 x j = g j := fun j hj => upd_hi hk hj; clear hx i1 i2 i3 i4 i5 i6 i7 i8 i9 i10 i12; generalize upd g k0 x = g2 at *; grind
  · have hu : ∀ j, 8 ≤ j → upd g k0 x j = g j := fun j hj => upd_hi hk hj; clear hx i1 i2 i3 i4 i5 i6 i7 i8 i9 i10 i11; generalize upd g k0 x = g2 at *; grind
/-- both change one number of the valley now -/
theorem Cp_scal {μ ν : mm} {x : Int32} (k0 : Nat) (hk : k0 < 8) (h0 : k0 ≠ 0) (hx : rg k0 x) (h : Cp μ ν) : Cp (up μ (49 + so k0) (ss k0) x) (up ν 1 k0 x) := by
  have hs := so_in k0 hk
  refine Cp_now h (fun b hb => up_ne (by omega)) (fun b hb => up_ne hb) ?_ ?_
  · rw [up_eq]; exact VP_scal hk h.1
  · rw [up_eq]; exact IV_scal hk h0 hx h.2.1
theorem T_press {μ ν : mm} (f : Int32) (h : Cp μ ν) : Ok (f_11_press 23 f μ) fun z => Ok (f_12_press 0 f ν) fun w => z.1 = w.1 ∧ Cp z.2 w.2 := by
  have e1 : ν 1 1 = μ 49 5 := h.1.1 1 (by decide)
  have e2 : ν 1 2 = μ 61 0 := h.1.1 2 (by decide)
  have hI := h.2.1.1
  by_cases c : f = 0
  · refine Ok_of (y := (μ 61 0, up μ 64 9 (μ 61 0))) (by simp [f_11_press, rf_23_0, rf_49_12, rf_49_13, pf_eq, c, up_app]) ?_
    refine Ok_of (y := (μ 61 0, up ν 1 7 (μ 61 0))) (by simp [f_12_press, rf_0_0, ld, sto, len_1, e2, up_app, c]) ?_
    exact ⟨rfl, Cp_scal 7 (by decide) (by decide) (by rw [← e2]; exact hI.2.2.1) h⟩
  · refine Ok_of (y := (μ 49 5, up μ 64 8 (μ 49 5))) (by simp [f_11_press, rf_23_0, rf_49_12, rf_49_13, pf_eq, c, up_app]) ?_
    refine Ok_of (y := (μ 49 5, up ν 1 6 (μ 49 5))) (by simp [f_12_press, rf_0_0, ld, sto, len_1, e1, up_app, c]) ?_
    exact ⟨rfl, Cp_scal 6 (by decide) (by decide) (by rw [← e1]; exact hI.2.1) h⟩
theorem mn_rg {x y : Int32} (h0 : 0 ≤ x) (h1 : x ≤ 99999) (h2 : 1 ≤ y) (h3 : y ≤ 9999) : 0 ≤ mn 99999 (x + y) ∧ mn 99999 (x + y) ≤ 99999 := by
  unfold mn
  grind
theorem T_gift {μ ν : mm} (f n : Int32) (h : Cp μ ν) : Ok (f_11_gift 23 f n μ) fun z => Ok (f_12_gift 0 f n ν) fun w => z.1 = w.1 ∧ Cp z.2 w.2 := by
  have e1 : ν 1 1 = μ 49 5 := h.1.1 1 (by decide)
  have e2 : ν 1 2 = μ 61 0 := h.1.1 2 (by decide)
  have hI := h.2.1.1
  by_cases hn : 1 ≤ n ∧ n ≤ 9999
  · by_cases c : f = 0
    · refine Ok_of (y := (mn 99999 (μ 61 0 + n), up μ 61 0 (mn 99999 (μ 61 0 + n)))) (by simp [f_11_gift, f_10_bring, isIn_eq, hn, rf_23_0, rf_49_12, pf_eq, c, up_app]) ?_
      refine Ok_of (y := (mn 99999 (μ 61 0 + n), up ν 1 2 (mn 99999 (μ 61 0 + n)))) (by simp [f_12_gift, within_eq, hn, rf_0_0, ld, sto, len_1, e2, up_app, c]) ?_
      refine ⟨rfl, Cp_scal 2 (by decide) (by decide) ?_ h⟩
      rw [← e2]
      exact mn_rg hI.2.2.1.1 hI.2.2.1.2 hn.1 hn.2
    · refine Ok_of (y := (mn 99999 (μ 49 5 + n), up μ 49 5 (mn 99999 (μ 49 5 + n)))) (by simp [f_11_gift, isIn_eq, hn, rf_23_0, pf_eq, c, up_app]) ?_
      refine Ok_of (y := (mn 99999 (μ 49 5 + n), up ν 1 1 (mn 99999 (μ 49 5 + n)))) (by simp [f_12_gift, within_eq, hn, rf_0_0, ld, sto, len_1, e1, up_app, c]) ?_
      refine ⟨rfl, Cp_scal 1 (by decide) (by decide) ?_ h⟩
      rw [← e1]
      exact mn_rg hI.2.1.1 hI.2.1.2 hn.1 hn.2
  · refine Ok_of (y := (-1, μ)) (by simp [f_11_gift, isIn_eq, hn]) ?_
    exact Ok_of (y := (-1, ν)) (by simp [f_12_gift, within_eq, hn]) ⟨rfl, h⟩
