theorem so_ss_8 : ∀ k, k < 18 → k ≠ 8 → ¬ (so k = 0 ∧ ss k = 1) := by decide +kernel
set_option maxHeartbeats 1000000 in
theorem T_village {μ ν : mm} (h : Cp μ ν) : Ok (f_11_village 23 μ) fun z => Ok (f_12_village 0 ν) fun w => z.1 = w.1 ∧ Cp z.2 w.2 := by
  have e8 : ν 1 8 = μ 49 1 := h.1.1 8 (by decide)
  obtain ⟨⟨v1, v2, v3, v4, v5, v6, v7, v8, v9, v10, v11, v12⟩, ⟨i1, i2, i3, i4, i5, i6, i7, i8, i9, i10, i11, i12⟩, -⟩ := id h
  have b8 := i2.1
  by_cases c : μ 49 1 < 6
  · refine Ok_of (y := (μ 49 1, up μ 49 1 (μ 49 1 + 1))) (by simp [f_11_village, rf_23_0, pf_eq, c, up_app]) ?_
    have c6 : ¬ μ 49 1 = 6 := by clear i1 i2 i3 i4 i5 i6 i7 i8 i9 i10 i11 i12 v1 v2 v3 v4 v5 v6 v7 v8 v9 v10 v11 v12; grind
    refine Ok_of (y := (μ 49 1, up ν 1 8 (μ 49 1 + 1))) (by simp [f_12_village, rf_0_0, ld, sto, len_1, e8, up_app, c6]) ?_
    refine ⟨rfl, Cp_now h (fun b hb => up_ne (by omega)) (fun b hb => up_ne hb) ?_ ?_⟩
    ·
      refine ⟨?_, ?_, ?_, ?_, ?_, ?_, ?_, ?_, ?_, ?_, ?_, ?_⟩
      · intro k hk
        have hv := v1 k hk
        by_cases e : k = 8
        · subst e; simp [up_app, so, ss]
        · have h9 := so_ss_8 k hk e
          clear h i1 i2 i3 i4 i5 i6 i7 i8 i9 i10 i11 i12 v1 v2 v3 v4 v5 v6 v7 v8 v9 v10 v11 v12
          simp only [up_app]
          grind
      · clear h i1 i2 i3 i4 i5 i6 i7 i8 i9 i10 i11 i12 v1 v3 v4 v5 v6 v7 v8 v9 v10 v11 v12; simp only [up_app]; grind
      · clear h i1 i2 i3 i4 i5 i6 i7 i8 i9 i10 i11 i12 v1 v2 v4 v5 v6 v7 v8 v9 v10 v11 v12; simp only [up_app]; grind
      · clear h i1 i2 i3 i4 i5 i6 i7 i8 i9 i10 i11 i12 v1 v2 v3 v5 v6 v7 v8 v9 v10 v11 v12; simp only [up_app]; grind
      · clear h i1 i2 i3 i4 i5 i6 i7 i8 i9 i10 i11 i12 v1 v2 v3 v4 v6 v7 v8 v9 v10 v11 v12; simp only [up_app]; grind
      · clear h i1 i2 i3 i4 i5 i6 i7 i8 i9 i10 i11 i12 v1 v2 v3 v4 v5 v7 v8 v9 v10 v11 v12; simp only [up_app]; grind
      · clear h i1 i2 i3 i4 i5 i6 i7 i8 i9 i10 i11 i12 v1 v2 v3 v4 v5 v6 v8 v9 v10 v11 v12; simp only [up_app]; grind
      · clear h i1 i2 i3 i4 i5 i6 i7 i8 i9 i10 i11 i12 v1 v2 v3 v4 v5 v6 v7 v9 v10 v11 v12; simp only [up_app]; grind
      · clear h i1 i2 i3 i4 i5 i6 i7 i8 i9 i10 i11 i12 v1 v2 v3 v4 v5 v6 v7 v8 v10 v11 v12; simp only [up_app]; grind
      · clear h i1 i2 i3 i4 i5 i6 i7 i8 i9 i10 i11 i12 v1 v2 v3 v4 v5 v6 v7 v8 v9 v11 v12; simp only [up_app]; grind
      · clear h i1 i2 i3 i4 i5 i6 i7 i8 i9 i10 i11 i12 v1 v2 v3 v4 v5 v6 v7 v8 v9 v10 v12; simp only [up_app]; grind
      · intro s hs
        exact RC_congr hs (fun k a b => by clear h i1 i2 i3 i4 i5 i6 i7 i8 i9 i10 i11 i12 v1 v2 v3 v4 v5 v6 v7 v8 v9 v10 v11 v12; simp only [up_app]; grind) (fun b a c => by clear h i1 i2 i3 i4 i5 i6 i7 i8 i9 i10 i11 i12 v1 v2 v3 v4 v5 v6 v7 v8 v9 v10 v11 v12; funext k; simp only [up_app]; grind) (v12 s hs)
    ·
      refine ⟨?_, ?_, ?_, ?_, ?_, ?_, ?_, ?_, ?_, ?_, ?_, ?_⟩
      · clear h v1 v2 v3 v4 v5 v6 v7 v8 v9 v10 v11 v12 i2 i3 i4 i5 i6 i7 i8 i9 i10 i11 i12; simp only [up_app]; grind
      · clear h v1 v2 v3 v4 v5 v6 v7 v8 v9 v10 v11 v12 i1 i3 i4 i5 i6 i7 i8 i9 i10 i11 i12; simp only [up_app]; grind
      · clear h v1 v2 v3 v4 v5 v6 v7 v8 v9 v10 v11 v12 i1 i2 i4 i5 i6 i7 i8 i9 i10 i11 i12; simp only [up_app]; grind
      · clear h v1 v2 v3 v4 v5 v6 v7 v8 v9 v10 v11 v12 i1 i2 i3 i5 i6 i7 i8 i9 i10 i11 i12; simp only [up_app]; grind
      · clear h v1 v2 v3 v4 v5 v6 v7 v8 v9 v10 v11 v12 i1 i2 i3 i4 i6 i7 i8 i9 i10 i11 i12; simp only [up_app]; grind
      · clear h v1 v2 v3 v4 v5 v6 v7 v8 v9 v10 v11 v12 i1 i2 i3 i4 i5 i7 i8 i9 i10 i11 i12; simp only [up_app]; grind
      · clear h v1 v2 v3 v4 v5 v6 v7 v8 v9 v10 v11 v12 i1 i2 i3 i4 i5 i6 i8 i9 i10 i11 i12; simp only [up_app]; grind
      · clear h v1 v2 v3 v4 v5 v6 v7 v8 v9 v10 v11 v12 i1 i2 i3 i4 i5 i6 i7 i9 i10 i11 i12; simp only [up_app]; grind
      · clear h v1 v2 v3 v4 v5 v6 v7 v8 v9 v10 v11 v12 i1 i2 i3 i4 i5 i6 i7 i8 i10 i11 i12; simp only [up_app]; grind
      · clear h v1 v2 v3 v4 v5 v6 v7 v8 v9 v10 v11 v12 i1 i2 i3 i4 i5 i6 i7 i8 i9 i11 i12; simp only [up_app]; grind
      · clear h v1 v2 v3 v4 v5 v6 v7 v8 v9 v10 v11 v12 i1 i2 i3 i4 i5 i6 i7 i8 i9 i10 i12; simp only [up_app]; grind
      · clear h v1 v2 v3 v4 v5 v6 v7 v8 v9 v10 v11 v12 i1 i2 i3 i4 i5 i6 i7 i8 i9 i10 i11; simp only [up_app]; grind
  · have c6 : μ 49 1 = 6 := by clear i1 i2 i3 i4 i5 i6 i7 i8 i9 i10 i11 i12 v1 v2 v3 v4 v5 v6 v7 v8 v9 v10 v11 v12; grind
    refine Ok_of (y := (-2, μ)) (by simp [f_11_village, rf_23_0, c]) ?_
    exact Ok_of (y := (-2, ν)) (by simp [f_12_village, rf_0_0, ld, len_1, e8, c6]) ⟨rfl, h⟩
