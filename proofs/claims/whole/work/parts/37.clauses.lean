/-! the clauses of VP and IV one by one -/
abbrev V1 (v : Nat) (μ : mm) (g : Nat → Int32) : Prop := ∀ k, k < 18 → g k = μ (v + so k) (ss k)
abbrev V2 (v : Nat) (μ : mm) (g : Nat → Int32) : Prop := ∀ a b, a < 6 → b < 6 → g (20 + 6 * a + b) = μ (v + 2 + a) b
abbrev V3 (v : Nat) (μ : mm) (g : Nat → Int32) : Prop := ∀ p f, p < nn (g 9) → f < 7 → g (56 + 7 * p + f) = pv f (μ (v + 52 + p) (pm f))
abbrev V4 (v : Nat) (μ : mm) (g : Nat → Int32) : Prop := ∀ s f, s < nn (g 10) → f < 3 → g (84 + 3 * s + f) = μ (v + 56 + s) f
abbrev V5 (v : Nat) (μ : mm) (g : Nat → Int32) : Prop := ∀ h f, h < nn (g 11) → f < 12 → g (96 + 12 * h + f) = μ (v + 60 + h) f
abbrev V6 (v : Nat) (μ : mm) (g : Nat → Int32) : Prop := ∀ j, j < nn (g 12) → g (771 + 3 * j) = μ (v + 16) j ∧ g (771 + 3 * j + 1) = μ (v + 18) j ∧ g (771 + 3 * j + 2) = μ (v + 17) j
abbrev V7 (v : Nat) (μ : mm) (g : Nat → Int32) : Prop := ∀ j, j < 12 → (μ (v + 21) j = 0 ∨ μ (v + 21) j = 1) ∧ (j < nn (g 13) → g (807 + 3 * j) = μ (v + 19) j ∧ g (807 + 3 * j + 1) = μ (v + 20) j ∧ g (807 + 3 * j + 2) = μ (v + 21) j)
abbrev V8 (v : Nat) (μ : mm) (g : Nat → Int32) : Prop := ∀ j, j < nn (g 14) → g (843 + 2 * j) = μ (v + 13) j ∧ g (843 + 2 * j + 1) = μ (v + 14) j
abbrev V9 (v : Nat) (μ : mm) (g : Nat → Int32) : Prop := ∀ j, j < nn (g 15) → g (855 + j) = μ (v + 23) j
abbrev V10 (v : Nat) (μ : mm) (g : Nat → Int32) : Prop := ∀ j, j < nn (g 16) → g (859 + j) = μ (v + 24) j
abbrev V11 (v : Nat) (μ : mm) (g : Nat → Int32) : Prop := ∀ c, c < nn (g 17) → g (867 + 5 * c) = μ (v + 37) c ∧ ∀ p, p < 4 → g (867 + 5 * c + 1 + p) = μ (v + 39 + c) p
abbrev V12 (v : Nat) (μ : mm) (g : Nat → Int32) : Prop := ∀ s, s < 3 → RC v μ g s
abbrev I1 (g : Nat → Int32) : Prop := (0 ≤ g 0 ∧ g 0 ≤ 999) ∧ (0 ≤ g 1 ∧ g 1 ≤ 99999) ∧ (0 ≤ g 2 ∧ g 2 ≤ 99999) ∧ (g 3 = 0 ∨ g 3 = 1) ∧ (0 ≤ g 4 ∧ g 4 ≤ 999) ∧ (0 ≤ g 5 ∧ g 5 ≤ 9) ∧ (0 ≤ g 6 ∧ g 6 ≤ 99999) ∧ (0 ≤ g 7 ∧ g 7 ≤ 99999)
abbrev I2 (g : Nat → Int32) : Prop := (0 ≤ g 8 ∧ g 8 ≤ 6) ∧ (0 ≤ g 9 ∧ g 9 ≤ 4) ∧ (0 ≤ g 10 ∧ g 10 ≤ 4) ∧ (0 ≤ g 11 ∧ g 11 ≤ 16) ∧ (0 ≤ g 12 ∧ g 12 ≤ 12) ∧ (0 ≤ g 13 ∧ g 13 ≤ 12) ∧ (0 ≤ g 14 ∧ g 14 ≤ 6) ∧ (0 ≤ g 15 ∧ g 15 ≤ 4) ∧ (0 ≤ g 16 ∧ g 16 ≤ 8) ∧ (0 ≤ g 17 ∧ g 17 ≤ 9)
abbrev I3 (g : Nat → Int32) : Prop := ∀ a b, a < 6 → b < 6 → 0 ≤ g (20 + 6 * a + b) ∧ g (20 + 6 * a + b) ≤ 9
abbrev I4 (g : Nat → Int32) : Prop := ∀ p, p < nn (g 9) → (0 ≤ g (56 + 7 * p) ∧ g (56 + 7 * p) < g 8) ∧ (0 ≤ g (57 + 7 * p) ∧ g (57 + 7 * p) ≤ 20000) ∧ (1 ≤ g (58 + 7 * p) ∧ g (58 + 7 * p) ≤ 50) ∧ (0 ≤ g (59 + 7 * p) ∧ g (59 + 7 * p) ≤ 50) ∧ (1 ≤ g (60 + 7 * p) ∧ g (60 + 7 * p) ≤ 9999) ∧ (g (61 + 7 * p) = -3 ∨ (0 ≤ g (61 + 7 * p) ∧ g (61 + 7 * p) ≤ 999)) ∧ (g (61 + 7 * p) = -3 → g (57 + 7 * p) ≤ g (60 + 7 * p)) ∧ (0 ≤ g (62 + 7 * p) ∧ g (62 + 7 * p) ≤ 900)
abbrev I5 (g : Nat → Int32) : Prop := ∀ s, s < nn (g 10) → (0 ≤ g (84 + 3 * s) ∧ g (84 + 3 * s) < g 8) ∧ g (85 + 3 * s) ≤ 999 ∧ 0 ≤ g (86 + 3 * s) ∧ g (86 + 3 * s) ≤ g (85 + 3 * s)
abbrev I6 (g : Nat → Int32) : Prop := ∀ h, h < nn (g 11) → (0 ≤ g (96 + 12 * h) ∧ g (96 + 12 * h) < g 8) ∧ (0 ≤ g (97 + 12 * h) ∧ g (97 + 12 * h) < g 9) ∧ (1 ≤ g (98 + 12 * h) ∧ g (98 + 12 * h) ≤ 9) ∧ (0 ≤ g (99 + 12 * h) ∧ g (99 + 12 * h) ≤ 9) ∧ (0 ≤ g (100 + 12 * h) ∧ g (100 + 12 * h) ≤ 99) ∧ (0 ≤ g (101 + 12 * h) ∧ g (101 + 12 * h) ≤ 99) ∧ (0 ≤ g (102 + 12 * h) ∧ g (102 + 12 * h) ≤ 999) ∧ (g (106 + 12 * h) = 0 ∨ g (106 + 12 * h) = 1) ∧ (g (107 + 12 * h) = 0 ∨ g (107 + 12 * h) = 1) ∧ (g (107 + 12 * h) = 1 → g (99 + 12 * h) = 0)
abbrev I7 (g : Nat → Int32) : Prop := ∀ j, j < nn (g 12) → (0 ≤ g (771 + 3 * j) ∧ g (771 + 3 * j) < g 8) ∧ (0 ≤ g (772 + 3 * j) ∧ g (772 + 3 * j) ≤ 999) ∧ (-20 ≤ g (773 + 3 * j) ∧ g (773 + 3 * j) ≤ 20)
abbrev I8 (g : Nat → Int32) : Prop := ∀ j, j < nn (g 13) → (0 ≤ g (807 + 3 * j) ∧ g (807 + 3 * j) < g 11) ∧ (0 ≤ g (808 + 3 * j) ∧ g (808 + 3 * j) ≤ 999) ∧ (g (809 + 3 * j) = 0 ∨ g (809 + 3 * j) = 1)
abbrev I9 (g : Nat → Int32) : Prop := ∀ j, j < nn (g 14) → (g 0 < g (843 + 2 * j) ∧ g (843 + 2 * j) ≤ 999) ∧ (1 ≤ g (844 + 2 * j) ∧ g (844 + 2 * j) ≤ 9999)
abbrev I10 (g : Nat → Int32) : Prop := ∀ j, j < nn (g 15) → 0 ≤ g (855 + j) ∧ g (855 + j) < g 8
abbrev I11 (g : Nat → Int32) : Prop := ∀ j, j < nn (g 16) → 0 ≤ g (859 + j) ∧ g (859 + j) < g 8
abbrev I12 (g : Nat → Int32) : Prop := ∀ c, c < nn (g 17) → (0 ≤ g (867 + 5 * c) ∧ g (867 + 5 * c) ≤ 99) ∧ ∀ p, p < 4 → (0 ≤ g (868 + 5 * c + p) ∧ g (868 + 5 * c + p) ≤ 99) ∧ (nn (g 9) ≤ p → g (868 + 5 * c + p) = 0)
abbrev NN (g : Nat → Int32) : Prop := nn (g 9) ≤ 4 ∧ nn (g 10) ≤ 4 ∧ nn (g 11) ≤ 16 ∧ nn (g 12) ≤ 12 ∧ nn (g 13) ≤ 12 ∧ nn (g 14) ≤ 6 ∧ nn (g 15) ≤ 4 ∧ nn (g 16) ≤ 8 ∧ nn (g 17) ≤ 9
theorem so_in18 : ∀ k, k < 18 → so k = 0 ∨ so k = 12 ∨ so k = 15 ∨ so k = 22 ∨ so k = 36 := by decide +kernel
theorem V1_cg {v : Nat} {μ μ' : mm} {g g' : Nat → Int32} (hN : NN g) (hg : ∀ k, (k < 18) → g' k = g k) (hm : ∀ b, (b = v ∨ b = v + 12 ∨ b = v + 15 ∨ b = v + 22 ∨ b = v + 36) → μ' b = μ b) (h : V1 v μ g) : V1 v μ' g' := by
  intro k hk
  have hs := so_in18 k hk
  rw [hg k hk, hm _ (by omega)]
  exact h k hk
theorem V1_up {v k0 c s : Nat} {μ μ' : mm} {g g' : Nat → Int32} (hk : k0 < 18) (hc : so k0 = c) (hs : ss k0 = s) (hx : g' k0 = μ' (v + c) s) (hg : ∀ k, k < 18 → k ≠ k0 → g' k = g k) (hm : ∀ b j, (b = v ∨ b = v + 12 ∨ b = v + 15 ∨ b = v + 22 ∨ b = v + 36) → ¬ (b = v + c ∧ j = s) → μ' b j = μ b j) (h : V1 v μ g) : V1 v μ' g' := by
  intro k hk1
  have hs1 := so_in18 k hk1
  by_cases e : k = k0
  · subst e; rw [hx, hc, hs]
  · rw [hg k hk1 e, hm _ _ (by omega) (fun q => e (so_inj k hk1 k0 hk ⟨by omega, by omega⟩))]
    exact h k hk1
theorem V2_cg {v : Nat} {μ μ' : mm} {g g' : Nat → Int32} (hN : NN g) (hg : ∀ k, (20 ≤ k ∧ k < 56) → g' k = g k) (hm : ∀ b, (v + 2 ≤ b ∧ b < v + 8) → μ' b = μ b) (h : V2 v μ g) : V2 v μ' g' := by
  intro a b ha hb
  rw [hg _ (by omega), hm _ (by omega)]
  exact h a b ha hb
theorem V3_cg {v : Nat} {μ μ' : mm} {g g' : Nat → Int32} (hN : NN g) (hg : ∀ k, (k = 9 ∨ 56 ≤ k ∧ k < 84) → g' k = g k) (hm : ∀ b, (v + 52 ≤ b ∧ b < v + 56) → μ' b = μ b) (h : V3 v μ g) : V3 v μ' g' := by
  intro p f hp hf
  rw [hg 9 (by omega)] at hp
  rw [hg _ (by omega), hm _ (by omega)]
  exact h p f hp hf
theorem V4_cg {v : Nat} {μ μ' : mm} {g g' : Nat → Int32} (hN : NN g) (hg : ∀ k, (k = 10 ∨ 84 ≤ k ∧ k < 96) → g' k = g k) (hm : ∀ b, (v + 56 ≤ b ∧ b < v + 60) → μ' b = μ b) (h : V4 v μ g) : V4 v μ' g' := by
  intro p f hp hf
  rw [hg 10 (by omega)] at hp
  rw [hg _ (by omega), hm _ (by omega)]
  exact h p f hp hf
theorem V5_cg {v : Nat} {μ μ' : mm} {g g' : Nat → Int32} (hN : NN g) (hg : ∀ k, (k = 11 ∨ 96 ≤ k ∧ k < 288) → g' k = g k) (hm : ∀ b, (v + 60 ≤ b ∧ b < v + 76) → μ' b = μ b) (h : V5 v μ g) : V5 v μ' g' := by
  intro p f hp hf
  rw [hg 11 (by omega)] at hp
  rw [hg _ (by omega), hm _ (by omega)]
  exact h p f hp hf
theorem V6_cg {v : Nat} {μ μ' : mm} {g g' : Nat → Int32} (hN : NN g) (hg : ∀ k, (k = 12 ∨ 771 ≤ k ∧ k < 807) → g' k = g k) (hm : ∀ b, (b = v + 16 ∨ b = v + 17 ∨ b = v + 18) → μ' b = μ b) (h : V6 v μ g) : V6 v μ' g' := by
  intro j hj
  rw [hg 12 (by omega)] at hj
  rw [hg _ (by omega), hg _ (by omega), hg _ (by omega), hm _ (by omega), hm _ (by omega), hm _ (by omega)]
  exact h j hj
theorem V8_cg {v : Nat} {μ μ' : mm} {g g' : Nat → Int32} (hN : NN g) (hg : ∀ k, (k = 14 ∨ 843 ≤ k ∧ k < 855) → g' k = g k) (hm : ∀ b, (b = v + 13 ∨ b = v + 14) → μ' b = μ b) (h : V8 v μ g) : V8 v μ' g' := by
  intro j hj
  rw [hg 14 (by omega)] at hj
  rw [hg _ (by omega), hg _ (by omega), hm _ (by omega), hm _ (by omega)]
  exact h j hj
theorem V9_cg {v : Nat} {μ μ' : mm} {g g' : Nat → Int32} (hN : NN g) (hg : ∀ k, (k = 15 ∨ 855 ≤ k ∧ k < 859) → g' k = g k) (hm : ∀ b, (b = v + 23) → μ' b = μ b) (h : V9 v μ g) : V9 v μ' g' := by
  intro j hj
  rw [hg 15 (by omega)] at hj
  rw [hg _ (by omega), hm _ (by omega)]
  exact h j hj
theorem V10_cg {v : Nat} {μ μ' : mm} {g g' : Nat → Int32} (hN : NN g) (hg : ∀ k, (k = 16 ∨ 859 ≤ k ∧ k < 867) → g' k = g k) (hm : ∀ b, (b = v + 24) → μ' b = μ b) (h : V10 v μ g) : V10 v μ' g' := by
  intro j hj
  rw [hg 16 (by omega)] at hj
  rw [hg _ (by omega), hm _ (by omega)]
  exact h j hj
theorem V7_cg {v : Nat} {μ μ' : mm} {g g' : Nat → Int32} (hN : NN g) (hg : ∀ k, (k = 13 ∨ 807 ≤ k ∧ k < 843) → g' k = g k) (hm : ∀ b, (b = v + 19 ∨ b = v + 20 ∨ b = v + 21) → μ' b = μ b) (h : V7 v μ g) : V7 v μ' g' := by
  intro j hj
  rw [hm (v + 21) (by omega)]
  refine ⟨(h j hj).1, fun hj2 => ?_⟩
  rw [hg 13 (by omega)] at hj2
  rw [hg _ (by omega), hg _ (by omega), hg _ (by omega), hm _ (by omega), hm _ (by omega)]
  exact (h j hj).2 hj2
theorem V11_cg {v : Nat} {μ μ' : mm} {g g' : Nat → Int32} (hN : NN g) (hg : ∀ k, (k = 17 ∨ 867 ≤ k ∧ k < 912) → g' k = g k) (hm : ∀ b, (b = v + 37 ∨ v + 39 ≤ b ∧ b < v + 48) → μ' b = μ b) (h : V11 v μ g) : V11 v μ' g' := by
  intro c hc
  rw [hg 17 (by omega)] at hc
  obtain ⟨q1, q2⟩ := h c hc
  refine ⟨?_, fun p hp => ?_⟩
  · rw [hg _ (by omega), hm _ (by omega)]
    exact q1
  · rw [hg _ (by omega), hm _ (by omega)]
    exact q2 p hp
theorem V12_cg {v : Nat} {μ μ' : mm} {g g' : Nat → Int32} (hN : NN g) (hg : ∀ k, (288 ≤ k ∧ k < 771) → g' k = g k) (hm : ∀ b, (v + 76 ≤ b ∧ b < v + 94) → μ' b = μ b) (h : V12 v μ g) : V12 v μ' g' := by
  intro s hs
  exact RC_congr hs (fun k a b => hg k ⟨a, b⟩) (fun b a c => hm b ⟨a, c⟩) (h s hs)
theorem I1_cg {g g' : Nat → Int32} (hN : NN g) (hg : ∀ k, (k < 8) → g' k = g k) (h : I1 g) : I1 g' := by
  unfold I1
  simp only [hg 0 (by omega), hg 1 (by omega), hg 2 (by omega), hg 3 (by omega), hg 4 (by omega), hg 5 (by omega), hg 6 (by omega), hg 7 (by omega)]
  exact h
theorem I2_cg {g g' : Nat → Int32} (hN : NN g) (hg : ∀ k, (8 ≤ k ∧ k < 18) → g' k = g k) (h : I2 g) : I2 g' := by
  unfold I2
  simp only [hg 8 (by omega), hg 9 (by omega), hg 10 (by omega), hg 11 (by omega), hg 12 (by omega), hg 13 (by omega), hg 14 (by omega), hg 15 (by omega), hg 16 (by omega), hg 17 (by omega)]
  exact h
theorem I3_cg {g g' : Nat → Int32} (hN : NN g) (hg : ∀ k, (20 ≤ k ∧ k < 56) → g' k = g k) (h : I3 g) : I3 g' := by
  intro a b ha hb
  rw [hg _ (by omega)]
  exact h a b ha hb
theorem I4_cg {g g' : Nat → Int32} (hN : NN g) (hg : ∀ k, (k = 8 ∨ k = 9 ∨ 56 ≤ k ∧ k < 84) → g' k = g k) (h : I4 g) : I4 g' := by
  intro p hp
  rw [hg 9 (by omega)] at hp
  have q := h p hp
  simp only [hg 8 (by omega), hg (56 + 7 * p) (by omega), hg (57 + 7 * p) (by omega), hg (58 + 7 * p) (by omega), hg (59 + 7 * p) (by omega), hg (60 + 7 * p) (by omega), hg (61 + 7 * p) (by omega), hg (62 + 7 * p) (by omega)]
  exact q
theorem I5_cg {g g' : Nat → Int32} (hN : NN g) (hg : ∀ k, (k = 8 ∨ k = 10 ∨ 84 ≤ k ∧ k < 96) → g' k = g k) (h : I5 g) : I5 g' := by
  intro p hp
  rw [hg 10 (by omega)] at hp
  have q := h p hp
  simp only [hg 8 (by omega), hg (84 + 3 * p) (by omega), hg (85 + 3 * p) (by omega), hg (86 + 3 * p) (by omega)]
  exact q
theorem I6_cg {g g' : Nat → Int32} (hN : NN g) (hg : ∀ k, (k = 8 ∨ k = 9 ∨ k = 11 ∨ 96 ≤ k ∧ k < 288) → g' k = g k) (h : I6 g) : I6 g' := by
  intro p hp
  rw [hg 11 (by omega)] at hp
  have q := h p hp
  simp only [hg 8 (by omega), hg 9 (by omega), hg (96 + 12 * p) (by omega), hg (97 + 12 * p) (by omega), hg (98 + 12 * p) (by omega), hg (99 + 12 * p) (by omega), hg (100 + 12 * p) (by omega), hg (101 + 12 * p) (by omega), hg (102 + 12 * p) (by omega), hg (103 + 12 * p) (by omega), hg (104 + 12 * p) (by omega), hg (105 + 12 * p) (by omega), hg (106 + 12 * p) (by omega), hg (107 + 12 * p) (by omega)]
  exact q
theorem I7_cg {g g' : Nat → Int32} (hN : NN g) (hg : ∀ k, (k = 8 ∨ k = 12 ∨ 771 ≤ k ∧ k < 807) → g' k = g k) (h : I7 g) : I7 g' := by
  intro p hp
  rw [hg 12 (by omega)] at hp
  have q := h p hp
  simp only [hg 8 (by omega), hg (771 + 3 * p) (by omega), hg (772 + 3 * p) (by omega), hg (773 + 3 * p) (by omega)]
  exact q
theorem I8_cg {g g' : Nat → Int32} (hN : NN g) (hg : ∀ k, (k = 11 ∨ k = 13 ∨ 807 ≤ k ∧ k < 843) → g' k = g k) (h : I8 g) : I8 g' := by
  intro p hp
  rw [hg 13 (by omega)] at hp
  have q := h p hp
  simp only [hg 11 (by omega), hg (807 + 3 * p) (by omega), hg (808 + 3 * p) (by omega), hg (809 + 3 * p) (by omega)]
  exact q
theorem I9_cg {g g' : Nat → Int32} (hN : NN g) (hg : ∀ k, (k = 0 ∨ k = 14 ∨ 843 ≤ k ∧ k < 855) → g' k = g k) (h : I9 g) : I9 g' := by
  intro p hp
  rw [hg 14 (by omega)] at hp
  have q := h p hp
  simp only [hg 0 (by omega), hg (843 + 2 * p) (by omega), hg (844 + 2 * p) (by omega)]
  exact q
theorem I10_cg {g g' : Nat → Int32} (hN : NN g) (hg : ∀ k, (k = 8 ∨ k = 15 ∨ 855 ≤ k ∧ k < 859) → g' k = g k) (h : I10 g) : I10 g' := by
  intro p hp
  rw [hg 15 (by omega)] at hp
  have q := h p hp
  simp only [hg 8 (by omega), hg (855 + p) (by omega)]
  exact q
theorem I11_cg {g g' : Nat → Int32} (hN : NN g) (hg : ∀ k, (k = 8 ∨ k = 16 ∨ 859 ≤ k ∧ k < 867) → g' k = g k) (h : I11 g) : I11 g' := by
  intro p hp
  rw [hg 16 (by omega)] at hp
  have q := h p hp
  simp only [hg 8 (by omega), hg (859 + p) (by omega)]
  exact q
theorem I12_cg {g g' : Nat → Int32} (hN : NN g) (hg : ∀ k, (k = 9 ∨ k = 17 ∨ 867 ≤ k ∧ k < 912) → g' k = g k) (h : I12 g) : I12 g' := by
  intro c hc
  rw [hg 17 (by omega)] at hc
  obtain ⟨q1, q2⟩ := h c hc
  refine ⟨?_, fun p hp => ?_⟩
  · rw [hg _ (by omega)]
    exact q1
  · rw [hg 9 (by omega), hg _ (by omega)]
    exact q2 p hp
/-! running: reads and writes of the model's row, counts -/
theorem ld1 {μ : mm} {k : Nat} (h : k < 912) : ld μ 1 (nI k) = some (μ 1 k) := ld_nI (by rw [len_1]; exact h) (by decide)
theorem sto1 {μ : mm} {k : Nat} {v : Int32} (h : k < 912) : sto μ 1 (nI k) v = some (up μ 1 k v) := sto_nI (by rw [len_1]; exact h) (by decide)
theorem is_eq {ν : mm} {a : Int32} {k : Nat} (h : k < 912) : f_12_is 0 a (nI k) ν = some (if 0 ≤ a ∧ a ≤ ν 1 k - 1 then 1 else 0) := by
  unfold f_12_is
  rw [rf_0_0, ld1 h]
  by_cases c : 0 ≤ a ∧ a ≤ ν 1 k - 1
  · simp [within_eq, c, gb_1]
  · simp [within_eq, c, gb_0]
theorem hasV_eq {μ : mm} {v : Nat} {a : Int32} : f_9_hasVillage v a μ = some (if 0 ≤ a ∧ a ≤ μ v 1 - 1 then 1 else 0) := by
  unfold f_9_hasVillage
  by_cases c : 0 ≤ a ∧ a ≤ μ v 1 - 1
  · simp [isIn_eq, c, gb_1]
  · simp [isIn_eq, c, gb_0]
theorem hasP_eq {μ : mm} {v : Nat} {a : Int32} : f_9_hasPit v a μ = some (if 0 ≤ a ∧ a ≤ μ v 2 - 1 then 1 else 0) := by
  unfold f_9_hasPit
  by_cases c : 0 ≤ a ∧ a ≤ μ v 2 - 1
  · simp [isIn_eq, c, gb_1]
  · simp [isIn_eq, c, gb_0]
theorem hasS_eq {μ : mm} {v : Nat} {a : Int32} : f_9_hasShop v a μ = some (if 0 ≤ a ∧ a ≤ μ v 3 - 1 then 1 else 0) := by
  unfold f_9_hasShop
  by_cases c : 0 ≤ a ∧ a ≤ μ v 3 - 1
  · simp [isIn_eq, c, gb_1]
  · simp [isIn_eq, c, gb_0]
theorem hasH_eq {μ : mm} {v : Nat} {a : Int32} : f_9_hasHousehold v a μ = some (if 0 ≤ a ∧ a ≤ μ v 4 - 1 then 1 else 0) := by
  unfold f_9_hasHousehold
  by_cases c : 0 ≤ a ∧ a ≤ μ v 4 - 1
  · simp [isIn_eq, c, gb_1]
  · simp [isIn_eq, c, gb_0]
theorem l_0 {μ : mm} : ld μ 1 0 = some (μ 1 0) := ld1 (k := 0) (by decide)
theorem s_0 {μ : mm} {v : Int32} : sto μ 1 0 v = some (up μ 1 0 v) := sto1 (k := 0) (by decide)
theorem l_1 {μ : mm} : ld μ 1 1 = some (μ 1 1) := ld1 (k := 1) (by decide)
theorem s_1 {μ : mm} {v : Int32} : sto μ 1 1 v = some (up μ 1 1 v) := sto1 (k := 1) (by decide)
theorem l_2 {μ : mm} : ld μ 1 2 = some (μ 1 2) := ld1 (k := 2) (by decide)
theorem s_2 {μ : mm} {v : Int32} : sto μ 1 2 v = some (up μ 1 2 v) := sto1 (k := 2) (by decide)
theorem l_3 {μ : mm} : ld μ 1 3 = some (μ 1 3) := ld1 (k := 3) (by decide)
theorem s_3 {μ : mm} {v : Int32} : sto μ 1 3 v = some (up μ 1 3 v) := sto1 (k := 3) (by decide)
theorem l_4 {μ : mm} : ld μ 1 4 = some (μ 1 4) := ld1 (k := 4) (by decide)
theorem s_4 {μ : mm} {v : Int32} : sto μ 1 4 v = some (up μ 1 4 v) := sto1 (k := 4) (by decide)
theorem l_5 {μ : mm} : ld μ 1 5 = some (μ 1 5) := ld1 (k := 5) (by decide)
theorem s_5 {μ : mm} {v : Int32} : sto μ 1 5 v = some (up μ 1 5 v) := sto1 (k := 5) (by decide)
theorem l_6 {μ : mm} : ld μ 1 6 = some (μ 1 6) := ld1 (k := 6) (by decide)
theorem s_6 {μ : mm} {v : Int32} : sto μ 1 6 v = some (up μ 1 6 v) := sto1 (k := 6) (by decide)
theorem l_7 {μ : mm} : ld μ 1 7 = some (μ 1 7) := ld1 (k := 7) (by decide)
theorem s_7 {μ : mm} {v : Int32} : sto μ 1 7 v = some (up μ 1 7 v) := sto1 (k := 7) (by decide)
theorem l_8 {μ : mm} : ld μ 1 8 = some (μ 1 8) := ld1 (k := 8) (by decide)
theorem s_8 {μ : mm} {v : Int32} : sto μ 1 8 v = some (up μ 1 8 v) := sto1 (k := 8) (by decide)
theorem l_9 {μ : mm} : ld μ 1 9 = some (μ 1 9) := ld1 (k := 9) (by decide)
theorem s_9 {μ : mm} {v : Int32} : sto μ 1 9 v = some (up μ 1 9 v) := sto1 (k := 9) (by decide)
theorem l_10 {μ : mm} : ld μ 1 10 = some (μ 1 10) := ld1 (k := 10) (by decide)
theorem s_10 {μ : mm} {v : Int32} : sto μ 1 10 v = some (up μ 1 10 v) := sto1 (k := 10) (by decide)
theorem l_11 {μ : mm} : ld μ 1 11 = some (μ 1 11) := ld1 (k := 11) (by decide)
theorem s_11 {μ : mm} {v : Int32} : sto μ 1 11 v = some (up μ 1 11 v) := sto1 (k := 11) (by decide)
theorem l_12 {μ : mm} : ld μ 1 12 = some (μ 1 12) := ld1 (k := 12) (by decide)
theorem s_12 {μ : mm} {v : Int32} : sto μ 1 12 v = some (up μ 1 12 v) := sto1 (k := 12) (by decide)
theorem l_13 {μ : mm} : ld μ 1 13 = some (μ 1 13) := ld1 (k := 13) (by decide)
theorem s_13 {μ : mm} {v : Int32} : sto μ 1 13 v = some (up μ 1 13 v) := sto1 (k := 13) (by decide)
theorem l_14 {μ : mm} : ld μ 1 14 = some (μ 1 14) := ld1 (k := 14) (by decide)
theorem s_14 {μ : mm} {v : Int32} : sto μ 1 14 v = some (up μ 1 14 v) := sto1 (k := 14) (by decide)
theorem l_15 {μ : mm} : ld μ 1 15 = some (μ 1 15) := ld1 (k := 15) (by decide)
theorem s_15 {μ : mm} {v : Int32} : sto μ 1 15 v = some (up μ 1 15 v) := sto1 (k := 15) (by decide)
theorem l_16 {μ : mm} : ld μ 1 16 = some (μ 1 16) := ld1 (k := 16) (by decide)
theorem s_16 {μ : mm} {v : Int32} : sto μ 1 16 v = some (up μ 1 16 v) := sto1 (k := 16) (by decide)
theorem l_17 {μ : mm} : ld μ 1 17 = some (μ 1 17) := ld1 (k := 17) (by decide)
theorem s_17 {μ : mm} {v : Int32} : sto μ 1 17 v = some (up μ 1 17 v) := sto1 (k := 17) (by decide)
theorem is_8 {ν : mm} {a : Int32} : f_12_is 0 a 8 ν = some (if 0 ≤ a ∧ a ≤ ν 1 8 - 1 then 1 else 0) := is_eq (k := 8) (by decide)
theorem is_9 {ν : mm} {a : Int32} : f_12_is 0 a 9 ν = some (if 0 ≤ a ∧ a ≤ ν 1 9 - 1 then 1 else 0) := is_eq (k := 9) (by decide)
theorem is_10 {ν : mm} {a : Int32} : f_12_is 0 a 10 ν = some (if 0 ≤ a ∧ a ≤ ν 1 10 - 1 then 1 else 0) := is_eq (k := 10) (by decide)
theorem is_11 {ν : mm} {a : Int32} : f_12_is 0 a 11 ν = some (if 0 ≤ a ∧ a ≤ ν 1 11 - 1 then 1 else 0) := is_eq (k := 11) (by decide)
theorem is_12 {ν : mm} {a : Int32} : f_12_is 0 a 12 ν = some (if 0 ≤ a ∧ a ≤ ν 1 12 - 1 then 1 else 0) := is_eq (k := 12) (by decide)
theorem is_13 {ν : mm} {a : Int32} : f_12_is 0 a 13 ν = some (if 0 ≤ a ∧ a ≤ ν 1 13 - 1 then 1 else 0) := is_eq (k := 13) (by decide)
theorem is_14 {ν : mm} {a : Int32} : f_12_is 0 a 14 ν = some (if 0 ≤ a ∧ a ≤ ν 1 14 - 1 then 1 else 0) := is_eq (k := 14) (by decide)
theorem is_15 {ν : mm} {a : Int32} : f_12_is 0 a 15 ν = some (if 0 ≤ a ∧ a ≤ ν 1 15 - 1 then 1 else 0) := is_eq (k := 15) (by decide)
theorem is_16 {ν : mm} {a : Int32} : f_12_is 0 a 16 ν = some (if 0 ≤ a ∧ a ≤ ν 1 16 - 1 then 1 else 0) := is_eq (k := 16) (by decide)
theorem is_17 {ν : mm} {a : Int32} : f_12_is 0 a 17 ν = some (if 0 ≤ a ∧ a ≤ ν 1 17 - 1 then 1 else 0) := is_eq (k := 17) (by decide)
theorem nI_p2 (a : Nat) : nI a + 2 = nI (a + 2) := nI_add a 2
theorem nI_p3 (a : Nat) : nI a + 3 = nI (a + 3) := nI_add a 3
theorem nI_p4 (a : Nat) : nI a + 4 = nI (a + 4) := nI_add a 4
theorem nI_p5 (a : Nat) : nI a + 5 = nI (a + 5) := nI_add a 5
theorem nI_p6 (a : Nat) : nI a + 6 = nI (a + 6) := nI_add a 6
theorem nI_p7 (a : Nat) : nI a + 7 = nI (a + 7) := nI_add a 7
theorem nI_p8 (a : Nat) : nI a + 8 = nI (a + 8) := nI_add a 8
theorem nI_p9 (a : Nat) : nI a + 9 = nI (a + 9) := nI_add a 9
theorem nI_p10 (a : Nat) : nI a + 10 = nI (a + 10) := nI_add a 10
theorem nI_p11 (a : Nat) : nI a + 11 = nI (a + 11) := nI_add a 11
theorem nI_p12 (a : Nat) : nI a + 12 = nI (a + 12) := nI_add a 12
theorem nI_p0 (a : Nat) : nI a + 0 = nI a := nI_add a 0
theorem ix_771_ (n : Nat) : (771 + 3 * nI n : Int32) = nI (771 + 3 * n) := by rw [show (771 : Int32) = nI 771 from rfl, show (3 : Int32) = nI 3 from rfl, pk_mul, nI_add]
theorem ix_807_ (n : Nat) : (807 + 3 * nI n : Int32) = nI (807 + 3 * n) := by rw [show (807 : Int32) = nI 807 from rfl, show (3 : Int32) = nI 3 from rfl, pk_mul, nI_add]
theorem ix_843_ (n : Nat) : (843 + 2 * nI n : Int32) = nI (843 + 2 * n) := by rw [show (843 : Int32) = nI 843 from rfl, show (2 : Int32) = nI 2 from rfl, pk_mul, nI_add]
theorem ix_867_ (n : Nat) : (867 + 5 * nI n : Int32) = nI (867 + 5 * n) := by rw [show (867 : Int32) = nI 867 from rfl, show (5 : Int32) = nI 5 from rfl, pk_mul, nI_add]
theorem ix_20_ (n : Nat) : (20 + 6 * nI n : Int32) = nI (20 + 6 * n) := by rw [show (20 : Int32) = nI 20 from rfl, show (6 : Int32) = nI 6 from rfl, pk_mul, nI_add]
theorem ix_56_ (n : Nat) : (56 + 7 * nI n : Int32) = nI (56 + 7 * n) := by rw [show (56 : Int32) = nI 56 from rfl, show (7 : Int32) = nI 7 from rfl, pk_mul, nI_add]
theorem ix_84_ (n : Nat) : (84 + 3 * nI n : Int32) = nI (84 + 3 * n) := by rw [show (84 : Int32) = nI 84 from rfl, show (3 : Int32) = nI 3 from rfl, pk_mul, nI_add]
theorem ix_96_ (n : Nat) : (96 + 12 * nI n : Int32) = nI (96 + 12 * n) := by rw [show (96 : Int32) = nI 96 from rfl, show (12 : Int32) = nI 12 from rfl, pk_mul, nI_add]
theorem ix_855_ (n : Nat) : (855 + nI n : Int32) = nI (855 + n) := by rw [show (855 : Int32) = nI 855 from rfl, nI_add]
theorem ix_859_ (n : Nat) : (859 + nI n : Int32) = nI (859 + n) := by rw [show (859 : Int32) = nI 859 from rfl, nI_add]
theorem ne_4 {a : Nat} (h : a < 4) : ¬ nI a = 4 := fun q => absurd ((nI_eq (b := 4) (by omega) (by decide)).mp q) (by omega)
theorem lt_4 {a : Nat} (h : a < 4) : nI a < 4 := nI_lt (b := 4) h (by decide)
theorem nle_4 {a : Nat} (h : a < 4) : ¬ 4 ≤ nI a := nI_ge (b := 4) h (by decide)
theorem ne_6 {a : Nat} (h : a < 6) : ¬ nI a = 6 := fun q => absurd ((nI_eq (b := 6) (by omega) (by decide)).mp q) (by omega)
theorem lt_6 {a : Nat} (h : a < 6) : nI a < 6 := nI_lt (b := 6) h (by decide)
theorem nle_6 {a : Nat} (h : a < 6) : ¬ 6 ≤ nI a := nI_ge (b := 6) h (by decide)
theorem ne_8 {a : Nat} (h : a < 8) : ¬ nI a = 8 := fun q => absurd ((nI_eq (b := 8) (by omega) (by decide)).mp q) (by omega)
theorem lt_8 {a : Nat} (h : a < 8) : nI a < 8 := nI_lt (b := 8) h (by decide)
theorem nle_8 {a : Nat} (h : a < 8) : ¬ 8 ≤ nI a := nI_ge (b := 8) h (by decide)
theorem ne_9 {a : Nat} (h : a < 9) : ¬ nI a = 9 := fun q => absurd ((nI_eq (b := 9) (by omega) (by decide)).mp q) (by omega)
theorem lt_9 {a : Nat} (h : a < 9) : nI a < 9 := nI_lt (b := 9) h (by decide)
theorem nle_9 {a : Nat} (h : a < 9) : ¬ 9 ≤ nI a := nI_ge (b := 9) h (by decide)
theorem ne_12 {a : Nat} (h : a < 12) : ¬ nI a = 12 := fun q => absurd ((nI_eq (b := 12) (by omega) (by decide)).mp q) (by omega)
theorem lt_12 {a : Nat} (h : a < 12) : nI a < 12 := nI_lt (b := 12) h (by decide)
theorem nle_12 {a : Nat} (h : a < 12) : ¬ 12 ≤ nI a := nI_ge (b := 12) h (by decide)
theorem ne_16 {a : Nat} (h : a < 16) : ¬ nI a = 16 := fun q => absurd ((nI_eq (b := 16) (by omega) (by decide)).mp q) (by omega)
theorem lt_16 {a : Nat} (h : a < 16) : nI a < 16 := nI_lt (b := 16) h (by decide)
theorem nle_16 {a : Nat} (h : a < 16) : ¬ 16 ≤ nI a := nI_ge (b := 16) h (by decide)
/-- the next thing of a row: those ahead and the new one -/
theorem lt_1 {n j : Nat} {P : Nat → Prop} (h : ∀ j, j < n → P j) (hn : P n) : j < n + 1 → P j := fun q => by
  by_cases e : j = n
  · rw [e]; exact hn
  · exact h j (by omega)
theorem nn_nI {n : Nat} (h : n < 2 ^ 31) : nn (nI n) = n := nI_clamp h
theorem le_lit {n m : Nat} (h : n ≤ m) (hm : m < 2 ^ 31) : 0 ≤ nI n ∧ nI n ≤ nI m := ⟨nI_pos' (by omega), nI_le h hm⟩
theorem lt_of_in {a : Int32} {n : Nat} (hn : n < 1000) (h : 0 ≤ a ∧ a ≤ nI n - 1) : 0 ≤ a ∧ a < nI n := by
  obtain ⟨j, hj, rfl⟩ := in_of hn h
  exact ⟨h.1, nI_lt hj (by omega)⟩
