/-! the memory behind both constructors: both sides agree -/
def M0 : mm := mdm lsm
set_option maxRecDepth 100000 in
theorem M0_nn : nn (M0 1 9) = 0 ∧ nn (M0 1 10) = 0 ∧ nn (M0 1 11) = 0 ∧ nn (M0 1 12) = 0 ∧ nn (M0 1 13) = 0 ∧ nn (M0 1 14) = 0 ∧ nn (M0 1 15) = 0 ∧ nn (M0 1 16) = 0 ∧ nn (M0 1 17) = 0 := by decide +kernel
theorem no_lt {k n : Nat} {P : Prop} (h : n = 0) (hk : k < n) : P := by
  rw [h] at hk
  exact absurd hk (Nat.not_lt_zero k)
set_option maxRecDepth 100000 in
theorem M0_a : ∀ k, k < 18 → M0 1 k = M0 (49 + so k) (ss k) := by decide +kernel
set_option maxRecDepth 100000 in
theorem M0_b : ∀ a, a < 6 → ∀ b, b < 6 → M0 1 (20 + 6 * a + b) = M0 (49 + 2 + a) b ∧ 0 ≤ M0 1 (20 + 6 * a + b) ∧ M0 1 (20 + 6 * a + b) ≤ 9 := by decide +kernel
set_option maxRecDepth 100000 in
theorem M0_c : ∀ j, j < 12 → M0 (49 + 21) j = 0 ∨ M0 (49 + 21) j = 1 := by decide +kernel
set_option maxRecDepth 100000 in
theorem M0_d : ∀ s, s < 3 → M0 1 (288 + 161 * s) = nI 0 ∧ M0 (49 + 76 + 6 * s) 0 = nI 0 ∧ M0 (49 + 76 + 6 * s) 5 = nI 0 := by decide +kernel
set_option maxRecDepth 100000 in
theorem M0_V : VP 49 M0 (M0 1) := by
  obtain ⟨e9, e10, e11, e12, e13, e14, e15, e16, e17⟩ := M0_nn
  refine ⟨M0_a, fun a b ha hb => (M0_b a ha b hb).1, fun p f hp _ => no_lt e9 hp, fun p f hp _ => no_lt e10 hp, fun p f hp _ => no_lt e11 hp, fun p hp => no_lt e12 hp, fun j hj => ⟨M0_c j hj, fun hp => no_lt e13 hp⟩, fun p hp => no_lt e14 hp, fun p hp => no_lt e15 hp, fun p hp => no_lt e16 hp, fun p hp => no_lt e17 hp, fun s hs => ?_⟩
  obtain ⟨h1, h2, h3⟩ := M0_d s hs
  exact ⟨0, 0, by decide, by decide, h1, h2, h3, fun l hl => absurd hl (Nat.not_lt_zero l)⟩
set_option maxRecDepth 100000 in
theorem M0_I : IV (M0 1) := by
  obtain ⟨e9, e10, e11, e12, e13, e14, e15, e16, e17⟩ := M0_nn
  refine ⟨by decide +kernel, by decide +kernel, fun a b ha hb => (M0_b a ha b hb).2, fun p hp => no_lt e9 hp, fun p hp => no_lt e10 hp, fun p hp => no_lt e11 hp, fun p hp => no_lt e12 hp, fun p hp => no_lt e13 hp, fun p hp => no_lt e14 hp, fun p hp => no_lt e15 hp, fun p hp => no_lt e16 hp, fun p hp => no_lt e17 hp⟩
set_option maxRecDepth 100000 in
theorem M0_p : M0 23 3 = M0 0 3 ∧ M0 23 3 = 0 ∧ M0 24 1 = nI 0 ∧ M0 0 5 = nI 0 ∧ M0 23 8 = nI 0 ∧ M0 0 8 = nI 0 ∧ M0 23 10 = 0 ∧ M0 0 9 = -1 ∧ M0 35 1 = nI 0 ∧ M0 0 33 = nI 0 := by decide +kernel
set_option maxRecDepth 100000 in
theorem M0_s : ∀ s, s < 4 → M0 16 s = -1 ∧ M0 39 s = -1 ∧ M0 46 s = 4 ∧ M0 19 s = 0 := by decide +kernel
theorem Cp0 : Cp M0 M0 := by
  obtain ⟨a1, a2, a3, a4, a5, a6, a7, a8, a9, a10⟩ := M0_p
  refine ⟨M0_V, M0_I, ⟨a1, Or.inl a2, fun q => ?_⟩, ⟨0, by decide, a3, a4, fun k hk => absurd hk (Nat.not_lt_zero k)⟩, ⟨0, 0, by decide, by decide, a5, a6, fun k hk => absurd hk (Nat.not_lt_zero k), Or.inl ⟨a7, a8, rfl⟩⟩, fun s hs => ?_, fun s hs => ?_, ⟨0, by decide, a9, a10, fun k hk => absurd hk (Nat.not_lt_zero k)⟩⟩
  · rw [a2] at q
    exact absurd q (by decide)
  · obtain ⟨b1, b2, b3, b4⟩ := M0_s s hs
    rw [b1, b2]
    exact ⟨by decide, rfl, fun q => absurd q (by decide)⟩
  · obtain ⟨b1, b2, b3, b4⟩ := M0_s s hs
    rw [b3, b4]
    exact ⟨by decide, fun _ => rfl, fun q => absurd rfl q, fun q => absurd q (by decide)⟩
