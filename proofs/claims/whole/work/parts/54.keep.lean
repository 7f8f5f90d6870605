/-! keep and again -/
theorem IV_cg {g g' : Nat → Int32} (hg : ∀ k, k < 912 → g' k = g k) (h : IV g) : IV g' := by
  have hN := IV_nn h
  obtain ⟨i1, i2, i3, i4, i5, i6, i7, i8, i9, i10, i11, i12⟩ := h
  exact ⟨I1_cg hN (fun k a => hg k (by omega)) i1, I2_cg hN (fun k a => hg k (by omega)) i2, I3_cg hN (fun k a => hg k (by omega)) i3, I4_cg hN (fun k a => hg k (by omega)) i4, I5_cg hN (fun k a => hg k (by omega)) i5, I6_cg hN (fun k a => hg k (by omega)) i6, I7_cg hN (fun k a => hg k (by omega)) i7, I8_cg hN (fun k a => hg k (by omega)) i8, I9_cg hN (fun k a => hg k (by omega)) i9, I10_cg hN (fun k a => hg k (by omega)) i10, I11_cg hN (fun k a => hg k (by omega)) i11, I12_cg hN (fun k a => hg k (by omega)) i12⟩
/-- the model's row d takes row s from place i on -/
def cpL (μ : mm) (d s i : Nat) : mm := fun b => if b = d then fun k => if i ≤ k ∧ k < 912 then μ s k else μ d k else μ b
theorem cpL_ne {μ : mm} {d s i b : Nat} (h : b ≠ d) : cpL μ d s i b = μ b := if_neg h
theorem cpL_in {μ : mm} {d s i k : Nat} (h : i ≤ k ∧ k < 912) : cpL μ d s i d k = μ s k := by
  unfold cpL
  rw [if_pos rfl, if_pos h]
theorem cpL_out {μ : mm} {d s i k : Nat} (h : ¬ (i ≤ k ∧ k < 912)) : cpL μ d s i d k = μ d k := by
  unfold cpL
  rw [if_pos rfl, if_neg h]
theorem cpL_nil {μ : mm} {d s i : Nat} (h : 912 ≤ i) : cpL μ d s i = μ := by
  funext b
  by_cases hb : b = d
  · subst hb
    funext k
    exact cpL_out (by omega)
  · exact cpL_ne hb
theorem cpL_up {μ : mm} {d s i : Nat} (hds : s ≠ d) (h : i < 912) : cpL (up μ d i (μ s i)) d s (i + 1) = cpL μ d s i := by
  funext b
  by_cases hb : b = d
  · subst hb
    funext k
    by_cases c : i + 1 ≤ k ∧ k < 912
    · rw [cpL_in c, cpL_in (by omega), up_nc hds]
    · rw [cpL_out c]
      by_cases c2 : k = i
      · subst c2
        rw [up_at, cpL_in (by omega)]
      · rw [up_ns c2, cpL_out (by omega)]
  · rw [cpL_ne hb, cpL_ne hb, up_ne hb]
theorem keep_l : ∀ (m i fuel : Nat) (μ : mm), i + m = 912 → m < fuel → f_12_keep_l2 0 fuel (nI i) μ = some (cpL μ 2 1 i) := by
  intro m
  induction m with
  | zero =>
    intro i fuel μ h1 h2
    obtain ⟨f, rfl⟩ : ∃ f, fuel = f + 1 := ⟨fuel - 1, by omega⟩
    unfold f_12_keep_l2
    rw [if_pos (show (912 : Int32) ≤ nI i from nI_le (a := 912) (by omega) (by omega)), cpL_nil (by omega)]
  | succ m ih =>
    intro i fuel μ h1 h2
    obtain ⟨f, rfl⟩ : ∃ f, fuel = f + 1 := ⟨fuel - 1, by omega⟩
    unfold f_12_keep_l2
    rw [if_neg (show ¬ (912 : Int32) ≤ nI i from nI_ge (b := 912) (by omega) (by decide)), rf_0_0, rf_0_1, ldL len_1 (by omega) (by decide), Option.bind_some, stoL len_2 (by omega) (by decide), Option.bind_some, nI_1, ih (i + 1) f _ (by omega) (by omega), cpL_up (by decide) (by omega)]
theorem again_l : ∀ (m i fuel : Nat) (μ : mm), i + m = 912 → m < fuel → f_12_again_l12 0 fuel (nI i) μ = some (cpL μ 1 2 i) := by
  intro m
  induction m with
  | zero =>
    intro i fuel μ h1 h2
    obtain ⟨f, rfl⟩ : ∃ f, fuel = f + 1 := ⟨fuel - 1, by omega⟩
    unfold f_12_again_l12
    rw [if_pos (show (912 : Int32) ≤ nI i from nI_le (a := 912) (by omega) (by omega)), cpL_nil (by omega)]
  | succ m ih =>
    intro i fuel μ h1 h2
    obtain ⟨f, rfl⟩ : ∃ f, fuel = f + 1 := ⟨fuel - 1, by omega⟩
    unfold f_12_again_l12
    rw [if_neg (show ¬ (912 : Int32) ≤ nI i from nI_ge (b := 912) (by omega) (by decide)), rf_0_1, rf_0_0, ldL len_2 (by omega) (by decide), Option.bind_some, stoL len_1 (by omega) (by decide), Option.bind_some, nI_1, ih (i + 1) f _ (by omega) (by omega), cpL_up (by decide) (by omega)]
theorem Ap_keep : Ap 143 49 := ⟨isV_kp, isV_now, by omega⟩
theorem Ap_again : Ap 49 143 := ⟨isV_now, isV_kp, by omega⟩
theorem Ap_im : Ap 237 49 := ⟨isV_im, isV_now, by omega⟩
theorem IV_hb {g : Nat → Int32} (h : IV g) : ∀ p, p < nn (g 11) → (g (106 + 12 * p) = 0 ∨ g (106 + 12 * p) = 1) ∧ (g (107 + 12 * p) = 0 ∨ g (107 + 12 * p) = 1) := fun p hp => ⟨(h.2.2.2.2.2.1 p hp).2.2.2.2.2.2.2.1, (h.2.2.2.2.2.1 p hp).2.2.2.2.2.2.2.2.1⟩
theorem T_keep {μ ν : mm} (h : Cp μ ν) : Ok (f_11_keep 23 μ) fun z => Ok (f_12_keep 0 ν) fun w => z.1 = w.1 ∧ Cp z.2 w.2 := by
  obtain ⟨hV, hI, ⟨k1, k2, k3⟩, ht, hr, hs, hv, hc⟩ := h
  unfold f_11_keep
  rw [rf_23_0, rf_23_1, Ok_bind]
  refine Ok_mono (take_ok Ap_keep hV hI.2.1 hI.1.2.2.2.1 (IV_hb hI)) fun μ' ⟨hV', hm⟩ => ?_
  rw [pf_eq, Option.bind_some, Ok_some]
  have kl : f_12_keep_l2 0 FU 0 ν = some (cpL ν 2 1 0) := keep_l 912 0 FU ν (by omega) (show 912 < 2000 by omega)
  refine Ok_of (y := (1, up (cpL ν 2 1 0) 0 3 1)) (by unfold f_12_keep; rw [kl, Option.bind_some, pf_eq, Option.bind_some]) ?_
  have m : ∀ b, b ≠ 23 → (b < 143 ∨ 237 ≤ b) → up μ' 23 3 1 b = μ b := fun b q1 q2 => by rw [up_ne q1]; exact hm b (by omega)
  have n : ∀ b, b ≠ 0 → b ≠ 2 → up (cpL ν 2 1 0) 0 3 1 b = ν b := fun b q1 q2 => by rw [up_ne q1, cpL_ne q2]
  have n0 : ∀ j, j ≠ 3 → up (cpL ν 2 1 0) 0 3 1 0 j = ν 0 j := fun j q => by rw [up_ns q, cpL_ne (by decide)]
  have m23 : ∀ j, j ≠ 3 → up μ' 23 3 1 23 j = μ 23 j := fun j q => by rw [up_ns q, hm 23 (by omega)]
  dsimp only
  refine ⟨rfl, ?_, ?_, ⟨by rw [up_at, up_at], Or.inr up_at, fun _ => ⟨?_, ?_⟩⟩, ?_, ?_, ?_, ?_, ?_⟩
  · rw [n 1 (by decide) (by decide)]
    exact VP_congr (fun _ _ => rfl) (fun b q1 q2 => m b (by omega) (by omega)) (IV_nn hI) hV
  · rw [n 1 (by decide) (by decide)]
    exact hI
  · refine VP_congr (fun k hk => ?_) (fun b q1 q2 => up_ne (by omega)) (IV_nn hI) hV'
    rw [up_ne (by decide), cpL_in (by omega)]
  · refine IV_cg (fun k hk => ?_) hI
    rw [up_ne (by decide), cpL_in (by omega)]
  · unfold Tp
    rw [m 24 (by decide) (by omega), m 25 (by decide) (by omega), n0 5 (by decide), n 4 (by decide) (by decide)]
    exact ht
  · unfold Rw
    rw [m23 8 (by decide), m23 9 (by decide), m23 10 (by decide), n0 8 (by decide), n0 9 (by decide), m 37 (by decide) (by omega), m 38 (by decide) (by omega), n 5 (by decide) (by decide), n 6 (by decide) (by decide)]
    exact hr
  · exact Sh_cg (fun b q => m b (by omega) (by omega)) (fun b q => n b (by omega) (by omega)) hs
  · exact Sv_cg (fun b q => m b (by omega) (by omega)) (fun b q => n b (by omega) (by omega)) hv
  · exact Tc_cg ⟨m 35 (by decide) (by omega), m 36 (by decide) (by omega)⟩ ⟨n0 33 (by decide), n 22 (by decide) (by decide)⟩ hc
theorem T_again {μ ν : mm} (h : Cp μ ν) : Ok (f_11_again 23 μ) fun z => Ok (f_12_again 0 ν) fun w => z.1 = w.1 ∧ Cp z.2 w.2 := by
  obtain ⟨hV, hI, ⟨k1, k2, k3⟩, ht, hr, hs, hv, hc⟩ := id h
  rcases k2 with k2 | k2
  · have k4 : ν 0 3 = 0 := k1.symm.trans k2
    exact Ok_of (y := (-3, μ)) (by unfold f_11_again; rw [k2, if_pos rfl]) (Ok_of (y := (-3, ν)) (by unfold f_12_again; rw [k4, if_pos rfl]) ⟨rfl, h⟩)
  · have k4 : ν 0 3 = 1 := k1.symm.trans k2
    obtain ⟨qV, qI⟩ := k3 k2
    unfold f_11_again
    rw [k2, if_neg (by decide), rf_23_0, rf_23_1, Ok_bind]
    refine Ok_mono (take_ok Ap_again qV qI.2.1 qI.1.2.2.2.1 (IV_hb qI)) fun μ' ⟨hV', hm⟩ => ?_
    rw [Ok_some]
    have kl : f_12_again_l12 0 FU 0 ν = some (cpL ν 1 2 0) := again_l 912 0 FU ν (by omega) (show 912 < 2000 by omega)
    refine Ok_of (y := (1, cpL ν 1 2 0)) (by unfold f_12_again; rw [k4, if_neg (by decide), kl, Option.bind_some]) ?_
    dsimp only
    refine ⟨rfl, Cp_now h (fun b q => hm b (by omega)) (fun b q => cpL_ne q) ?_ ?_⟩
    · exact VP_congr (fun k hk => cpL_in (by omega)) (fun _ _ _ => rfl) (IV_nn qI) hV'
    · exact IV_cg (fun k hk => cpL_in (by omega)) qI
