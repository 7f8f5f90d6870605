/-! lending and eating, both sides -/
set_option maxHeartbeats 2000000 in
theorem lend_rel {v h n : Nat} {a2 b2 : Int32} (hv : isV v) (hh : h < 16) (hn : n ≤ 4) : ∀ (m i f1 f2 l : Nat) (μ ν : mm), i + m = n → m < f1 → m < f2 → l ≤ 9 → ν 1 10 = nI n → μ v 3 = nI n → V4 v μ (ν 1) → I5 (ν 1) → ν 1 (96 + 12 * h) = μ (v + 60 + h) 0 → ∃ l' μ' ν', f_9_liveOn_l16 v (v + 60 + h) a2 f1 (nI l) (nI i) μ = some (nI l', μ') ∧ f_12_lent_l5 0 (nI h) b2 f2 (nI l) (nI i) ν = some (nI l', ν') ∧ l' ≤ l ∧ V4 v μ' (ν' 1) ∧ I5 (ν' 1) ∧ (∀ b, ¬ (v + 56 ≤ b ∧ b < v + 60) → b ≠ v + 60 + h → μ' b = μ b) ∧ (∀ f, f ≠ 7 → μ' (v + 60 + h) f = μ (v + 60 + h) f) ∧ μ' (v + 60 + h) 7 = μ (v + 60 + h) 7 + nI (l - l') ∧ (∀ b, b ≠ 1 → ν' b = ν b) ∧ (∀ k, ¬ (84 ≤ k ∧ k < 96) → ν' 1 k = ν 1 k) := by
  intro m
  induction m with
  | zero =>
    intro i f1 f2 l μ ν h1 h2 h3 hl en em v4 i5 f0
    obtain ⟨a, rfl⟩ : ∃ a, f1 = a + 1 := ⟨f1 - 1, by omega⟩
    obtain ⟨b, rfl⟩ : ∃ b, f2 = b + 1 := ⟨f2 - 1, by omega⟩
    obtain rfl : i = n := by omega
    refine ⟨l, μ, ν, ?_, ?_, Nat.le_refl _, v4, i5, fun _ _ _ => rfl, fun _ _ => rfl, ?_, fun _ _ => rfl, fun _ _ => rfl⟩
    · unfold f_9_liveOn_l16
      rw [em, if_pos (Int32.le_refl _)]
    · unfold f_12_lent_l5
      rw [rf_0_0, l_10, en, Option.bind_some, if_pos (Int32.le_refl _)]
    · rw [Nat.sub_self, show nI 0 = 0 from rfl, Int32.add_zero]
  | succ m ih =>
    intro i f1 f2 l μ ν h1 h2 h3 hl en em v4 i5 f0
    obtain ⟨a, rfl⟩ : ∃ a, f1 = a + 1 := ⟨f1 - 1, by omega⟩
    have di : ¬ nI n ≤ nI i := lt_n1 (by omega) (by omega)
    by_cases l0 : l = 0
    · subst l0
      refine ⟨0, μ, ν, ?_, lend_M0 hh hn en i5 (m + 1) i f2 h1 h3, Nat.le_refl _, v4, i5, fun _ _ _ => rfl, fun _ _ => rfl, ?_, fun _ _ => rfl, fun _ _ => rfl⟩
      · unfold f_9_liveOn_l16
        rw [em, if_neg di, if_pos (show nI 0 ≤ 0 from by decide)]
      · rw [Nat.sub_self, show nI 0 = 0 from rfl, Int32.add_zero]
    · obtain ⟨b, rfl⟩ : ∃ b, f2 = b + 1 := ⟨f2 - 1, by omega⟩
      have hlp : ¬ nI l ≤ 0 := nI_nle (by omega) (by omega)
      have nnn : nn (ν 1 10) = n := by rw [en, nn_nI (by omega)]
      have r := i5 i (by omega)
      obtain ⟨c, hc, ec, -⟩ := cnt_of (m := 999) (x := ν 1 (85 + 3 * i)) (by decide) ⟨Int32.le_trans r.2.2.1 r.2.2.2, r.2.1⟩
      obtain ⟨d, hd, ed, -⟩ := cnt_of (m := 999) (x := ν 1 (86 + 3 * i)) (by decide) ⟨r.2.2.1, Int32.le_trans r.2.2.2 r.2.1⟩
      have hdc : d ≤ c := by
        have := r.2.2.2
        rw [ed, ec] at this
        exact (nI_leI (by omega) (by omega)).mp this
      have s0 : ν 1 (84 + 3 * i) = μ (v + 56 + i) 0 := v4 i 0 (by omega) (by decide)
      have s1 : μ (v + 56 + i) 1 = nI c := by rw [← ec, show 85 + 3 * i = 84 + 3 * i + 1 from by omega]; exact (v4 i 1 (by omega) (by decide)).symm
      have s2 : μ (v + 56 + i) 2 = nI d := by rw [← ed, show 86 + 3 * i = 84 + 3 * i + 2 from by omega]; exact (v4 i 2 (by omega) (by decide)).symm
      have h0 : f_12_house 0 (nI h) 0 ν = some (ν 1 (96 + 12 * h)) := house1 (f := 0) (by omega)
      have x1 : ld ν 1 (nI (84 + 3 * i) + 1) = some (nI c) := by rw [nI_1, ld1 (by omega), show 84 + 3 * i + 1 = 85 + 3 * i from by omega, ec]
      have x2 : ld ν 1 (nI (84 + 3 * i) + 2) = some (nI d) := by rw [nI_p2, ld1 (by omega), show 84 + 3 * i + 2 = 86 + 3 * i from by omega, ed]
      have x0 : ld ν 1 (nI (84 + 3 * i) + 0) = some (ν 1 (84 + 3 * i)) := by rw [nI_p0, ld1 (by omega)]
      have y1 : ld ν 1 (nI (84 + 3 * i + 1)) = some (nI c) := by rw [← x1, nI_1]
      by_cases c1 : ν 1 (84 + 3 * i) = ν 1 (96 + 12 * h)
      · have c2 : μ (v + 56 + i) 0 = μ (v + 60 + h) 0 := by rw [← s0, c1, f0]
        have hm : mn (nI l) (nI c - nI d) = nI (min l (c - d)) := by rw [pk_sub hdc, mn_nI (by omega) (by omega)]
        have st : ∀ x, sto ν 1 (nI (84 + 3 * i) + 2) x = some (up ν 1 (84 + 3 * i + 2) x) := fun x => by rw [nI_p2, sto1 (by omega)]
        obtain ⟨l', μ', ν', g1, g2, g3, g4, g5, g6, g7, g8, g9, g10⟩ := ih (i + 1) a b (l - min l (c - d)) (up (up μ (v + 56 + i) 2 (nI (d + min l (c - d)))) (v + 60 + h) 7 (μ (v + 60 + h) 7 + nI (min l (c - d)))) (up ν 1 (84 + 3 * i + 2) (nI (d + min l (c - d)))) (by omega) (by omega) (by omega) (by omega) (by rw [up_ns (by omega)]; exact en) (by rw [up_nc (by omega), up_nc (by omega)]; exact em) (by
            intro s f hs hf
            rw [up_ns (by omega), nnn] at hs
            rw [up_nc (a := v + 60 + h) (by omega)]
            by_cases e : s = i ∧ f = 2
            · obtain ⟨rfl, rfl⟩ := e
              rw [up_at, up_at]
            · rw [up_ns (by omega), up_nx (by omega)]
              exact v4 s f (by omega) hf) (by
            intro s hs
            rw [up_ns (by omega), nnn] at hs
            have q := i5 s (by omega)
            rw [up_ns (k := 84 + 3 * i + 2) (j := 8) (by omega), up_ns (j := 84 + 3 * s) (by omega), up_ns (j := 85 + 3 * s) (by omega)]
            by_cases e : s = i
            · subst e
              rw [show 86 + 3 * s = 84 + 3 * s + 2 from by omega, up_at]
              refine ⟨q.1, q.2.1, nI_pos' (by omega), ?_⟩
              rw [ec]
              exact nI_le (by omega) (by omega)
            · rw [up_ns (by omega)]
              exact q) (by rw [up_ns (by omega), up_ns (by decide), up_nc (by omega)]; exact f0)
        refine ⟨l', μ', ν', ?_, ?_, by omega, g4, g5, fun b q1 q2 => by rw [g6 b q1 q2, up_ne q2, up_ne (by omega)], fun f hf => by rw [g7 f hf, up_ns hf, up_nc (by omega)], ?_, fun b hb => by rw [g9 b hb, up_ne hb], fun k hk => by rw [g10 k hk, up_ns (by omega)]⟩
        · unfold f_9_liveOn_l16 f_6_lend
          rw [em, if_neg di, if_neg hlp, rV_0_9 hv, aV_9 hv (by omega), Option.bind_some, if_pos c2, Option.bind_some, s1, s2, hm, pf_eq, Option.bind_some, Option.bind_some]
          dsimp only
          rw [pf_eq, Option.bind_some, pk_sub (by omega), nI_1, up_nc (a := v + 56 + i) (by omega), nI_add]
          exact g1
        · unfold f_12_lent_l5 f_12_ofShop
          simp only [rf_0_0, l_10, en, Option.bind_some, if_neg di, ix_84_, x1, y1, x2, x0, h0, hm, if_pos c1, st, nI_add, nI_1, pk_sub (show min l (c - d) ≤ l by omega)]
          exact g2
        · rw [g8, up_at, Int32.add_assoc, nI_add]
          congr 2
          omega
      · have c2 : ¬ μ (v + 56 + i) 0 = μ (v + 60 + h) 0 := fun z => c1 (by rw [s0, z, f0])
        have z : sto ν 1 (nI (84 + 3 * i) + 2) (nI d + 0) = some ν := by
          rw [nI_p2, sto1 (by omega), Int32.add_zero, up_same (by rw [show 84 + 3 * i + 2 = 86 + 3 * i from by omega, ed])]
        obtain ⟨l', μ', ν', g1, g2, g⟩ := ih (i + 1) a b l μ ν (by omega) (by omega) (by omega) hl en em v4 i5 f0
        refine ⟨l', μ', ν', ?_, ?_, g⟩
        · unfold f_9_liveOn_l16
          rw [em, if_neg di, if_neg hlp, rV_0_9 hv, aV_9 hv (by omega), Option.bind_some, if_neg c2, nI_1]
          exact g1
        · unfold f_12_lent_l5 f_12_ofShop
          simp only [rf_0_0, l_10, en, Option.bind_some, if_neg di, ix_84_, x1, y1, x2, x0, h0, if_neg c1, z, nI_1, Int32.sub_zero]
          exact g2
/-- while households eat: those before i have eaten (the model says later who goes back); all else as it was -/
def EL (v n i : Nat) (μ0 ν0 μ ν : mm) : Prop := (∀ b, ¬ (v + 56 ≤ b ∧ b < v + 76) → μ b = μ0 b) ∧ (∀ b, b ≠ 1 → ν b = ν0 b) ∧ (∀ k, ¬ (84 ≤ k ∧ k < 288) → ν 1 k = ν0 1 k) ∧ V4 v μ (ν 1) ∧ I5 (ν 1) ∧ I6 (ν 1) ∧ (∀ h, h < n → ∀ f, f < 12 → (f ≠ 10 ∨ i ≤ h) → ν 1 (96 + 12 * h + f) = μ (v + 60 + h) f) ∧ (∀ h, h < i → μ (v + 60 + h) 10 = if ν 1 (106 + 12 * h) = 1 ∨ ν 1 (101 + 12 * h) = 0 then 1 else 0)
