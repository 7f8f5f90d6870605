/-! a household's day -/
theorem I5_cgL {g g' : Nat → Int32} (h : I5 g) (hg : ∀ k, (k = 8 ∨ k = 10 ∨ 84 ≤ k ∧ k < 96) → g' k = g k) (hn : nn (g 10) ≤ 4) : I5 g' := by
  intro p hp
  rw [hg 10 (by omega)] at hp
  have q := h p hp
  simp only [hg 8 (by omega), hg (84 + 3 * p) (by omega), hg (85 + 3 * p) (by omega), hg (86 + 3 * p) (by omega)]
  exact q
/-- not by rfl, so that simp leaves a proof that the kernel need not find again -/
theorem bs {α β : Type} {a : α} {f : α → Option β} : (some a).bind f = f a := Eq.trans (Option.bind_some a f) rfl
theorem pfs {μ : mm} {a k : Nat} {v : Int32} : pf μ a k v = some (up μ a k v) := Eq.trans (pf_eq μ a k v) rfl
theorem hx_00 (q y : Int32) : q + (y + 1) = (((q - 0) - 0) + 1) + y := by
  rw [Int32.sub_zero, Int32.sub_zero, Int32.add_assoc, Int32.add_comm 1 y]
theorem hx_01 (q y : Int32) : q + (y + (-1)) = (((q - 0) - 1) + 0) + y := by
  rw [Int32.sub_zero, Int32.add_zero, Int32.sub_eq_add_neg, Int32.add_assoc, Int32.add_comm (-1) y]
theorem hx_10 (q y : Int32) : q + (y + (-2)) = (((q - 2) - 0) + 0) + y := by
  rw [Int32.sub_zero, Int32.add_zero, Int32.sub_eq_add_neg, Int32.add_assoc, Int32.add_comm (-2) y]
theorem hx_11 (q y : Int32) : q + ((y + (-2)) + (-1)) = (((q - 2) - 1) + 0) + y := by
  rw [Int32.add_zero, Int32.sub_eq_add_neg, Int32.sub_eq_add_neg, Int32.add_assoc y, Int32.add_assoc q, Int32.add_assoc q, Int32.add_comm y]
theorem mxmn_rg {x : Int32} : 0 ≤ mx 0 (mn 99 x) ∧ mx 0 (mn 99 x) ≤ 99 := by
  unfold mx mn
  split <;> split <;> grind
set_option maxHeartbeats 4000000 in
theorem eat_one {v n i n10 : Nat} {μ0 ν0 μ ν : mm} {w a2 : Int32} (hv : isV v) (hn : n ≤ 16) (hi : i < n) (hn10 : n10 ≤ 4) (en10 : ν0 1 10 = nI n10) (em10 : μ0 v 3 = nI n10) (e3 : ν0 1 3 = μ0 v 6) (hc : ν0 1 3 = 0 ∨ ν0 1 3 = 1) (e11 : ν0 1 11 = nI n) (hE : EL v n i μ0 ν0 μ ν) (b0 : ν 1 (106 + 12 * i) = 0) (hw : ∀ ν38 : mm, (∀ k, (k < 84 ∨ 288 ≤ k ∨ k = 96 + 12 * i ∨ k = 107 + 12 * i) → ν38 1 k = ν 1 k) → (if a2 = 0 then some 0 else (f_12_heardNow 0 (nI i) ν38).bind fun x46 => some x46) = some w) : ∃ μ' ν', f_9_liveOn v (v + 60 + i) w μ = some μ' ∧ f_12_eats 0 (nI i) a2 ν = some ν' ∧ EL v n (i + 1) μ0 ν0 μ' ν' := by
  obtain ⟨p1, p2, p3, v4, i5, i6, q5, qb⟩ := hE
  have nn11 : nn (ν 1 11) = n := by rw [p3 11 (by omega), e11, nn_nI (by omega)]
  have F : ∀ f, f < 12 → ν 1 (96 + 12 * i + f) = μ (v + 60 + i) f := fun f hf => q5 i hi f hf (Or.inr (Nat.le_refl _))
  obtain ⟨r0, r1, r2, r3, r4, r5, r6, -, r11, r12⟩ := i6 i (by omega)
  obtain ⟨mo, hmo, emo, -⟩ := cnt_of (m := 9) (x := ν 1 (98 + 12 * i)) (by decide) ⟨Int32.le_trans (by decide) r2.1, r2.2⟩
  obtain ⟨ga, hga, ega, -⟩ := cnt_of (m := 9) (by decide) r3
  obtain ⟨co, hco, eco, -⟩ := cnt_of (m := 99) (by decide) r4
  obtain ⟨la, hla, ela, -⟩ := cnt_of (m := 999) (by decide) r6
  have c2 : μ (v + 60 + i) 2 = nI mo := by rw [← F 2 (by decide), show 96 + 12 * i + 2 = 98 + 12 * i from by omega, emo]
  have c3 : μ (v + 60 + i) 3 = nI ga := by rw [← F 3 (by decide), show 96 + 12 * i + 3 = 99 + 12 * i from by omega, ega]
  have c4 : μ (v + 60 + i) 4 = nI co := by rw [← F 4 (by decide), show 96 + 12 * i + 4 = 100 + 12 * i from by omega, eco]
  have c6 : μ (v + 60 + i) 6 = nI la := by rw [← F 6 (by decide), show 96 + 12 * i + 6 = 102 + 12 * i from by omega, ela]
  have c10 : μ (v + 60 + i) 10 = 0 := by rw [← F 10 (by decide), show 96 + 12 * i + 10 = 106 + 12 * i from by omega, b0]
  -- eating of garden and larder
  have hk : mx 0 (nI mo - nI ga) = nI (mo - ga) := mx0_nI (by omega) (by omega)
  have hs : mn (nI (mo - ga)) (nI la) = nI (min (mo - ga) la) := mn_nI (by omega) (by omega)
  obtain ⟨l', μ2, ν2, g1, g2, g3, g4, g5, g6, g7, g8, g9, g10⟩ := lend_rel (v := v) (h := i) (n := n10) (a2 := w) (b2 := nI (mo - ga - min (mo - ga) la)) hv (by omega) hn10 n10 0 FU FU (mo - ga - min (mo - ga) la) (up μ (v + 60 + i) 6 (nI (la - min (mo - ga) la))) (up ν 1 (96 + 12 * i + 6) (nI (la - min (mo - ga) la))) (by omega) (show n10 < 2000 by omega) (show n10 < 2000 by omega) (by omega) (by rw [up_ns (by omega), p3 10 (by omega)]; exact en10) (by rw [up_nc (by omega), p1 v (by omega)]; exact em10) (by
      intro s f hs' hf
      rw [up_ns (by omega)] at hs'
      have : nn (ν 1 10) = n10 := by rw [p3 10 (by omega), en10, nn_nI (by omega)]
      rw [up_ns (by omega), up_nc (by omega)]
      exact v4 s f hs' hf) (I5_cgL i5 (fun k hk => up_ns (by omega)) (by rw [p3 10 (by omega), en10, nn_nI (by omega)]; exact hn10)) (by rw [up_ns (by omega), up_ns (by decide)]; exact F 0 (by decide))
  rw [show nI 0 = 0 from rfl] at g1 g2
  have n2 : ∀ k, ¬ (84 ≤ k ∧ k < 96) → k ≠ 96 + 12 * i + 6 → ν2 1 k = ν 1 k := fun k q1 q2 => by rw [g10 k q1, up_ns q2]
  have m2 : ∀ f, f ≠ 6 → f ≠ 7 → μ2 (v + 60 + i) f = μ (v + 60 + i) f := fun f q1 q2 => by rw [g7 f q2, up_ns q1]
  have m26 : μ2 (v + 60 + i) 6 = nI (la - min (mo - ga) la) := by rw [g7 6 (by decide), up_at]
  have m27 : μ2 (v + 60 + i) 7 = μ (v + 60 + i) 7 + nI (mo - ga - min (mo - ga) la - l') := by rw [g8, up_ns (by decide)]
  have n26 : ν2 1 (96 + 12 * i + 6) = nI (la - min (mo - ga) la) := by rw [g10 _ (by omega), up_at]
  have mb : ∀ b, ¬ (v + 56 ≤ b ∧ b < v + 60) → b ≠ (v + 60 + i) → μ2 b = μ b := fun b q1 q2 => by rw [g6 b q1 q2, up_ne q2]
  have nb : ∀ b, b ≠ 1 → ν2 b = ν b := fun b hb => by rw [g9 b hb, up_ne hb]
  -- what the last lines must show
  have fin : ∀ μ' ν' : mm, (∀ b, b ≠ (v + 60 + i) → μ' b = μ2 b) → (∀ b, b ≠ 1 → ν' b = ν2 b) → (∀ k, (k < 96 + 12 * i + 4 ∨ 96 + 12 * i + 9 < k) → ν' 1 k = ν2 1 k) → (∀ f, f < 4 ∨ f = 11 → μ' (v + 60 + i) f = μ2 (v + 60 + i) f) → (∀ f, 4 ≤ f ∧ f ≤ 9 → ν' 1 (96 + 12 * i + f) = μ' (v + 60 + i) f) → μ' (v + 60 + i) 10 = (if μ' (v + 60 + i) 5 = 0 then 1 else 0) → (0 ≤ μ' (v + 60 + i) 4 ∧ μ' (v + 60 + i) 4 ≤ 99) → (0 ≤ μ' (v + 60 + i) 5 ∧ μ' (v + 60 + i) 5 ≤ 99) → (0 ≤ μ' (v + 60 + i) 6 ∧ μ' (v + 60 + i) 6 ≤ 999) → EL v n (i + 1) μ0 ν0 μ' ν' := by
    intro μ' ν' a1 a2 a3 a4 a5 a6 a7 a8 a9
    refine ⟨fun b hb => by rw [a1 b (by omega), mb b (by omega) (by omega)]; exact p1 b hb, fun b hb => by rw [a2 b hb, nb b hb]; exact p2 b hb, fun k hk => by rw [a3 k (by omega), n2 k (by omega) (by omega)]; exact p3 k hk, ?_, ?_, ?_, ?_, ?_⟩
    · intro s f hs' hf
      rw [a3 10 (by omega)] at hs'
      have : nn (ν2 1 10) = n10 := by rw [n2 10 (by omega) (by omega), p3 10 (by omega), en10, nn_nI (by omega)]
      rw [a3 _ (by omega), a1 _ (by omega)]
      exact g4 s f hs' hf
    · refine I5_cgL g5 (fun k hk => a3 k (by omega)) ?_
      rw [n2 10 (by omega) (by omega), p3 10 (by omega), en10, nn_nI (by omega)]
      exact hn10
    · intro h hh
      rw [a3 11 (by omega), n2 11 (by omega) (by omega), nn11] at hh
      have q := i6 h (by omega)
      have k2 : ∀ k, (k < 84 ∨ 96 ≤ k) → (k < 96 + 12 * i + 4 ∨ 96 + 12 * i + 9 < k) → ν' 1 k = ν 1 k := fun k q1 q2 => by rw [a3 k q2, n2 k (by omega) (by omega)]
      by_cases e : h = i
      · subst e
        have w4 := a5 4 (by decide)
        have w5 := a5 5 (by decide)
        have w6 := a5 6 (by decide)
        rw [show 96 + 12 * h + 4 = 100 + 12 * h from by omega] at w4
        rw [show 96 + 12 * h + 5 = 101 + 12 * h from by omega] at w5
        rw [show 96 + 12 * h + 6 = 102 + 12 * h from by omega] at w6
        rw [k2 8 (by omega) (by omega), k2 9 (by omega) (by omega), k2 (96 + 12 * h) (by omega) (by omega), k2 (97 + 12 * h) (by omega) (by omega), k2 (98 + 12 * h) (by omega) (by omega), k2 (99 + 12 * h) (by omega) (by omega), k2 (106 + 12 * h) (by omega) (by omega), k2 (107 + 12 * h) (by omega) (by omega), w4, w5, w6]
        exact ⟨q.1, q.2.1, q.2.2.1, q.2.2.2.1, a7, a8, a9, q.2.2.2.2.2.2.2⟩
      · rw [k2 8 (by omega) (by omega), k2 9 (by omega) (by omega)]
        simp only [k2 (96 + 12 * h) (by omega) (by omega), k2 (97 + 12 * h) (by omega) (by omega), k2 (98 + 12 * h) (by omega) (by omega), k2 (99 + 12 * h) (by omega) (by omega), k2 (100 + 12 * h) (by omega) (by omega), k2 (101 + 12 * h) (by omega) (by omega), k2 (102 + 12 * h) (by omega) (by omega), k2 (106 + 12 * h) (by omega) (by omega), k2 (107 + 12 * h) (by omega) (by omega)]
        exact q
    · intro h hh f hf hff
      by_cases e : h = i
      · subst e
        have f10 : f ≠ 10 := by omega
        by_cases e4 : 4 ≤ f ∧ f ≤ 9
        · exact a5 f e4
        · rw [a3 _ (by omega), n2 _ (by omega) (by omega), a4 f (by omega), m2 f (by omega) (by omega)]
          exact F f hf
      · rw [a3 _ (by omega), n2 _ (by omega) (by omega), a1 _ (by omega), mb _ (by omega) (by omega)]
        exact q5 h hh f hf (by omega)
    · intro h hh
      by_cases e : h = i
      · subst e
        have w5 := a5 5 (by decide)
        rw [show 96 + 12 * h + 5 = 101 + 12 * h from by omega] at w5
        rw [a6, a3 (106 + 12 * h) (by omega), n2 (106 + 12 * h) (by omega) (by omega), b0, w5]
        by_cases z : μ' (v + 60 + h) 5 = 0
        · rw [if_pos z, if_pos (Or.inr z)]
        · rw [if_neg z, if_neg (fun q => q.elim (fun q => absurd q (by decide)) z)]
      · rw [a1 _ (by omega), mb _ (by omega) (by omega), a3 (106 + 12 * h) (by omega), n2 (106 + 12 * h) (by omega) (by omega), a3 (101 + 12 * h) (by omega), n2 (101 + 12 * h) (by omega) (by omega)]
        exact qb h (by omega)
  have m24 : μ2 (v + 60 + i) 4 = nI co := (m2 4 (by decide) (by decide)).trans c4
  have m25 := m2 5 (by decide) (by decide)
  have m28 := m2 8 (by decide) (by decide)
  have m29 := m2 9 (by decide) (by decide)
  have n27 : ν2 1 (96 + 12 * i + 7) = μ (v + 60 + i) 7 := (n2 _ (by omega) (by omega)).trans (F 7 (by decide))
  have n24 : ν2 1 (96 + 12 * i + 4) = nI co := (n2 _ (by omega) (by omega)).trans ((F 4 (by decide)).trans c4)
  have n28 : ν2 1 (96 + 12 * i + 8) = μ (v + 60 + i) 8 := (n2 _ (by omega) (by omega)).trans (F 8 (by decide))
  have n29 : ν2 1 (96 + 12 * i + 9) = μ (v + 60 + i) 9 := (n2 _ (by omega) (by omega)).trans (F 9 (by decide))
  have n25 : ν2 1 (96 + 12 * i + 5) = μ (v + 60 + i) 5 := (n2 _ (by omega) (by omega)).trans (F 5 (by decide))
  have n23 : ν2 1 3 = ν0 1 3 := (n2 3 (by omega) (by omega)).trans (p3 3 (by omega))
  have C60 : μ2 v 6 = ν0 1 3 := by rw [mb v (by omega) (by omega), p1 v (by omega), ← e3]
  have emo' : ν 1 (96 + 12 * i + 2) = nI mo := (F 2 (by decide)).trans c2
  have ela' : ν 1 (96 + 12 * i + 6) = nI la := (F 6 (by decide)).trans c6
  have ega' : ν 1 (96 + 12 * i + 3) = nI ga := (F 3 (by decide)).trans c3
  have hz7 : (if ν 1 (96 + 12 * i + 11) = 1 then some 0 else some (ν 1 (96 + 12 * i + 3))) = some (nI ga) := by
    rw [ega']
    by_cases z : ν 1 (96 + 12 * i + 11) = 1
    · have := r12 (by rw [show 107 + 12 * i = 96 + 12 * i + 11 from by omega]; exact z)
      rw [if_pos z, ← ega, this]
    · rw [if_neg z]
  have hlent : f_12_lent 0 (nI i) (nI (mo - ga - min (mo - ga) la)) (up ν 1 (96 + 12 * i + 6) (nI (la - min (mo - ga) la))) = some (nI (mo - ga - min (mo - ga) la - l'), ν2) := by
    unfold f_12_lent
    rw [g2, Option.bind_some, pk_sub g3]
  have hS1 : nI la - nI (min (mo - ga) la) = nI (la - min (mo - ga) la) := pk_sub (by omega)
  have hS2 : nI (mo - ga) - nI (min (mo - ga) la) = nI (mo - ga - min (mo - ga) la) := pk_sub (by omega)
  have X4r : 0 ≤ mx 0 (nI co - 1) ∧ mx 0 (nI co - 1) ≤ 99 := by
    rw [show (1 : Int32) = nI 1 from rfl, mx0_nI (by omega) (by omega)]
    exact le_lit (m := 99) (by omega) (by decide)
  by_cases l0 : l' = 0
  · by_cases k0 : co = 0 ∧ ν0 1 3 = 1
    · have cco : (nI co = 0) = True := by rw [k0.1]; decide
      have C6 : μ2 v 6 = 1 := C60.trans k0.2
      have C3 : ν0 1 3 = 1 := k0.2
      have hx : mx 0 (mn 99 (μ (v + 60 + i) 5 + (w + (-1)))) = mx 0 (mn 99 ((((μ (v + 60 + i) 5 - 0) - 1) + 0) + w)) := by rw [hx_01]
      have hb : ∀ y : Int32, (if y = 0 then some 1 else some 0 : Option Int32) = some (if y = 0 then 1 else 0) := fun y => by split <;> rfl
      have hg : ∀ y : Int32, gb (if y = 0 then 1 else 0) = some (if y = 0 then 1 else 0) := fun y => by split <;> rfl
      refine ⟨up (up (up (up μ2 (v + 60 + i) 4 (mx 0 (nI co - 1))) (v + 60 + i) 9 (μ (v + 60 + i) 9 + 1)) (v + 60 + i) 5 (mx 0 (mn 99 (μ (v + 60 + i) 5 + (w + (-1)))))) (v + 60 + i) 10 (if mx 0 (mn 99 (μ (v + 60 + i) 5 + (w + (-1)))) = 0 then 1 else 0), up (up (up (up (up ν2 1 (96 + 12 * i + 7) (μ (v + 60 + i) 7 + nI (mo - ga - min (mo - ga) la - l'))) 1 (96 + 12 * i + 4) (mx 0 (nI co - 1))) 1 (96 + 12 * i + 8) (μ (v + 60 + i) 8 + 0)) 1 (96 + 12 * i + 9) (μ (v + 60 + i) 9 + 1)) 1 (96 + 12 * i + 5) (mx 0 (mn 99 ((((μ (v + 60 + i) 5 - 0) - 1) + 0) + w))), ?_, ?_, ?_⟩
      · unfold f_9_liveOn f_1_eatOwn f_1_endDay
        generalize hlf : f_9_liveOn_l16 = lentF at g1 ⊢
        rw [c10, if_pos rfl, c2, c3, c6, hk, hs, pk_sub (by omega), pk_sub (by omega), pf_eq, Option.bind_some, Option.bind_some]
        dsimp only
        rw [g1, Option.bind_some]
        dsimp only
        rw [if_pos (show nI l' ≤ 0 from by rw [l0]; decide)]
        simp (disch := omega) only [show ((1 : Int32) = 0) = False from by decide, if_true, if_false, bs, pfs, up_at, up_ns, m24, m25, m28, m29, C6, cco, hb, hg]
      · unfold f_12_eats
        generalize hlf : f_12_lent = lentF at hlent ⊢
        generalize hhf : f_12_heardNow = heardF at hw ⊢
        simp (disch := omega) only [rf_0_0, ix_96_, nI_p2, nI_p3, nI_p4, nI_p5, nI_p6, nI_p7, nI_p8, nI_p9, nI_p11, ld1, sto1, bs, emo', ela', hz7, hk, hs, hS1, hS2]
        rw [hlent, Option.bind_some]
        dsimp only
        rw [if_pos (show nI (mo - ga - min (mo - ga) la) ≤ nI (mo - ga - min (mo - ga) la - l') from by rw [l0, Nat.sub_zero]; exact Int32.le_refl _)]
        simp (disch := omega) only [ld1, sto1, l_3, bs, up_at, up_ns, n27, n24, n28, n29, n25, n23, C3, cco, show ((1 : Int32) = 0) = False from by decide, show ((0 : Int32) = 1) = False from by decide, if_true, if_false]
        rw [hw _ (fun k hk => by rw [up_ns (by omega), up_ns (by omega), up_ns (by omega), up_ns (by omega)]; exact n2 k (by omega) (by omega)), Option.bind_some]
      · refine fin _ _ (fun b hb => by rw [up_ne hb, up_ne hb, up_ne hb, up_ne hb]) (fun b hb => by rw [up_ne hb, up_ne hb, up_ne hb, up_ne hb, up_ne hb]) (fun k hk => by rw [up_ns (by omega), up_ns (by omega), up_ns (by omega), up_ns (by omega), up_ns (by omega)]) (fun f hf => by rw [up_ns (by omega), up_ns (by omega), up_ns (by omega), up_ns (by omega)]) ?_ ?_ ?_ ?_ ?_
        · intro f hf
          have f6 : f = 4 ∨ f = 5 ∨ f = 6 ∨ f = 7 ∨ f = 8 ∨ f = 9 := by omega
          rcases f6 with rfl | rfl | rfl | rfl | rfl | rfl
          · simp (disch := omega) only [up_at, up_ns]
          · simp (disch := omega) only [up_at, up_ns, hx]
          · simp (disch := omega) only [up_at, up_ns, n26, m26]
          · simp (disch := omega) only [up_at, up_ns, m27]
          · simp (disch := omega) only [up_at, up_ns, m28, Int32.add_zero]
          · simp (disch := omega) only [up_at, up_ns, m29, Int32.add_zero]
        · simp (disch := omega) only [up_at, up_ns]
        · simp (disch := omega) only [up_at, up_ns]
          exact X4r
        · simp (disch := omega) only [up_at, up_ns]
          exact mxmn_rg
        · simp (disch := omega) only [up_ns, m26]
          exact le_lit (m := 999) (by omega) (by decide)
    · by_cases z0 : co = 0
      · have cco : (nI co = 0) = True := by rw [z0]; decide
        have C3 : ν0 1 3 = 0 := hc.resolve_right (fun z => k0 ⟨z0, z⟩)
        have C6 : μ2 v 6 = 0 := C60.trans C3
        have hx : mx 0 (mn 99 (μ (v + 60 + i) 5 + (w + 1))) = mx 0 (mn 99 ((((μ (v + 60 + i) 5 - 0) - 0) + 1) + w)) := by rw [hx_00]
        have hb : ∀ y : Int32, (if y = 0 then some 1 else some 0 : Option Int32) = some (if y = 0 then 1 else 0) := fun y => by split <;> rfl
        have hg : ∀ y : Int32, gb (if y = 0 then 1 else 0) = some (if y = 0 then 1 else 0) := fun y => by split <;> rfl
        refine ⟨up (up (up μ2 (v + 60 + i) 4 (mx 0 (nI co - 1))) (v + 60 + i) 5 (mx 0 (mn 99 (μ (v + 60 + i) 5 + (w + 1))))) (v + 60 + i) 10 (if mx 0 (mn 99 (μ (v + 60 + i) 5 + (w + 1))) = 0 then 1 else 0), up (up (up (up (up ν2 1 (96 + 12 * i + 7) (μ (v + 60 + i) 7 + nI (mo - ga - min (mo - ga) la - l'))) 1 (96 + 12 * i + 4) (mx 0 (nI co - 1))) 1 (96 + 12 * i + 8) (μ (v + 60 + i) 8 + 0)) 1 (96 + 12 * i + 9) (μ (v + 60 + i) 9 + 0)) 1 (96 + 12 * i + 5) (mx 0 (mn 99 ((((μ (v + 60 + i) 5 - 0) - 0) + 1) + w))), ?_, ?_, ?_⟩
        · unfold f_9_liveOn f_1_eatOwn f_1_endDay
          generalize hlf : f_9_liveOn_l16 = lentF at g1 ⊢
          rw [c10, if_pos rfl, c2, c3, c6, hk, hs, pk_sub (by omega), pk_sub (by omega), pf_eq, Option.bind_some, Option.bind_some]
          dsimp only
          rw [g1, Option.bind_some]
          dsimp only
          rw [if_pos (show nI l' ≤ 0 from by rw [l0]; decide)]
          simp (disch := omega) only [show ((1 : Int32) = 0) = False from by decide, if_true, if_false, bs, pfs, up_at, up_ns, m24, m25, m28, m29, C6, cco, hb, hg]
        · unfold f_12_eats
          generalize hlf : f_12_lent = lentF at hlent ⊢
          generalize hhf : f_12_heardNow = heardF at hw ⊢
          simp (disch := omega) only [rf_0_0, ix_96_, nI_p2, nI_p3, nI_p4, nI_p5, nI_p6, nI_p7, nI_p8, nI_p9, nI_p11, ld1, sto1, bs, emo', ela', hz7, hk, hs, hS1, hS2]
          rw [hlent, Option.bind_some]
          dsimp only
          rw [if_pos (show nI (mo - ga - min (mo - ga) la) ≤ nI (mo - ga - min (mo - ga) la - l') from by rw [l0, Nat.sub_zero]; exact Int32.le_refl _)]
          simp (disch := omega) only [ld1, sto1, l_3, bs, up_at, up_ns, n27, n24, n28, n29, n25, n23, C3, cco, show ((1 : Int32) = 0) = False from by decide, show ((0 : Int32) = 1) = False from by decide, if_true, if_false]
          rw [hw _ (fun k hk => by rw [up_ns (by omega), up_ns (by omega), up_ns (by omega), up_ns (by omega)]; exact n2 k (by omega) (by omega)), Option.bind_some]
        · refine fin _ _ (fun b hb => by rw [up_ne hb, up_ne hb, up_ne hb]) (fun b hb => by rw [up_ne hb, up_ne hb, up_ne hb, up_ne hb, up_ne hb]) (fun k hk => by rw [up_ns (by omega), up_ns (by omega), up_ns (by omega), up_ns (by omega), up_ns (by omega)]) (fun f hf => by rw [up_ns (by omega), up_ns (by omega), up_ns (by omega)]) ?_ ?_ ?_ ?_ ?_
          · intro f hf
            have f6 : f = 4 ∨ f = 5 ∨ f = 6 ∨ f = 7 ∨ f = 8 ∨ f = 9 := by omega
            rcases f6 with rfl | rfl | rfl | rfl | rfl | rfl
            · simp (disch := omega) only [up_at, up_ns]
            · simp (disch := omega) only [up_at, up_ns, hx]
            · simp (disch := omega) only [up_at, up_ns, n26, m26]
            · simp (disch := omega) only [up_at, up_ns, m27]
            · simp (disch := omega) only [up_at, up_ns, m28, Int32.add_zero]
            · simp (disch := omega) only [up_at, up_ns, m29, Int32.add_zero]
          · simp (disch := omega) only [up_at, up_ns]
          · simp (disch := omega) only [up_at, up_ns]
            exact X4r
          · simp (disch := omega) only [up_at, up_ns]
            exact mxmn_rg
          · simp (disch := omega) only [up_ns, m26]
            exact le_lit (m := 999) (by omega) (by decide)
      · have cco : (nI co = 0) = False := eq_false (nI_ne0 (by omega) (by omega))
        have C6 := C60
        have C3 := n23
        have hx : mx 0 (mn 99 (μ (v + 60 + i) 5 + (w + 1))) = mx 0 (mn 99 ((((μ (v + 60 + i) 5 - 0) - 0) + 1) + w)) := by rw [hx_00]
        have hb : ∀ y : Int32, (if y = 0 then some 1 else some 0 : Option Int32) = some (if y = 0 then 1 else 0) := fun y => by split <;> rfl
        have hg : ∀ y : Int32, gb (if y = 0 then 1 else 0) = some (if y = 0 then 1 else 0) := fun y => by split <;> rfl
        refine ⟨up (up (up μ2 (v + 60 + i) 4 (mx 0 (nI co - 1))) (v + 60 + i) 5 (mx 0 (mn 99 (μ (v + 60 + i) 5 + (w + 1))))) (v + 60 + i) 10 (if mx 0 (mn 99 (μ (v + 60 + i) 5 + (w + 1))) = 0 then 1 else 0), up (up (up (up (up ν2 1 (96 + 12 * i + 7) (μ (v + 60 + i) 7 + nI (mo - ga - min (mo - ga) la - l'))) 1 (96 + 12 * i + 4) (mx 0 (nI co - 1))) 1 (96 + 12 * i + 8) (μ (v + 60 + i) 8 + 0)) 1 (96 + 12 * i + 9) (μ (v + 60 + i) 9 + 0)) 1 (96 + 12 * i + 5) (mx 0 (mn 99 ((((μ (v + 60 + i) 5 - 0) - 0) + 1) + w))), ?_, ?_, ?_⟩
        · unfold f_9_liveOn f_1_eatOwn f_1_endDay
          generalize hlf : f_9_liveOn_l16 = lentF at g1 ⊢
          rw [c10, if_pos rfl, c2, c3, c6, hk, hs, pk_sub (by omega), pk_sub (by omega), pf_eq, Option.bind_some, Option.bind_some]
          dsimp only
          rw [g1, Option.bind_some]
          dsimp only
          rw [if_pos (show nI l' ≤ 0 from by rw [l0]; decide)]
          simp (disch := omega) only [show ((1 : Int32) = 0) = False from by decide, if_true, if_false, bs, pfs, up_at, up_ns, m24, m25, m28, m29, C6, cco, hb, hg]
        · unfold f_12_eats
          generalize hlf : f_12_lent = lentF at hlent ⊢
          generalize hhf : f_12_heardNow = heardF at hw ⊢
          simp (disch := omega) only [rf_0_0, ix_96_, nI_p2, nI_p3, nI_p4, nI_p5, nI_p6, nI_p7, nI_p8, nI_p9, nI_p11, ld1, sto1, bs, emo', ela', hz7, hk, hs, hS1, hS2]
          rw [hlent, Option.bind_some]
          dsimp only
          rw [if_pos (show nI (mo - ga - min (mo - ga) la) ≤ nI (mo - ga - min (mo - ga) la - l') from by rw [l0, Nat.sub_zero]; exact Int32.le_refl _)]
          simp (disch := omega) only [ld1, sto1, l_3, bs, up_at, up_ns, n27, n24, n28, n29, n25, n23, C3, cco, show ((1 : Int32) = 0) = False from by decide, show ((0 : Int32) = 1) = False from by decide, if_true, if_false]
          rw [hw _ (fun k hk => by rw [up_ns (by omega), up_ns (by omega), up_ns (by omega), up_ns (by omega)]; exact n2 k (by omega) (by omega)), Option.bind_some]
        · refine fin _ _ (fun b hb => by rw [up_ne hb, up_ne hb, up_ne hb]) (fun b hb => by rw [up_ne hb, up_ne hb, up_ne hb, up_ne hb, up_ne hb]) (fun k hk => by rw [up_ns (by omega), up_ns (by omega), up_ns (by omega), up_ns (by omega), up_ns (by omega)]) (fun f hf => by rw [up_ns (by omega), up_ns (by omega), up_ns (by omega)]) ?_ ?_ ?_ ?_ ?_
          · intro f hf
            have f6 : f = 4 ∨ f = 5 ∨ f = 6 ∨ f = 7 ∨ f = 8 ∨ f = 9 := by omega
            rcases f6 with rfl | rfl | rfl | rfl | rfl | rfl
            · simp (disch := omega) only [up_at, up_ns]
            · simp (disch := omega) only [up_at, up_ns, hx]
            · simp (disch := omega) only [up_at, up_ns, n26, m26]
            · simp (disch := omega) only [up_at, up_ns, m27]
            · simp (disch := omega) only [up_at, up_ns, m28, Int32.add_zero]
            · simp (disch := omega) only [up_at, up_ns, m29, Int32.add_zero]
          · simp (disch := omega) only [up_at, up_ns]
          · simp (disch := omega) only [up_at, up_ns]
            exact X4r
          · simp (disch := omega) only [up_at, up_ns]
            exact mxmn_rg
          · simp (disch := omega) only [up_ns, m26]
            exact le_lit (m := 999) (by omega) (by decide)
  · by_cases k0 : co = 0 ∧ ν0 1 3 = 1
    · have cco : (nI co = 0) = True := by rw [k0.1]; decide
      have C6 : μ2 v 6 = 1 := C60.trans k0.2
      have C3 : ν0 1 3 = 1 := k0.2
      have hx : mx 0 (mn 99 (μ (v + 60 + i) 5 + ((w + (-2)) + (-1)))) = mx 0 (mn 99 ((((μ (v + 60 + i) 5 - 2) - 1) + 0) + w)) := by rw [hx_11]
      have hb : ∀ y : Int32, (if y = 0 then some 1 else some 0 : Option Int32) = some (if y = 0 then 1 else 0) := fun y => by split <;> rfl
      have hg : ∀ y : Int32, gb (if y = 0 then 1 else 0) = some (if y = 0 then 1 else 0) := fun y => by split <;> rfl
      refine ⟨up (up (up (up (up μ2 (v + 60 + i) 4 (mx 0 (nI co - 1))) (v + 60 + i) 8 (μ (v + 60 + i) 8 + 1)) (v + 60 + i) 9 (μ (v + 60 + i) 9 + 1)) (v + 60 + i) 5 (mx 0 (mn 99 (μ (v + 60 + i) 5 + ((w + (-2)) + (-1)))))) (v + 60 + i) 10 (if mx 0 (mn 99 (μ (v + 60 + i) 5 + ((w + (-2)) + (-1)))) = 0 then 1 else 0), up (up (up (up (up ν2 1 (96 + 12 * i + 7) (μ (v + 60 + i) 7 + nI (mo - ga - min (mo - ga) la - l'))) 1 (96 + 12 * i + 4) (mx 0 (nI co - 1))) 1 (96 + 12 * i + 8) (μ (v + 60 + i) 8 + 1)) 1 (96 + 12 * i + 9) (μ (v + 60 + i) 9 + 1)) 1 (96 + 12 * i + 5) (mx 0 (mn 99 ((((μ (v + 60 + i) 5 - 2) - 1) + 0) + w))), ?_, ?_, ?_⟩
      · unfold f_9_liveOn f_1_eatOwn f_1_endDay
        generalize hlf : f_9_liveOn_l16 = lentF at g1 ⊢
        rw [c10, if_pos rfl, c2, c3, c6, hk, hs, pk_sub (by omega), pk_sub (by omega), pf_eq, Option.bind_some, Option.bind_some]
        dsimp only
        rw [g1, Option.bind_some]
        dsimp only
        rw [if_neg (nI_nle (by omega) (by omega))]
        simp (disch := omega) only [show ((1 : Int32) = 0) = False from by decide, if_true, if_false, bs, pfs, up_at, up_ns, m24, m25, m28, m29, C6, cco, hb, hg]
      · unfold f_12_eats
        generalize hlf : f_12_lent = lentF at hlent ⊢
        generalize hhf : f_12_heardNow = heardF at hw ⊢
        simp (disch := omega) only [rf_0_0, ix_96_, nI_p2, nI_p3, nI_p4, nI_p5, nI_p6, nI_p7, nI_p8, nI_p9, nI_p11, ld1, sto1, bs, emo', ela', hz7, hk, hs, hS1, hS2]
        rw [hlent, Option.bind_some]
        dsimp only
        rw [if_neg (nI_ge (show mo - ga - min (mo - ga) la - l' < mo - ga - min (mo - ga) la by omega) (by omega))]
        simp (disch := omega) only [ld1, sto1, l_3, bs, up_at, up_ns, n27, n24, n28, n29, n25, n23, C3, cco, show ((1 : Int32) = 0) = False from by decide, show ((0 : Int32) = 1) = False from by decide, if_true, if_false]
        rw [hw _ (fun k hk => by rw [up_ns (by omega), up_ns (by omega), up_ns (by omega), up_ns (by omega)]; exact n2 k (by omega) (by omega)), Option.bind_some]
      · refine fin _ _ (fun b hb => by rw [up_ne hb, up_ne hb, up_ne hb, up_ne hb, up_ne hb]) (fun b hb => by rw [up_ne hb, up_ne hb, up_ne hb, up_ne hb, up_ne hb]) (fun k hk => by rw [up_ns (by omega), up_ns (by omega), up_ns (by omega), up_ns (by omega), up_ns (by omega)]) (fun f hf => by rw [up_ns (by omega), up_ns (by omega), up_ns (by omega), up_ns (by omega), up_ns (by omega)]) ?_ ?_ ?_ ?_ ?_
        · intro f hf
          have f6 : f = 4 ∨ f = 5 ∨ f = 6 ∨ f = 7 ∨ f = 8 ∨ f = 9 := by omega
          rcases f6 with rfl | rfl | rfl | rfl | rfl | rfl
          · simp (disch := omega) only [up_at, up_ns]
          · simp (disch := omega) only [up_at, up_ns, hx]
          · simp (disch := omega) only [up_at, up_ns, n26, m26]
          · simp (disch := omega) only [up_at, up_ns, m27]
          · simp (disch := omega) only [up_at, up_ns, m28, Int32.add_zero]
          · simp (disch := omega) only [up_at, up_ns, m29, Int32.add_zero]
        · simp (disch := omega) only [up_at, up_ns]
        · simp (disch := omega) only [up_at, up_ns]
          exact X4r
        · simp (disch := omega) only [up_at, up_ns]
          exact mxmn_rg
        · simp (disch := omega) only [up_ns, m26]
          exact le_lit (m := 999) (by omega) (by decide)
    · by_cases z0 : co = 0
      · have cco : (nI co = 0) = True := by rw [z0]; decide
        have C3 : ν0 1 3 = 0 := hc.resolve_right (fun z => k0 ⟨z0, z⟩)
        have C6 : μ2 v 6 = 0 := C60.trans C3
        have hx : mx 0 (mn 99 (μ (v + 60 + i) 5 + (w + (-2)))) = mx 0 (mn 99 ((((μ (v + 60 + i) 5 - 2) - 0) + 0) + w)) := by rw [hx_10]
        have hb : ∀ y : Int32, (if y = 0 then some 1 else some 0 : Option Int32) = some (if y = 0 then 1 else 0) := fun y => by split <;> rfl
        have hg : ∀ y : Int32, gb (if y = 0 then 1 else 0) = some (if y = 0 then 1 else 0) := fun y => by split <;> rfl
        refine ⟨up (up (up (up μ2 (v + 60 + i) 4 (mx 0 (nI co - 1))) (v + 60 + i) 8 (μ (v + 60 + i) 8 + 1)) (v + 60 + i) 5 (mx 0 (mn 99 (μ (v + 60 + i) 5 + (w + (-2)))))) (v + 60 + i) 10 (if mx 0 (mn 99 (μ (v + 60 + i) 5 + (w + (-2)))) = 0 then 1 else 0), up (up (up (up (up ν2 1 (96 + 12 * i + 7) (μ (v + 60 + i) 7 + nI (mo - ga - min (mo - ga) la - l'))) 1 (96 + 12 * i + 4) (mx 0 (nI co - 1))) 1 (96 + 12 * i + 8) (μ (v + 60 + i) 8 + 1)) 1 (96 + 12 * i + 9) (μ (v + 60 + i) 9 + 0)) 1 (96 + 12 * i + 5) (mx 0 (mn 99 ((((μ (v + 60 + i) 5 - 2) - 0) + 0) + w))), ?_, ?_, ?_⟩
        · unfold f_9_liveOn f_1_eatOwn f_1_endDay
          generalize hlf : f_9_liveOn_l16 = lentF at g1 ⊢
          rw [c10, if_pos rfl, c2, c3, c6, hk, hs, pk_sub (by omega), pk_sub (by omega), pf_eq, Option.bind_some, Option.bind_some]
          dsimp only
          rw [g1, Option.bind_some]
          dsimp only
          rw [if_neg (nI_nle (by omega) (by omega))]
          simp (disch := omega) only [show ((1 : Int32) = 0) = False from by decide, if_true, if_false, bs, pfs, up_at, up_ns, m24, m25, m28, m29, C6, cco, hb, hg]
        · unfold f_12_eats
          generalize hlf : f_12_lent = lentF at hlent ⊢
          generalize hhf : f_12_heardNow = heardF at hw ⊢
          simp (disch := omega) only [rf_0_0, ix_96_, nI_p2, nI_p3, nI_p4, nI_p5, nI_p6, nI_p7, nI_p8, nI_p9, nI_p11, ld1, sto1, bs, emo', ela', hz7, hk, hs, hS1, hS2]
          rw [hlent, Option.bind_some]
          dsimp only
          rw [if_neg (nI_ge (show mo - ga - min (mo - ga) la - l' < mo - ga - min (mo - ga) la by omega) (by omega))]
          simp (disch := omega) only [ld1, sto1, l_3, bs, up_at, up_ns, n27, n24, n28, n29, n25, n23, C3, cco, show ((1 : Int32) = 0) = False from by decide, show ((0 : Int32) = 1) = False from by decide, if_true, if_false]
          rw [hw _ (fun k hk => by rw [up_ns (by omega), up_ns (by omega), up_ns (by omega), up_ns (by omega)]; exact n2 k (by omega) (by omega)), Option.bind_some]
        · refine fin _ _ (fun b hb => by rw [up_ne hb, up_ne hb, up_ne hb, up_ne hb]) (fun b hb => by rw [up_ne hb, up_ne hb, up_ne hb, up_ne hb, up_ne hb]) (fun k hk => by rw [up_ns (by omega), up_ns (by omega), up_ns (by omega), up_ns (by omega), up_ns (by omega)]) (fun f hf => by rw [up_ns (by omega), up_ns (by omega), up_ns (by omega), up_ns (by omega)]) ?_ ?_ ?_ ?_ ?_
          · intro f hf
            have f6 : f = 4 ∨ f = 5 ∨ f = 6 ∨ f = 7 ∨ f = 8 ∨ f = 9 := by omega
            rcases f6 with rfl | rfl | rfl | rfl | rfl | rfl
            · simp (disch := omega) only [up_at, up_ns]
            · simp (disch := omega) only [up_at, up_ns, hx]
            · simp (disch := omega) only [up_at, up_ns, n26, m26]
            · simp (disch := omega) only [up_at, up_ns, m27]
            · simp (disch := omega) only [up_at, up_ns, m28, Int32.add_zero]
            · simp (disch := omega) only [up_at, up_ns, m29, Int32.add_zero]
          · simp (disch := omega) only [up_at, up_ns]
          · simp (disch := omega) only [up_at, up_ns]
            exact X4r
          · simp (disch := omega) only [up_at, up_ns]
            exact mxmn_rg
          · simp (disch := omega) only [up_ns, m26]
            exact le_lit (m := 999) (by omega) (by decide)
      · have cco : (nI co = 0) = False := eq_false (nI_ne0 (by omega) (by omega))
        have C6 := C60
        have C3 := n23
        have hx : mx 0 (mn 99 (μ (v + 60 + i) 5 + (w + (-2)))) = mx 0 (mn 99 ((((μ (v + 60 + i) 5 - 2) - 0) + 0) + w)) := by rw [hx_10]
        have hb : ∀ y : Int32, (if y = 0 then some 1 else some 0 : Option Int32) = some (if y = 0 then 1 else 0) := fun y => by split <;> rfl
        have hg : ∀ y : Int32, gb (if y = 0 then 1 else 0) = some (if y = 0 then 1 else 0) := fun y => by split <;> rfl
        refine ⟨up (up (up (up μ2 (v + 60 + i) 4 (mx 0 (nI co - 1))) (v + 60 + i) 8 (μ (v + 60 + i) 8 + 1)) (v + 60 + i) 5 (mx 0 (mn 99 (μ (v + 60 + i) 5 + (w + (-2)))))) (v + 60 + i) 10 (if mx 0 (mn 99 (μ (v + 60 + i) 5 + (w + (-2)))) = 0 then 1 else 0), up (up (up (up (up ν2 1 (96 + 12 * i + 7) (μ (v + 60 + i) 7 + nI (mo - ga - min (mo - ga) la - l'))) 1 (96 + 12 * i + 4) (mx 0 (nI co - 1))) 1 (96 + 12 * i + 8) (μ (v + 60 + i) 8 + 1)) 1 (96 + 12 * i + 9) (μ (v + 60 + i) 9 + 0)) 1 (96 + 12 * i + 5) (mx 0 (mn 99 ((((μ (v + 60 + i) 5 - 2) - 0) + 0) + w))), ?_, ?_, ?_⟩
        · unfold f_9_liveOn f_1_eatOwn f_1_endDay
          generalize hlf : f_9_liveOn_l16 = lentF at g1 ⊢
          rw [c10, if_pos rfl, c2, c3, c6, hk, hs, pk_sub (by omega), pk_sub (by omega), pf_eq, Option.bind_some, Option.bind_some]
          dsimp only
          rw [g1, Option.bind_some]
          dsimp only
          rw [if_neg (nI_nle (by omega) (by omega))]
          simp (disch := omega) only [show ((1 : Int32) = 0) = False from by decide, if_true, if_false, bs, pfs, up_at, up_ns, m24, m25, m28, m29, C6, cco, hb, hg]
        · unfold f_12_eats
          generalize hlf : f_12_lent = lentF at hlent ⊢
          generalize hhf : f_12_heardNow = heardF at hw ⊢
          simp (disch := omega) only [rf_0_0, ix_96_, nI_p2, nI_p3, nI_p4, nI_p5, nI_p6, nI_p7, nI_p8, nI_p9, nI_p11, ld1, sto1, bs, emo', ela', hz7, hk, hs, hS1, hS2]
          rw [hlent, Option.bind_some]
          dsimp only
          rw [if_neg (nI_ge (show mo - ga - min (mo - ga) la - l' < mo - ga - min (mo - ga) la by omega) (by omega))]
          simp (disch := omega) only [ld1, sto1, l_3, bs, up_at, up_ns, n27, n24, n28, n29, n25, n23, C3, cco, show ((1 : Int32) = 0) = False from by decide, show ((0 : Int32) = 1) = False from by decide, if_true, if_false]
          rw [hw _ (fun k hk => by rw [up_ns (by omega), up_ns (by omega), up_ns (by omega), up_ns (by omega)]; exact n2 k (by omega) (by omega)), Option.bind_some]
        · refine fin _ _ (fun b hb => by rw [up_ne hb, up_ne hb, up_ne hb, up_ne hb]) (fun b hb => by rw [up_ne hb, up_ne hb, up_ne hb, up_ne hb, up_ne hb]) (fun k hk => by rw [up_ns (by omega), up_ns (by omega), up_ns (by omega), up_ns (by omega), up_ns (by omega)]) (fun f hf => by rw [up_ns (by omega), up_ns (by omega), up_ns (by omega), up_ns (by omega)]) ?_ ?_ ?_ ?_ ?_
          · intro f hf
            have f6 : f = 4 ∨ f = 5 ∨ f = 6 ∨ f = 7 ∨ f = 8 ∨ f = 9 := by omega
            rcases f6 with rfl | rfl | rfl | rfl | rfl | rfl
            · simp (disch := omega) only [up_at, up_ns]
            · simp (disch := omega) only [up_at, up_ns, hx]
            · simp (disch := omega) only [up_at, up_ns, n26, m26]
            · simp (disch := omega) only [up_at, up_ns, m27]
            · simp (disch := omega) only [up_at, up_ns, m28, Int32.add_zero]
            · simp (disch := omega) only [up_at, up_ns, m29, Int32.add_zero]
          · simp (disch := omega) only [up_at, up_ns]
          · simp (disch := omega) only [up_at, up_ns]
            exact X4r
          · simp (disch := omega) only [up_at, up_ns]
            exact mxmn_rg
          · simp (disch := omega) only [up_ns, m26]
            exact le_lit (m := 999) (by omega) (by decide)
