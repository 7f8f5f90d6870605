/-! pickets: who goes where; the call watch -/
theorem Ew_one {G mi m s X g g' : Nat} {w : Nat → Nat → Nat} {μ : mm} (h1 : Ew G mi w m s μ X g) (h2 : ∀ j, j < g → ¬ Ew G mi w m s μ X j) (h3 : Ew G mi w m s μ X g') (h4 : ∀ j, j < g' → ¬ Ew G mi w m s μ X j) : g = g' := by
  rcases Nat.lt_trichotomy g g' with c | c | c
  · exact absurd h1 (h4 g c)
  · exact c
  · exact absurd h3 (h2 g' c)
theorem ne_m9 {j : Nat} (h : j < 2 ^ 31) : ¬ nI j < 0 := nI_pos h
set_option maxHeartbeats 1000000 in
theorem send_rel {G M mi S : Nat} {w : Nat → Nat → Nat} {μ0 ν0 : mm} {A B : Int32} (h : WS G M mi w μ0 ν0) (hS : S = 2 ^ G) (hT : TB G M mi S w 0 μ0 ν0) : ∀ (n m f1 f2 s r : Nat) (μ ν : mm), m + n = M → n < f1 → n < f2 → s < S → (∃ X, X ≤ 81 ∧ μ0 (76 + m) s = nI X) → (∀ b, b ≠ 74 → μ b = μ0 b) → (∀ b, b ≠ 0 → b ≠ 5 → b ≠ 15 → ν b = ν0 b) → (∀ k, k ≠ 8 → ν 0 k = ν0 0 k) → ν 0 8 = nI r → r + pc s ≤ 4 → ∃ μ' ν' r', f_3_sendMen_l11 71 50 f1 (nI s) (nI m) μ = some μ' ∧ f_12_watch_l71 0 A B f2 (nI s) (nI m) ν = some ν' ∧ ((∀ b, b ≠ 74 → μ' b = μ0 b) ∧ (∀ j, j < m → μ' 74 j = μ 74 j)) ∧ ((∀ b, b ≠ 0 → b ≠ 5 → b ≠ 15 → ν' b = ν0 b) ∧ (∀ k, k ≠ 8 → ν' 0 k = ν0 0 k) ∧ (∀ j, j < m → ν' 15 j = ν 15 j) ∧ (∀ k, k < 2 * r → ν' 5 k = ν 5 k) ∧ ν' 0 8 = nI r') ∧ (r ≤ r' ∧ r' ≤ r + pc s) ∧ (∀ j, m ≤ j → j < M → (μ' 74 j = -1 ∧ ν' 15 j = -9) ∨ ∃ g, g < 4 ∧ μ' 74 j = nI g ∧ ν' 15 j = nI g) ∧ (∀ (f : Nat) (μ2 : mm), n < f → μ2 74 = μ' 74 → μ2 71 = μ0 71 → ∃ μ3, f_11_tellRows_l4 23 f (nI r) (nI m) μ2 = some (nI r', μ3) ∧ (∀ b, b ≠ 38 → μ3 b = μ2 b) ∧ (∀ k, k < 2 * r → μ3 38 k = μ2 38 k) ∧ (∀ k, 2 * r ≤ k → k < 2 * r' → μ3 38 k = ν' 5 k)) := by
  have hG := h.1.1
  have hM := h.1.2.1
  have hS2 := wq_S G (by omega)
  rw [← hS] at hS2
  intro n
  induction n with
  | zero =>
    intro m f1 f2 s r μ ν h1 h2 h3 hs hX hm hn hn0 er hr
    obtain ⟨p, rfl⟩ : ∃ p, f1 = p + 1 := ⟨f1 - 1, by omega⟩
    obtain ⟨q, rfl⟩ : ∃ q, f2 = q + 1 := ⟨f2 - 1, by omega⟩
    obtain rfl : m = M := by omega
    refine ⟨μ, ν, r, ?_, ?_, ⟨hm, fun _ _ => rfl⟩, ⟨hn, hn0, fun _ _ => rfl, fun _ _ => rfl, er⟩, ⟨Nat.le_refl _, by omega⟩, fun j j1 j2 => absurd j1 (by omega), fun f μ2 k1 k2 k3 => ⟨μ2, ?_, fun _ _ => rfl, fun _ _ => rfl, fun k k4 k5 => absurd k4 (by omega)⟩⟩
    · unfold f_3_sendMen_l11
      rw [hm 71 (by decide), h.2.1.2.1, if_pos (Int32.le_refl _)]
    · unfold f_12_watch_l71
      rw [rf_0_0, l_16, hn 1 (by decide) (by decide) (by decide), h.2.2.1.2.1, Option.bind_some, if_pos (Int32.le_refl _)]
    · obtain ⟨f, rfl⟩ : ∃ f', f = f' + 1 := ⟨f - 1, by omega⟩
      unfold f_11_tellRows_l4
      rw [rf_23_0, rf_49_14, k3, h.2.1.2.1, if_pos (Int32.le_refl _)]
  | succ n ih =>
    intro m f1 f2 s r μ ν h1 h2 h3 hs hX hm hn hn0 er hr
    obtain ⟨p, rfl⟩ : ∃ p, f1 = p + 1 := ⟨f1 - 1, by omega⟩
    obtain ⟨q, rfl⟩ : ∃ q, f2 = q + 1 := ⟨f2 - 1, by omega⟩
    obtain ⟨X, hX1, hX2⟩ := hX
    have s16 : s < 16 := by omega
    have dm : ¬ nI M ≤ nI m := lt_n1 (by omega) (by omega)
    have tm := (hT m (by omega) (by omega)).2 s hs
    have hX3 : ν0 14 (16 * m + s) = nI X := by
      rcases tm.1 with ⟨x, x1, x2, x3⟩ | ⟨x2, x3⟩
      · rw [x3, ← x2, hX2]
      · exact absurd ((nI_eq (by omega) (by omega)).mp (x2.symm.trans hX2)) (by omega)
    have hT1 : ∀ s', s' < S → Rs (M - (m + 1)) (μ0 (77 + m) s') (ν0 14 (16 * (m + 1) + s')) := fun s' hs' => by
      have t := ((hT (m + 1) (by omega) (by omega)).2 s' hs').1
      rw [show 76 + (m + 1) = 77 + m from by omega] at t
      exact t
    have rC := pick_C h (show m < M by omega) s16 hs hX1 hX2 (fun s' hs' => ⟨_, hT1 s' hs'⟩) G 0 FU (up μ 74 m (-1)) (by omega) (show G < 2000 by omega) (fun b hb => by rw [up_ne hb]; exact hm b hb) up_at
    obtain ⟨ν2, rM1, rM2, rM3, rM4⟩ := pick_M (A := A) (B := B) h (show m < M by omega) s16 hs hX1 hX3 hT1 G FU (up ν 15 m (-9)) (Nat.le_refl _) (show G < 2000 by omega) (fun b hb => by rw [up_ne (by omega)]; exact hn b (by omega) (by omega) (by omega))
    rw [show nI 0 = 0 from rfl] at rC
    have e0 : ν2 0 = ν 0 := by rw [rM2 0 (by decide), up_ne (by decide)]
    have e1 : ν2 1 = ν0 1 := by rw [rM2 1 (by decide), up_ne (by decide), hn 1 (by decide) (by decide) (by decide)]
    have e5 : ν2 5 = ν 5 := by rw [rM2 5 (by decide), up_ne (by decide)]
    have hd : ∀ x9 : Int32, ν2 15 m = x9 → f_12_watch_l71 0 A B (q + 1) (nI s) (nI m) ν = if x9 < 0 then f_12_watch_l71 0 A B q (nI s) (nI (m + 1)) ν2 else (sto ν2 5 (2 * nI r) (nI m)).bind fun μ13 => (ld μ13 15 (nI m)).bind fun x15 => (sto μ13 5 ((2 * (μ13 0 8)) + 1) x15).bind fun μ17 => (pf μ17 0 8 ((μ17 0 8) + 1)).bind fun μ19 => f_12_watch_l71 0 A B q (nI s ^^^ (1 <<< (x9 &&& 31))) (nI (m + 1)) μ19 := fun x9 e9 => by
      conv => lhs; unfold f_12_watch_l71
      rw [rf_0_0, l_16, hn 1 (by decide) (by decide) (by decide), h.2.2.1.2.1, Option.bind_some, if_neg dm, rf_0_25, stoL len_15 (by omega) (by decide), Option.bind_some, l_15, up_ne (by decide), hn 1 (by decide) (by decide) (by decide), h.2.2.1.1, Option.bind_some, Int32.sub_eq_add_neg, rM1, Option.bind_some, ldL len_15 (by omega) (by decide), e9, Option.bind_some, Option.bind_some, rf_0_6, nI_1, e0, er]
    rcases rC with ⟨c1, c2⟩ | ⟨g0, ⟨-, c1⟩, c2, c3, c4⟩
    · have e9 : ν2 15 m = -9 := by
        rcases rM4 with ⟨-, k⟩ | ⟨g1, k1, k2, -⟩
        · rw [k, up_at]
        · exact absurd k2 (c1 g1 (by omega) k1)
      have hX' : μ0 (76 + (m + 1)) s = nI X := by
        rw [show 76 + (m + 1) = 77 + m from by omega]
        rcases tm.2 (by omega) with e | ⟨g, x, x1, x2, x3, x4, x5, x6⟩
        · rw [← e]; exact hX2
        · exact absurd ⟨x2, x3, x, x4, x5, (nI_eq (by omega) (by have := (h.2.2.2 m g (by omega) x1).1; omega)).mp (hX2.symm.trans x6)⟩ (c1 g (by omega) x1)
      obtain ⟨μ', ν', r', q1, q2, ⟨q3, q4⟩, ⟨q5, q6, q7, q8, q9⟩, ⟨q10, q11⟩, q12, q13⟩ := ih (m + 1) p q s r (up μ 74 m (-1)) ν2 (by omega) (by omega) (by omega) hs ⟨X, hX1, hX'⟩ (fun b hb => by rw [up_ne hb]; exact hm b hb) (fun b b1 b2 b3 => by rw [rM2 b b3, up_ne b3]; exact hn b b1 b2 b3) (fun k hk => by rw [e0]; exact hn0 k hk) (by rw [e0]; exact er) hr
      have f1 : μ' 74 m = -1 := by rw [q4 m (by omega), up_at]
      refine ⟨μ', ν', r', ?_, ?_, ⟨q3, fun j hj => by rw [q4 j (by omega), up_ns (by omega)]⟩, ⟨q5, q6, fun j hj => by rw [q7 j (by omega), rM3 j (by omega), up_ns (by omega)], fun k hk => by rw [q8 k hk, e5], q9⟩, ⟨q10, q11⟩, fun j j1 j2 => ?_, fun f μ2 k1 k2 k3 => ?_⟩
      · unfold f_3_sendMen_l11
        rw [hm 71 (by decide), h.2.1.2.1, if_neg dm, rf_71_5, stoL len_74 (by omega) (by decide), Option.bind_some, c2, Option.bind_some, nI_1]
        exact q1
      · rw [hd _ e9, if_pos (by decide)]
        exact q2
      · by_cases c : j = m
        · subst c
          exact Or.inl ⟨f1, by rw [q7 j (by omega)]; exact e9⟩
        · exact q12 j (by omega) j2
      · obtain ⟨f, rfl⟩ : ∃ f', f = f' + 1 := ⟨f - 1, by omega⟩
        by_cases r4 : r = 4
        · subst r4
          have : r' = 4 := by omega
          subst this
          refine ⟨μ2, ?_, fun _ _ => rfl, fun _ _ => rfl, fun k k4 k5 => absurd k4 (by omega)⟩
          unfold f_11_tellRows_l4
          rw [rf_23_0, rf_49_14, k3, h.2.1.2.1, if_neg dm, if_pos (show (4 : Int32) ≤ nI 4 from Int32.le_refl _)]
        · obtain ⟨μ3, t1, t2⟩ := q13 f μ2 (by omega) k2 k3
          refine ⟨μ3, ?_, t2⟩
          unfold f_11_tellRows_l4
          rw [rf_23_0, rf_49_14, k3, h.2.1.2.1, if_neg dm, if_neg (nle_4 (by omega)), rf_71_5, ldL len_74 (by omega) (by decide), k2, f1, Option.bind_some, if_pos rfl, nI_1]
          exact t1
    · have g4 : g0 < 4 := by omega
      have pcs := pc_c s s16 g0 g4 c2.1
      have e9 : ν2 15 m = nI g0 := by
        rcases rM4 with ⟨k, -⟩ | ⟨g1, k1, k2, k3, k4⟩
        · exact absurd c2 (k g0 c1)
        · rw [k4, Ew_one c2 (fun j hj => c3 j (by omega) hj) k2 k3]
      obtain ⟨-, -, x, x1, x2, x3⟩ := id c2
      have hsub : s - 2 ^ g0 < S := by have := Nat.sub_le s (2 ^ g0); omega
      have i1 : (2 * nI r : Int32) = nI (2 * r) := by rw [show (2 : Int32) = nI 2 from rfl, pk_mul]
      obtain ⟨μ', ν', r', q1, q2, ⟨q3, q4⟩, ⟨q5, q6, q7, q8, q9⟩, ⟨q10, q11⟩, q12, q13⟩ := ih (m + 1) p q (s - 2 ^ g0) (r + 1) (up (up μ 74 m (-1)) 74 m (nI g0)) (up (up (up ν2 5 (2 * r) (nI m)) 5 (2 * r + 1) (nI g0)) 0 8 (nI (r + 1))) (by omega) (by omega) (by omega) hsub ⟨x, by omega, by rw [show 76 + (m + 1) = 77 + m from by omega]; exact x2⟩ (fun b hb => by rw [up_ne hb, up_ne hb]; exact hm b hb) (fun b b1 b2 b3 => by rw [up_ne b1, up_ne b2, up_ne b2, rM2 b b3, up_ne b3]; exact hn b b1 b2 b3) (fun k hk => by rw [up_ns hk, up_ne (by decide), up_ne (by decide), e0]; exact hn0 k hk) up_at (by omega)
      have f1 : μ' 74 m = nI g0 := by rw [q4 m (by omega), up_at]
      refine ⟨μ', ν', r', ?_, ?_, ⟨q3, fun j hj => by rw [q4 j (by omega), up_ns (by omega), up_ns (by omega)]⟩, ⟨q5, q6, fun j hj => by rw [q7 j (by omega), up_ne (by decide), up_ne (by decide), up_ne (by decide), rM3 j (by omega), up_ns (by omega)], fun k hk => by rw [q8 k (by omega), up_ne (by decide), up_ns (by omega), up_ns (by omega), e5], q9⟩, ⟨by omega, by omega⟩, fun j j1 j2 => ?_, fun f μ2 k1 k2 k3 => ?_⟩
      · unfold f_3_sendMen_l11
        rw [hm 71 (by decide), h.2.1.2.1, if_neg dm, rf_71_5, stoL len_74 (by omega) (by decide), Option.bind_some, c4, Option.bind_some, nI_1]
        exact q1
      · rw [hd _ e9, if_neg (nI_pos (by omega)), i1, stoL len_5 (by omega) (by decide), Option.bind_some, ldL len_15 (by omega) (by decide), up_ne (by decide), e9, Option.bind_some, up_ne (by decide), e0, er, i1, nI_1, stoL len_5 (by omega) (by decide), Option.bind_some, up_ne (by decide), up_ne (by decide), e0, er, nI_1, pf_eq, Option.bind_some, wq_xor s s16 g0 g4 c2.1]
        exact q2
      · by_cases c : j = m
        · subst c
          exact Or.inr ⟨g0, g4, f1, by rw [q7 j (by omega), up_ne (by decide), up_ne (by decide), up_ne (by decide)]; exact e9⟩
        · exact q12 j (by omega) j2
      · obtain ⟨f, rfl⟩ : ∃ f', f = f' + 1 := ⟨f - 1, by omega⟩
        obtain ⟨μ3, t1, t2, t3, t4⟩ := q13 f (up (up μ2 38 (2 * r) (nI m)) 38 (2 * r + 1) (nI g0)) (by omega) (by rw [up_ne (by decide), up_ne (by decide)]; exact k2) (by rw [up_ne (by decide), up_ne (by decide)]; exact k3)
        have n5 : ∀ k, k < 2 * (r + 1) → ν' 5 k = up (up ν2 5 (2 * r) (nI m)) 5 (2 * r + 1) (nI g0) 5 k := fun k hk => by rw [q8 k hk, up_ne (by decide)]
        refine ⟨μ3, ?_, fun b hb => by rw [t2 b hb, up_ne hb, up_ne hb], fun k hk => by rw [t3 k (by omega), up_ns (by omega), up_ns (by omega)], fun k k4 k5 => ?_⟩
        · unfold f_11_tellRows_l4
          rw [rf_23_0, rf_49_14, k3, h.2.1.2.1, if_neg dm, if_neg (nle_4 (by omega)), rf_71_5, ldL len_74 (by omega) (by decide), k2, f1, Option.bind_some, if_neg (ne_m1 (by omega)), rf_23_7, i1, stoL len_38 (by omega) (by decide), Option.bind_some, ldL len_74 (by omega) (by decide), up_ne (by decide), k2, f1, Option.bind_some, nI_1, stoL len_38 (by omega) (by decide), Option.bind_some, nI_1, nI_1]
          exact t1
        · by_cases c : k = 2 * r
          · subst c
            rw [t3 _ (by omega), n5 _ (by omega), up_ns (by omega), up_at, up_ns (by omega), up_at]
          · by_cases c' : k = 2 * r + 1
            · subst c'
              rw [t3 _ (by omega), n5 _ (by omega), up_at, up_at]
            · exact t4 k (by omega) k5
theorem told_l {r : Nat} (hr : r ≤ 4) {A B : Int32} {ν0 : mm} : ∀ (n i f : Nat) (ν : mm), i + n = 2 * r → n < f → (∀ b, b ≠ 6 → ν b = ν0 b) → ν0 0 8 = nI r → (∀ k, k < i → ν 6 k = ν0 5 k) → ∃ ν', f_12_watch_l278 0 A B f (nI i) ν = some ν' ∧ (∀ b, b ≠ 6 → ν' b = ν0 b) ∧ (∀ k, k < 2 * r → ν' 6 k = ν0 5 k) := by
  intro n
  induction n with
  | zero =>
    intro i f ν h1 h2 hn e0 hD
    obtain ⟨q, rfl⟩ : ∃ q, f = q + 1 := ⟨f - 1, by omega⟩
    refine ⟨ν, ?_, hn, fun k hk => hD k (by omega)⟩
    unfold f_12_watch_l278
    rw [hn 0 (by decide), e0, show (2 * nI r : Int32) = nI i from by rw [show (2 : Int32) = nI 2 from rfl, pk_mul, show 2 * r = i from by omega], if_pos (Int32.le_refl _)]
  | succ n ih =>
    intro i f ν h1 h2 hn e0 hD
    obtain ⟨q, rfl⟩ : ∃ q, f = q + 1 := ⟨f - 1, by omega⟩
    obtain ⟨ν', q1, q2⟩ := ih (i + 1) q (up ν 6 i (ν0 5 i)) (by omega) (by omega) (fun b hb => by rw [up_ne hb]; exact hn b hb) e0 (fun k hk => by
      by_cases c : k = i
      · subst c; exact up_at
      · rw [up_ns c]; exact hD k (by omega))
    refine ⟨ν', ?_, q2⟩
    unfold f_12_watch_l278
    rw [hn 0 (by decide), e0, show (2 * nI r : Int32) = nI (2 * r) from by rw [show (2 : Int32) = nI 2 from rfl, pk_mul], if_neg (lt_n1 (by omega) (by omega)), rf_0_6, ldL len_5 (by omega) (by decide), hn 5 (by decide), Option.bind_some, rf_0_7, stoL len_6 (by omega) (by decide), Option.bind_some, nI_1]
    exact q1
theorem Cp_WS {μ ν : mm} (h : Cp μ ν) : ∃ G M mi w, WS G M mi w μ ν := by
  obtain ⟨G, hG, eG, nG⟩ := cnt_of (m := 4) (by decide) h.2.1.2.1.2.2.2.2.2.2.2.1
  obtain ⟨M, hM, eM, nM⟩ := cnt_of (m := 8) (by decide) h.2.1.2.1.2.2.2.2.2.2.2.2.1
  obtain ⟨mi, hmi, emi, -⟩ := cnt_of (m := 9) (by decide) h.2.1.1.2.2.2.2.2.1
  obtain ⟨V, hV, eV, -⟩ := cnt_of (m := 6) (by decide) h.2.1.2.1.1
  refine ⟨G, M, mi, fun m g => nn (ν 1 (20 + 6 * nn (ν 1 (859 + m)) + nn (ν 1 (855 + g)))), ⟨hG, hM, hmi⟩, ⟨(h.1.1 15 (by decide)).symm.trans eG, (h.1.1 16 (by decide)).symm.trans eM, (h.1.1 5 (by decide)).symm.trans emi⟩, ⟨eG, eM, emi⟩, fun m g hm hg => ?_⟩
  have r1 := h.2.1.2.2.2.2.2.2.2.2.2.2.1 m (by omega)
  have r2 := h.2.1.2.2.2.2.2.2.2.2.2.1 g (by omega)
  rw [eV] at r1 r2
  obtain ⟨a, ha, ea⟩ := vil_of hV r1
  obtain ⟨b, hb, eb⟩ := vil_of hV r2
  have r3 := h.2.1.2.2.1 a b (by omega) (by omega)
  obtain ⟨x, hx, ex, nx⟩ := cnt_of (m := 9) (by decide) r3
  have eq : nn (ν 1 (20 + 6 * nn (ν 1 (859 + m)) + nn (ν 1 (855 + g)))) = x := by rw [ea, eb, nn_nI (by omega), nn_nI (by omega), nx]
  dsimp only
  rw [eq]
  have u1 := h.1.2.2.2.2.2.2.2.2.2.1 m (by omega)
  have u2 := h.1.2.2.2.2.2.2.2.2.1 g (by omega)
  have u3 := h.1.2.1 a b (by omega) (by omega)
  exact ⟨hx, a, b, ⟨by omega, by omega⟩, ⟨u1.symm.trans ea, u2.symm.trans eb, u3.symm.trans ex⟩, ⟨ea, eb, ex⟩⟩
