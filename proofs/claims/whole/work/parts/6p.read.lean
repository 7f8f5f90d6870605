/-! the call read -/
theorem sS_e {T : Nat → Nat} {n p : Nat} : sS T n p = 0 ↔ ¬ p < n := by
  unfold sS
  by_cases c : p < n
  · rw [if_pos c]
    refine ⟨fun z => ?_, fun z => absurd c z⟩
    exfalso
    split at z
    · exact absurd z (by decide)
    · split at z <;> exact absurd z (by decide)
  · rw [if_neg c]
    exact ⟨fun _ => c, fun _ => rfl⟩
theorem FN_k {ν : mm} {k : Nat} {x : Int32} (h : 10 ≤ k ∧ k ≤ 16) : FN ν (up ν 0 k x) := ⟨fun b b1 _ _ => up_ne b1, fun j hj => up_ns (by omega)⟩
theorem lines_rel {T : Nat → Nat} {n c : Nat} {A : Int32} {μ0 ν0 : mm} : ∀ (m l i z y f1 f2 : Nat) (μ ν : mm), l + m = 10 → m < f1 → m + 1 < f2 → PS T n c i 0 z y μ ν → μ 26 0 = nI l → ν 0 16 = nI l → (∀ k, k < l → LR z y μ ν k) → FL μ0 μ → FN ν0 ν → ∃ v μ' ν', f_8_useUp_l35 24 f1 1 (nI l) μ = some (v, μ') ∧ f_12_read_l29 0 A f2 ν = some ν' ∧ FL μ0 μ' ∧ FN ν0 ν' ∧ ((v = 1 ∧ μ' 24 7 = -1 ∧ ν' 0 13 = 0 ∧ ∃ l' z' y', l' ≤ 10 ∧ z' ≤ 300 ∧ y' ≤ 100 ∧ μ' 26 0 = nI l' ∧ μ' 26 5 = nI z' ∧ ν' 0 16 = nI l' ∧ ν' 0 15 = nI y' ∧ ∀ k, k < l' → LR z' y' μ' ν' k) ∨ ((v = 0 ∨ (v = 1 ∧ ¬ μ' 24 7 = -1)) ∧ ν' 0 13 = 1 ∧ ∃ i', i' ≤ c ∧ μ' 24 6 = nI i' ∧ ν' 0 10 = nI (pz T n i'))) := by
  intro m
  induction m with
  | zero =>
    intro l i z y f1 f2 μ ν h1 h2 h3 hP h0 h16 hL f1' f2'
    obtain ⟨p, rfl⟩ : ∃ p, f1 = p + 1 := ⟨f1 - 1, by omega⟩
    obtain ⟨q, rfl⟩ : ∃ q, f2 = q + 1 + 1 := ⟨f2 - 2, by omega⟩
    obtain rfl : l = 10 := by omega
    have e7 := hP.1.2.2.2.1
    have hC : f_8_useUp_l35 24 (p + 1) 1 (nI 10) μ = some (1, μ) := by
      unfold f_8_useUp_l35
      rw [if_pos (show (10 : Int32) ≤ nI 10 from Int32.le_refl _)]
    have e12 := hP.2.1.2.2.2.2
    by_cases hcn : pz T n i < n
    · have hM : f_12_read_l29 0 A (q + 1 + 1) ν = some (up ν 0 13 1) := by
        unfold f_12_read_l29
        rw [if_pos hP.2.2.1, e12, if_neg (fun t => absurd hcn (sS_e.mp t)), h16, if_pos (show nI 10 = 10 from rfl), Option.bind_some, gb_1, Option.bind_some, pf_eq, Option.bind_some, up_at, if_neg (by decide)]
        unfold f_12_read_l29
        rw [up_at, if_neg (by decide)]
      refine ⟨1, μ, up ν 0 13 1, hC, hM, f1', FN_t f2' (FN_k (by omega)), Or.inr ⟨Or.inr ⟨rfl, ?_⟩, up_at, i, hP.1.2.1, hP.1.2.2.1, ?_⟩⟩
      · rw [e7, cd_e (PS_T hP)]; omega
      · rw [up_ns (by decide)]; exact hP.2.1.2.2.1
    · have hM : f_12_read_l29 0 A (q + 1 + 1) ν = some ν := by
        unfold f_12_read_l29
        rw [if_pos hP.2.2.1, e12, if_pos (sS_e.mpr hcn)]
      have c300 := hP.1.1.1
      have hz := hP.1.2.2.2.2.2
      have hi := hP.1.2.1
      have hy := hP.2.2.2.2.2
      have hpn := pz_le (T := T) (n := n) i
      have hn := hP.2.1.1.1
      exact ⟨1, μ, ν, hC, hM, f1', f2', Or.inl ⟨rfl, by rw [e7, cd_e (PS_T hP)]; exact hcn, hP.2.2.1, 10, z, y, Nat.le_refl _, by omega, by omega, h0, hP.1.2.2.2.2.1, h16, hP.2.2.2.2.1, hL⟩⟩
  | succ m ih =>
    intro l i z y f1 f2 μ ν h1 h2 h3 hP h0 h16 hL f1' f2'
    obtain ⟨p, rfl⟩ : ∃ p, f1 = p + 1 := ⟨f1 - 1, by omega⟩
    obtain ⟨q, rfl⟩ : ∃ q, f2 = q + 1 := ⟨f2 - 1, by omega⟩
    have e7 := hP.1.2.2.2.1
    have e12 := hP.2.1.2.2.2.2
    have d10 : ¬ (10 : Int32) ≤ nI l := nI_ge (b := 10) (by omega) (by decide)
    by_cases hcn : pz T n i < n
    · have n7 : ¬ μ 24 7 = -1 := by rw [e7, cd_e (PS_T hP)]; omega
      obtain ⟨r, μ1, ν1, k1, k2, k3⟩ := line_rel hP (show l < 10 by omega) h0 h16 hL
      have hC : f_8_useUp_l35 24 (p + 1) 1 (nI l) μ = f_8_useUp_l35 24 p r (nI (l + 1)) μ1 := by
        conv => lhs; unfold f_8_useUp_l35
        rw [if_neg d10, if_neg (show ¬ (1 : Int32) = 0 by decide), if_neg n7, k1, Option.bind_some, nI_1]
      have i4 : (4 * nI l : Int32) = nI (4 * l) := by rw [show (4 : Int32) = nI 4 from rfl, pk_mul]
      have n10 : ¬ nI l = 10 := fun t => absurd ((nI_eq (b := 10) (by omega) (by decide)).mp t) (by omega)
      have hM : f_12_read_l29 0 A (q + 1) ν = f_12_read_l29 0 A q (up ν1 0 16 ((ν1 0 16) + 1)) := by
        conv => lhs; unfold f_12_read_l29
        rw [if_pos hP.2.2.1, e12, if_neg (fun t => absurd hcn (sS_e.mp t)), h16, if_neg n10, Option.bind_some, gb_0, Option.bind_some, pf_eq, Option.bind_some, up_self hP.2.2.1, if_pos hP.2.2.1, h16, i4, k2, Option.bind_some, pf_eq, Option.bind_some]
      rw [hC, hM]
      rcases k3 with ⟨rfl, i', z', y', -, hP', g0, g16, gL, gF, gN⟩ | ⟨rfl, hB⟩
      · rw [g16, nI_1]
        have hP2 : PS T n c i' 0 z' y' μ1 (up ν1 0 16 (nI (l + 1))) := by
          obtain ⟨hC', hM', m1, m2, m3, m4⟩ := hP'
          exact ⟨hC', MP_cg hM' (fun k hk => up_ns (by omega)) (up_ne (by decide)), by rw [up_ns (by decide)]; exact m1, by rw [up_ns (by decide)]; exact m2, by rw [up_ns (by decide)]; exact m3, m4⟩
        exact ih (l + 1) i' z' y' p q μ1 _ (by omega) (by omega) (by omega) hP2 g0 up_at (fun k hk => LR_cg (gL k hk) (Nat.le_refl _) (Nat.le_refl _) ⟨rfl, rfl, rfl, rfl⟩ (fun _ _ => rfl) (fun j _ => by rw [up_ne (by decide)]) (fun j _ => by rw [up_ne (by decide)])) (FL_t f1' gF) (FN_t (FN_t f2' gN) (FN_k (by omega)))
      · obtain ⟨p, rfl⟩ : ∃ p', p = p' + 1 := ⟨p - 1, by omega⟩
        obtain ⟨q, rfl⟩ : ∃ q', q = q' + 1 := ⟨q - 1, by omega⟩
        obtain ⟨⟨i', j1, j2, j3⟩, j4, j5, j6⟩ := hB
        refine ⟨0, μ1, up ν1 0 16 ((ν1 0 16) + 1), ?_, ?_, FL_t f1' j5, FN_t (FN_t f2' j6) (FN_k (by omega)), Or.inr ⟨Or.inl rfl, by rw [up_ns (by decide)]; exact j4, i', j1, j2, by rw [up_ns (by decide)]; exact j3⟩⟩
        · unfold f_8_useUp_l35
          by_cases t : (10 : Int32) ≤ nI (l + 1)
          · rw [if_pos t]
          · rw [if_neg t, if_pos rfl]
        · unfold f_12_read_l29
          rw [up_ns (by decide), if_neg (show ¬ ν1 0 13 = 0 from by rw [j4]; decide)]
    · have hM : f_12_read_l29 0 A (q + 1) ν = some ν := by
        unfold f_12_read_l29
        rw [if_pos hP.2.2.1, e12, if_pos (sS_e.mpr hcn)]
      have m7 : μ 24 7 = -1 := by rw [e7, cd_e (PS_T hP)]; exact hcn
      have hC : f_8_useUp_l35 24 (p + 1) 1 (nI l) μ = some (1, μ) := by
        unfold f_8_useUp_l35
        rw [if_neg d10, if_neg (by decide), if_pos m7]
      have c300 := hP.1.1.1
      have hz := hP.1.2.2.2.2.2
      have hi := hP.1.2.1
      have hy := hP.2.2.2.2.2
      have hpn := pz_le (T := T) (n := n) i
      have hn := hP.2.1.1.1
      exact ⟨1, μ, ν, hC, hM, f1', f2', Or.inl ⟨rfl, m7, hP.2.2.1, l, z, y, by omega, by omega, by omega, h0, hP.1.2.2.2.2.1, h16, hP.2.2.2.2.1, hL⟩⟩
/-- what a text was read to, on both sides -/
def RD (x : Int32) (μ ν : mm) : Prop := (x = -1 ∧ ν 0 13 = 0 ∧ ∃ l z y, l ≤ 10 ∧ z ≤ 300 ∧ y ≤ 100 ∧ μ 26 0 = nI l ∧ μ 26 5 = nI z ∧ ν 0 16 = nI l ∧ ν 0 15 = nI y ∧ ∀ k, k < l → LR z y μ ν k) ∨ (ν 0 13 = 1 ∧ ∃ p : Nat, p ≤ 300 ∧ x = nI p ∧ ν 0 10 = nI p)
theorem use_rel {A : Int32} {μ ν : mm} (h : Tp μ ν) : ∃ x μ' ν', f_8_useUp 24 μ = some (x, μ') ∧ ((pf ν 0 11 0).bind fun μ1 => (pf μ1 0 13 0).bind fun μ3 => (pf μ3 0 14 0).bind fun μ5 => (pf μ5 0 15 0).bind fun μ7 => (pf μ7 0 16 0).bind fun μ9 => (f_12_next 0 μ9).bind fun μ12 => f_12_read_l29 0 A FU μ12) = some ν' ∧ RD x μ' ν' ∧ μ' 24 1 = 0 ∧ (∀ b, b ≠ 24 → (b < 26 ∨ 34 < b) → μ' b = μ b) ∧ (∀ b, b ≠ 0 → b ≠ 7 → b ≠ 8 → ν' b = ν b) ∧ (∀ k, ¬ (10 ≤ k ∧ k ≤ 16) → ν' 0 k = ν 0 k) := by
  obtain ⟨T, n, hT⟩ := Tp_TP h
  obtain ⟨c, μ2, a1, hK, a3⟩ := split_C hT
  have c300 := hK.1
  obtain ⟨ν9, h9⟩ : ∃ ν9, ν9 = up (up (up (up (up ν 0 11 0) 0 13 0) 0 14 0) 0 15 0) 0 16 0 := ⟨_, rfl⟩
  have n9 : ∀ k, ¬ (11 ≤ k ∧ k ≤ 16) → ν9 0 k = ν 0 k := fun k hk => by rw [h9, up_ns (by omega), up_ns (by omega), up_ns (by omega), up_ns (by omega), up_ns (by omega)]
  have b9 : ∀ b, b ≠ 0 → ν9 b = ν b := fun b hb => by rw [h9, up_ne hb, up_ne hb, up_ne hb, up_ne hb, up_ne hb]
  have hTM : TM T n ν9 := TM_cg (TP_TM hT) (n9 5 (by omega)) (b9 4 (by decide))
  obtain ⟨ν12, m1, m2, m3, m4⟩ := next_M hTM (q := 0) (Nat.zero_le _) (by rw [h9, up_ns (by decide), up_ns (by decide), up_ns (by decide), up_ns (by decide), up_at]; rfl)
  obtain ⟨μ11, h11⟩ : ∃ μ11, μ11 = up (up (up (up (up μ2 24 1 0) 26 0 0) 26 5 0) 24 6 0) 24 7 (cd T n (pz T n 0)) := ⟨_, rfl⟩
  have b11 : ∀ b, b ≠ 24 → b ≠ 26 → μ11 b = μ2 b := fun b b1 b2 => by rw [h11, up_ne b1, up_ne b1, up_ne b2, up_ne b2, up_ne b1]
  have hP : PS T n c 0 0 0 0 μ11 ν12 := by
    refine ⟨⟨TK_cg hK (b11 32 (by decide) (by decide)) (b11 33 (by decide) (by decide)) (b11 34 (by decide) (by decide)), Nat.zero_le _, ?_, ?_, ?_, Nat.le_refl _⟩, m2, ?_, ?_, ?_, Nat.zero_le _⟩
    · rw [h11, up_ns (by decide), up_at]; rfl
    · rw [h11, up_at]
    · rw [h11, up_ne (by decide), up_ne (by decide), up_at]; rfl
    · rw [m3 13 (by decide) (by decide) (by decide), h9, up_ns (by decide), up_ns (by decide), up_ns (by decide), up_at]
    · rw [m3 14 (by decide) (by decide) (by decide), h9, up_ns (by decide), up_ns (by decide), up_at]; rfl
    · rw [m3 15 (by decide) (by decide) (by decide), h9, up_ns (by decide), up_at]; rfl
  obtain ⟨v, μ', ν', k1, k2, k3, k4, k5⟩ := lines_rel (A := A) (μ0 := μ11) (ν0 := ν12) 10 0 0 0 0 FU FU μ11 ν12 rfl (show 10 < 2000 by decide) (show 10 + 1 < 2000 by decide) hP (by rw [h11, up_ne (by decide), up_ne (by decide), up_ns (by decide), up_at]; rfl) (by rw [m3 16 (by decide) (by decide) (by decide), h9, up_at]; rfl) (fun k hk => absurd hk (by omega)) FL_r FN_r
  rw [show nI 0 = 0 from rfl] at k1
  have hU : f_8_useUp 24 μ = if v = 0 then (ld μ' 33 (μ' 24 6)).bind fun x15 => some (x15, μ') else if (μ' 24 7) = (-1) then some ((-1), μ') else (ld μ' 33 (μ' 24 6)).bind fun x17 => some (x17, μ') := by
    have hA := hK.2.2.2 0 (by omega)
    unfold f_8_useUp f_5_clear
    rw [a1, Option.bind_some, pf_eq, Option.bind_some, rf_24_2, pf_eq, Option.bind_some, pf_eq, Option.bind_some, Option.bind_some, pf_eq, Option.bind_some, rf_24_3, show (0 : Int32) = nI 0 from rfl, ldL len_32 (by decide) (by decide), up_ne (by decide), up_ne (by decide), up_ne (by decide), up_ne (by decide), hA.1, Option.bind_some, pf_eq, Option.bind_some]
    rw [show nI 0 = 0 from rfl, ← h11, k1, Option.bind_some, rf_24_4]
  have hR : ((pf ν 0 11 0).bind fun μ1 => (pf μ1 0 13 0).bind fun μ3 => (pf μ3 0 14 0).bind fun μ5 => (pf μ5 0 15 0).bind fun μ7 => (pf μ7 0 16 0).bind fun μ9 => (f_12_next 0 μ9).bind fun μ12 => f_12_read_l29 0 A FU μ12) = some ν' := by
    rw [pf_eq, Option.bind_some, pf_eq, Option.bind_some, pf_eq, Option.bind_some, pf_eq, Option.bind_some, pf_eq, Option.bind_some, ← h9, m1, Option.bind_some, k2]
  have fr1 : μ' 24 1 = 0 := by rw [k3.2 1 (by decide) (by decide), h11, up_ns (by decide), up_ns (by decide), up_ne (by decide), up_ne (by decide), up_at]
  have fr2 : ∀ b, b ≠ 24 → (b < 26 ∨ 34 < b) → μ' b = μ b := fun b b1 b2 => by rw [k3.1 b b1 (by omega), b11 b b1 (by omega), a3 b (by omega) (by omega) (by omega)]
  have fr3 : ∀ b, b ≠ 0 → b ≠ 7 → b ≠ 8 → ν' b = ν b := fun b b1 b2 b3 => by rw [k4.1 b b1 b2 b3, m4 b b1, b9 b b1]
  have fr4 : ∀ k, ¬ (10 ≤ k ∧ k ≤ 16) → ν' 0 k = ν 0 k := fun k hk => by rw [k4.2 k hk, m3 k (by omega) (by omega) (by omega), n9 k (by omega)]
  rcases k5 with ⟨rfl, q1, q2, q3⟩ | ⟨q1, q2, i', q3, q4, q5⟩
  · refine ⟨-1, μ', ν', ?_, hR, Or.inl ⟨rfl, q2, q3⟩, fr1, fr2, fr3, fr4⟩
    rw [hU, if_neg (by decide), if_pos q1]
  · have hA := hK.2.2.2 i' (by omega)
    have e33 : μ' 33 = μ2 33 := by rw [k3.1 33 (by decide) (by omega), b11 33 (by decide) (by decide)]
    have hn := hT.1
    have hp := pz_le (T := T) (n := n) i'
    have l33 : ld μ' 33 (μ' 24 6) = some (nI (pz T n i')) := by rw [q4, ldL len_33 (by omega) (by decide), e33, hA.2.1]
    refine ⟨nI (pz T n i'), μ', ν', ?_, hR, Or.inr ⟨q2, pz T n i', by omega, rfl, q5⟩, fr1, fr2, fr3, fr4⟩
    rcases q1 with rfl | ⟨rfl, q1⟩
    · rw [hU, if_pos rfl, l33, Option.bind_some]
    · rw [hU, if_neg (by decide), if_neg q1, l33, Option.bind_some]
/-- the tape is used up; what it was read to lies apart -/
theorem Cp_used {μ μ' ν ν' : mm} (h : Cp μ ν) (h1 : μ' 24 1 = 0) (hm : ∀ b, b ≠ 24 → (b < 26 ∨ 34 < b) → μ' b = μ b) (hn : ∀ b, b ≠ 0 → b ≠ 7 → b ≠ 8 → ν' b = ν b) (h5 : ν' 0 5 = 0) (h0 : ∀ k, k ≠ 5 → ¬ (10 ≤ k ∧ k ≤ 16) → ν' 0 k = ν 0 k) : Cp μ' ν' := by
  obtain ⟨hV, hI, ⟨k1, k2, k3⟩, ht, hr, hs, hv, hc⟩ := h
  refine ⟨?_, ?_, ⟨?_, ?_, fun e => ?_⟩, ?_, ?_, ?_, ?_, ?_⟩
  · rw [hn 1 (by decide) (by decide) (by decide)]
    exact VP_congr (fun _ _ => rfl) (fun b a1 a2 => hm b (by omega) (by omega)) (IV_nn hI) hV
  · rw [hn 1 (by decide) (by decide) (by decide)]; exact hI
  · rw [hm 23 (by decide) (by omega), h0 3 (by decide) (by omega)]; exact k1
  · rw [hm 23 (by decide) (by omega)]; exact k2
  · rw [hm 23 (by decide) (by omega)] at e
    obtain ⟨q1, q2⟩ := k3 e
    rw [hn 2 (by decide) (by decide) (by decide)]
    exact ⟨VP_congr (fun _ _ => rfl) (fun b a1 a2 => hm b (by omega) (by omega)) (IV_nn q2) q1, q2⟩
  · exact ⟨0, by omega, h1, h5, fun k hk => absurd hk (by omega)⟩
  · unfold Rw
    rw [hm 23 (by decide) (by omega), h0 8 (by decide) (by omega), h0 9 (by decide) (by omega), hm 37 (by decide) (by omega), hm 38 (by decide) (by omega), hn 5 (by decide) (by decide) (by decide), hn 6 (by decide) (by decide) (by decide)]
    exact hr
  · exact Sh_cg (fun b q => hm b (by omega) (by omega)) (fun b q => hn b (by omega) (by omega) (by omega)) hs
  · exact Sv_cg (fun b q => hm b (by omega) (by omega)) (fun b q => hn b (by omega) (by omega) (by omega)) hv
  · exact Tc_cg ⟨hm 35 (by decide) (by omega), hm 36 (by decide) (by omega)⟩ ⟨h0 33 (by decide) (by omega), hn 22 (by decide) (by decide) (by decide)⟩ hc
theorem cpN_in {μ : mm} {s t n k : Nat} (h : k < n) : cpM μ s 0 t 0 n t k = μ s k := by
  show (if t = t then va_cpy (μ s) (μ t) 0 0 n else μ t) k = _
  rw [if_pos rfl, pk_cpy_in (by omega) (by omega), show 0 + (k - 0) = k from by omega]
/-- the rules of a side are taken from the draft -/
theorem draft_C {s l z : Nat} {μ : mm} (hs : s < 3) (hl : l ≤ 10) (hz : z ≤ 300) (e0 : μ 26 0 = nI l) (e5 : μ 26 5 = nI z) : ∃ μ', f_5_takeFrom (125 + 6 * s) 26 μ = some μ' ∧ μ' (125 + 6 * s) 0 = nI l ∧ μ' (125 + 6 * s) 5 = nI z ∧ (∀ k, k < l → μ' (126 + 6 * s) k = μ 27 k ∧ μ' (127 + 6 * s) k = μ 28 k ∧ μ' (128 + 6 * s) k = μ 29 k ∧ μ' (129 + 6 * s) k = μ 30 k) ∧ (∀ k, k < z → μ' (130 + 6 * s) k = μ 31 k) ∧ (∀ b, (b < 125 + 6 * s ∨ 130 + 6 * s < b) → μ' b = μ b) := by
  have hv := isV_now
  have r1 : rf (125 + 6 * s) 1 = 126 + 6 * s := by have := rR_1 hv hs; rw [show 49 + 76 + 6 * s = 125 + 6 * s from by omega, show 49 + 77 + 6 * s = 126 + 6 * s from by omega] at this; exact this
  have r2 : rf (125 + 6 * s) 2 = 127 + 6 * s := by have := rR_2 hv hs; rw [show 49 + 76 + 6 * s = 125 + 6 * s from by omega, show 49 + 78 + 6 * s = 127 + 6 * s from by omega] at this; exact this
  have r3 : rf (125 + 6 * s) 3 = 128 + 6 * s := by have := rR_3 hv hs; rw [show 49 + 76 + 6 * s = 125 + 6 * s from by omega, show 49 + 79 + 6 * s = 128 + 6 * s from by omega] at this; exact this
  have r4 : rf (125 + 6 * s) 4 = 129 + 6 * s := by have := rR_4 hv hs; rw [show 49 + 76 + 6 * s = 125 + 6 * s from by omega, show 49 + 80 + 6 * s = 129 + 6 * s from by omega] at this; exact this
  have r6 : rf (125 + 6 * s) 6 = 130 + 6 * s := by have := rR_6 hv hs; rw [show 49 + 76 + 6 * s = 125 + 6 * s from by omega, show 49 + 81 + 6 * s = 130 + 6 * s from by omega] at this; exact this
  have l1 : len (126 + 6 * s) = 10 := by have := lR_77 hv hs; rw [show 49 + 77 + 6 * s = 126 + 6 * s from by omega] at this; exact this
  have l2 : len (127 + 6 * s) = 10 := by have := lR_78 hv hs; rw [show 49 + 78 + 6 * s = 127 + 6 * s from by omega] at this; exact this
  have l3 : len (128 + 6 * s) = 10 := by have := lR_79 hv hs; rw [show 49 + 79 + 6 * s = 128 + 6 * s from by omega] at this; exact this
  have l4 : len (129 + 6 * s) = 10 := by have := lR_80 hv hs; rw [show 49 + 80 + 6 * s = 129 + 6 * s from by omega] at this; exact this
  have l6 : len (130 + 6 * s) = 300 := by have := lR_81 hv hs; rw [show 49 + 81 + 6 * s = 130 + 6 * s from by omega] at this; exact this
  obtain ⟨μ3, h3⟩ : ∃ μ3, μ3 = up (up μ (125 + 6 * s) 0 (nI l)) (125 + 6 * s) 5 (nI z) := ⟨_, rfl⟩
  have b3 : ∀ b, b ≠ 125 + 6 * s → μ3 b = μ b := fun b hb => by rw [h3, up_ne hb, up_ne hb]
  have e30 : μ3 (125 + 6 * s) 0 = nI l := by rw [h3, up_ns (by decide), up_at]
  have e35 : μ3 (125 + 6 * s) 5 = nI z := by rw [h3, up_at]
  obtain ⟨μ5, h5⟩ : ∃ μ5, μ5 = cpM μ3 27 0 (126 + 6 * s) 0 l := ⟨_, rfl⟩
  obtain ⟨μ7, h7⟩ : ∃ μ7, μ7 = cpM μ5 28 0 (127 + 6 * s) 0 l := ⟨_, rfl⟩
  obtain ⟨μ9, h9⟩ : ∃ μ9, μ9 = cpM μ7 29 0 (128 + 6 * s) 0 l := ⟨_, rfl⟩
  obtain ⟨μ11, h11⟩ : ∃ μ11, μ11 = cpM μ9 30 0 (129 + 6 * s) 0 l := ⟨_, rfl⟩
  obtain ⟨μ13, h13⟩ : ∃ μ13, μ13 = cpM μ11 31 0 (130 + 6 * s) 0 z := ⟨_, rfl⟩
  have b5 : ∀ b, b ≠ 126 + 6 * s → μ5 b = μ3 b := fun b hb => by rw [h5, cpM_ne hb]
  have b7 : ∀ b, b ≠ 127 + 6 * s → μ7 b = μ5 b := fun b hb => by rw [h7, cpM_ne hb]
  have b9 : ∀ b, b ≠ 128 + 6 * s → μ9 b = μ7 b := fun b hb => by rw [h9, cpM_ne hb]
  have b11 : ∀ b, b ≠ 129 + 6 * s → μ11 b = μ9 b := fun b hb => by rw [h11, cpM_ne hb]
  have b13 : ∀ b, b ≠ 130 + 6 * s → μ13 b = μ11 b := fun b hb => by rw [h13, cpM_ne hb]
  refine ⟨μ13, ?_, ?_, ?_, fun k hk => ⟨?_, ?_, ?_, ?_⟩, fun k hk => ?_, fun b hb => ?_⟩
  · unfold f_5_takeFrom
    rw [pf_eq, e0, Option.bind_some, pf_eq, up_ne (by omega), e5, Option.bind_some, ← h3, rf_26_1, r1, e30, cpo_eq (by rw [len_27]; omega) (by rw [l1]; omega) (by omega), Option.bind_some, ← h5, rf_26_2, r2, b5 _ (by omega), e30, cpo_eq (by rw [len_28]; omega) (by rw [l2]; omega) (by omega), Option.bind_some, ← h7, rf_26_3, r3, b7 _ (by omega), b5 _ (by omega), e30, cpo_eq (by rw [len_29]; omega) (by rw [l3]; omega) (by omega), Option.bind_some, ← h9, rf_26_4, r4, b9 _ (by omega), b7 _ (by omega), b5 _ (by omega), e30, cpo_eq (by rw [len_30]; omega) (by rw [l4]; omega) (by omega), Option.bind_some, ← h11, rf_26_6, r6, b11 _ (by omega), b9 _ (by omega), b7 _ (by omega), b5 _ (by omega), e35, cpo_eq (by rw [len_31]; omega) (by rw [l6]; omega) (by omega), Option.bind_some, ← h13]
  · rw [b13 _ (by omega), b11 _ (by omega), b9 _ (by omega), b7 _ (by omega), b5 _ (by omega)]; exact e30
  · rw [b13 _ (by omega), b11 _ (by omega), b9 _ (by omega), b7 _ (by omega), b5 _ (by omega)]; exact e35
  · rw [b13 _ (by omega), b11 _ (by omega), b9 _ (by omega), b7 _ (by omega), h5, cpN_in hk, b3 27 (by omega)]
  · rw [b13 _ (by omega), b11 _ (by omega), b9 _ (by omega), h7, cpN_in hk, b5 28 (by omega), b3 28 (by omega)]
  · rw [b13 _ (by omega), b11 _ (by omega), h9, cpN_in hk, b7 29 (by omega), b5 29 (by omega), b3 29 (by omega)]
  · rw [b13 _ (by omega), h11, cpN_in hk, b9 30 (by omega), b7 30 (by omega), b5 30 (by omega), b3 30 (by omega)]
  · rw [h13, cpN_in hk, b11 31 (by omega), b9 31 (by omega), b7 31 (by omega), b5 31 (by omega), b3 31 (by omega)]
  · rw [b13 _ (by omega), b11 _ (by omega), b9 _ (by omega), b7 _ (by omega), b5 _ (by omega), b3 _ (by omega)]
/-- a stretch of the model's row 1 taken from another row -/
def cpK (ν : mm) (s B i e : Nat) : mm := fun b => if b = 1 then fun k => if B + i ≤ k ∧ k < B + e then ν s (k - B) else ν 1 k else ν b
theorem cpK_ne {ν : mm} {s B i e b : Nat} (h : b ≠ 1) : cpK ν s B i e b = ν b := if_neg h
theorem cpK_in {ν : mm} {s B i e k : Nat} (h : B + i ≤ k ∧ k < B + e) : cpK ν s B i e 1 k = ν s (k - B) := by
  show (if B + i ≤ k ∧ k < B + e then ν s (k - B) else ν 1 k) = _
  rw [if_pos h]
theorem cpK_out {ν : mm} {s B i e k : Nat} (h : ¬ (B + i ≤ k ∧ k < B + e)) : cpK ν s B i e 1 k = ν 1 k := by
  show (if B + i ≤ k ∧ k < B + e then ν s (k - B) else ν 1 k) = _
  rw [if_neg h]
theorem cpK_nil {ν : mm} {s B i e : Nat} (h : e ≤ i) : cpK ν s B i e = ν := by
  funext b
  by_cases hb : b = 1
  · subst hb
    funext k
    exact cpK_out (by omega)
  · exact cpK_ne hb
theorem cpK_up {ν : mm} {s B i e : Nat} (hs : s ≠ 1) (h : i < e) : cpK (up ν 1 (B + i) (ν s i)) s B (i + 1) e = cpK ν s B i e := by
  funext b
  by_cases hb : b = 1
  · subst hb
    funext k
    by_cases c : B + (i + 1) ≤ k ∧ k < B + e
    · rw [cpK_in c, cpK_in (by omega), up_nc hs]
    · rw [cpK_out c]
      by_cases c2 : k = B + i
      · subst c2
        rw [up_at, cpK_in (by omega), show B + i - B = i from by omega]
      · rw [up_ns c2, cpK_out (by omega)]
  · rw [cpK_ne hb, cpK_ne hb, up_ne hb]
theorem copy_40 {B : Nat} (hB : B + 41 ≤ 912) : ∀ (m i f : Nat) (ν : mm), i + m = 40 → m < f → f_12_read_l147 0 (nI B) f (nI i) ν = some (cpK ν 7 (B + 1) i 40) := by
  intro m
  induction m with
  | zero =>
    intro i f ν h1 h2
    obtain ⟨q, rfl⟩ : ∃ q, f = q + 1 := ⟨f - 1, by omega⟩
    unfold f_12_read_l147
    rw [if_pos (show (40 : Int32) ≤ nI i from nI_le (a := 40) (by omega) (by omega)), cpK_nil (by omega)]
  | succ m ih =>
    intro i f ν h1 h2
    obtain ⟨q, rfl⟩ : ∃ q, f = q + 1 := ⟨f - 1, by omega⟩
    unfold f_12_read_l147
    rw [if_neg (show ¬ (40 : Int32) ≤ nI i from nI_ge (b := 40) (by omega) (by decide)), rf_0_17, ldL (show len 7 = 40 from by decide) (by omega) (by decide), Option.bind_some, rf_0_0, nI_1, nI_add, sto1 (by omega), Option.bind_some, nI_1, ih (i + 1) q _ (by omega) (by omega), cpK_up (by decide) (by omega)]
theorem copy_c {B y : Nat} (hB : B + 161 ≤ 912) (hy : y ≤ 120) : ∀ (m i f : Nat) (ν : mm), i + m = y → m < f → ν 0 15 = nI y → f_12_read_l181 0 (nI B) f (nI i) ν = some (cpK ν 8 (B + 41) i y) := by
  intro m
  induction m with
  | zero =>
    intro i f ν h1 h2 e
    obtain ⟨q, rfl⟩ : ∃ q, f = q + 1 := ⟨f - 1, by omega⟩
    unfold f_12_read_l181
    rw [e, if_pos (nI_le (by omega) (by omega)), cpK_nil (by omega)]
  | succ m ih =>
    intro i f ν h1 h2 e
    obtain ⟨q, rfl⟩ : ∃ q, f = q + 1 := ⟨f - 1, by omega⟩
    unfold f_12_read_l181
    rw [e, if_neg (lt_n1 (by omega) (by omega)), rf_0_18, ldL (show len 8 = 120 from by decide) (by omega) (by decide), Option.bind_some, rf_0_0, show (41 : Int32) = nI 41 from rfl, nI_add, nI_add, sto1 (by omega), Option.bind_some, nI_1, ih (i + 1) q _ (by omega) (by omega) (by rw [up_ne (by decide)]; exact e), cpK_up (by decide) (by omega)]
theorem RC_cg2 {v s : Nat} {μ μ' : mm} {g g' : Nat → Int32} (hg : ∀ k, 288 + 161 * s ≤ k → k < 449 + 161 * s → g' k = g k) (hm : ∀ b, v + 76 + 6 * s ≤ b → b < v + 82 + 6 * s → μ' b = μ b) (h : RC v μ g s) : RC v μ' g' s := by
  obtain ⟨n, z, h1, hz, h2, h3, h5, h4⟩ := h
  refine ⟨n, z, h1, hz, ?_, ?_, ?_, fun l hl => ?_⟩
  · rw [hg _ (by omega) (by omega)]; exact h2
  · rw [hm _ (by omega) (by omega)]; exact h3
  · rw [hm _ (by omega) (by omega)]; exact h5
  · obtain ⟨a1, a2, a3, a4, a5, fm, tm, fc, tc, b1, b2, b3, b4, b5, b6, b7, b8, b9, b0⟩ := h4 l hl
    have e1 := hm (v + 77 + 6 * s) (by omega) (by omega)
    have e2 := hm (v + 78 + 6 * s) (by omega) (by omega)
    have e3 := hm (v + 79 + 6 * s) (by omega) (by omega)
    have e4 := hm (v + 80 + 6 * s) (by omega) (by omega)
    have e5 := hm (v + 81 + 6 * s) (by omega) (by omega)
    rw [e1, e2, e3, e4, e5, hg _ (by omega) (by omega), hg _ (by omega) (by omega)]
    refine ⟨a1, a2, a3, a4, a5, fm, tm, fc, tc, ?_, ?_, b3, b4, b5, b6, b7, b8, b9, fun hf => ?_⟩
    · rw [hg _ (by omega) (by omega)]; exact b1
    · rw [hg _ (by omega) (by omega)]; exact b2
    · obtain ⟨φ, p1, p2⟩ := b0 hf
      refine ⟨φ, ?_, p2⟩
      have e6 : slc (fun i => g' (288 + 161 * s + 41 + i)) fm (tm - fm) = slc (fun i => g (288 + 161 * s + 41 + i)) fm (tm - fm) := slc_cg (fun j q1 q2 => hg _ (by omega) (by omega))
      rw [e6]
      exact p1
